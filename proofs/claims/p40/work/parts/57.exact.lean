/-! ===== the compared method, exactly ===== -/
abbrev qX10_row_x (h : fz_H) (s so n : Int) : fz_H → Option fz_V → Prop := fun h' r0 => fz_Iv h' ∧ fz_fr [(48, 99999), (50, 99999), (51, 99999), (52, 99999)] h h' ∧ ∃ r : Int, r0 = some (fz_i r) ∧ ((-14) ≤ r ∧ r ≤ 1) ∧ ((0 ≤ s ∧ s ≤ 5 ∧ 0 ≤ so ∧ so ≤ 4 ∧ n ≤ 60 ∧ n < 0 ∧ r = -14) ∨ (0 ≤ s ∧ s ≤ 5 ∧ 0 ≤ so ∧ so ≤ 4 ∧ n ≤ 60 ∧ 0 ≤ n ∧ r = 1) ∨ (¬ (0 ≤ s ∧ s ≤ 5 ∧ 0 ≤ so ∧ so ≤ 4 ∧ n ≤ 60) ∧ r = -1))
set_option maxHeartbeats 1000000 in
set_option maxRecDepth 100000 in
theorem sX10_row_x (h : fz_H) (hI : fz_Iv h) (s so n : Int) : fz_R 3 mX10_row 0 [(0, fz_r 0), (1, fz_i s), (2, fz_i so), (3, fz_i n)] [] h (qX10_row_x h s so n) := by
  refine fz_knowl (fun hk => ?_)
  have hr_s : -2147483648 ≤ s ∧ s < 2147483648 := hk _ (List.Mem.tail _ (List.Mem.head _))
  have hr_so : -2147483648 ≤ so ∧ so < 2147483648 := hk _ (List.Mem.tail _ (List.Mem.tail _ (List.Mem.head _)))
  have hr_n : -2147483648 ≤ n ∧ n < 2147483648 := hk _ (List.Mem.tail _ (List.Mem.tail _ (List.Mem.tail _ (List.Mem.head _))))
  clear hk
  have hf : fz_fr [(48, 99999), (50, 99999), (51, 99999), (52, 99999)] h h := fz_fr_rf
  refine fz_aload_n kX10_row rfl rfl ?_
  refine fz_getR (t := 47) kX10_row rfl rfl ?_
  refine fz_iload_n kX10_row rfl rfl ?_
  refine fz_callV (d' := 0) (M' := mX7_isShelf) (As := [fz_i s]) (st := []) kX10_row rfl rfl vX7_isShelf rfl rfl rfl rfl (Nat.le_of_ble_eq_true rfl) (Nat.le_of_ble_eq_true rfl) (by decide) (sX7_isShelf h hI s ) (fun H1 r2 q3 o4 => ?_)
  obtain ⟨e5, y6, rfl, p7⟩ := q3
  subst H1
  clear o4
  rcases p7 with ⟨rfl, c8⟩ | ⟨rfl, c8⟩
  · refine fz_if_eq (tgt := 26) kX10_row rfl (by decide) (fun c9 => ?_) (fun c9 => ?_)
    · exfalso; omega
    · refine fz_iload_n kX10_row rfl rfl ?_
      refine fz_if_lt (tgt := 26) kX10_row rfl (by decide) (fun c10 => ?_) (fun c10 => ?_)
      · refine fz_iconst ⟨by decide, by decide⟩ kX10_row rfl ?_
        exact fz_iret kX10_row rfl rfl (fun _ => ⟨hI, hf, _, rfl, (by omega), (by omega)⟩)
      · refine fz_iload_n kX10_row rfl rfl ?_
        refine fz_iconst ⟨by decide, by decide⟩ kX10_row rfl ?_
        refine fz_icmp_gt (tgt := 26) kX10_row rfl (by decide) (fun c11 => ?_) (fun c11 => ?_)
        · refine fz_iconst ⟨by decide, by decide⟩ kX10_row rfl ?_
          exact fz_iret kX10_row rfl rfl (fun _ => ⟨hI, hf, _, rfl, (by omega), (by omega)⟩)
        · refine fz_iload_n kX10_row rfl rfl ?_
          refine fz_bipush ⟨by decide, by decide⟩ kX10_row rfl ?_
          refine fz_icmp_le (tgt := 28) kX10_row rfl (by decide) (fun c12 => ?_) (fun c12 => ?_)
          · refine fz_iload_n kX10_row rfl rfl ?_
            refine fz_if_ge (tgt := 35) kX10_row rfl (by decide) (fun c13 => ?_) (fun c13 => ?_)
            · refine fz_aload_n kX10_row rfl rfl ?_
              refine fz_getR (t := 47) kX10_row rfl rfl ?_
              refine fz_iload_n kX10_row rfl rfl ?_
              refine fz_iload_n kX10_row rfl rfl ?_
              refine fz_iload_n kX10_row rfl rfl ?_
              refine fz_callV (d' := 2) (M' := mX7_setRow) (As := [fz_i s, fz_i so, fz_i n]) (st := []) kX10_row rfl rfl vX7_setRow rfl rfl rfl rfl (Nat.le_of_ble_eq_true rfl) (Nat.le_of_ble_eq_true rfl) (by decide) (sX7_setRow h hI s so n (by omega) (by omega) (by omega)) (fun H14 r15 q16 o17 => ?_)
              obtain ⟨hI18, hf19, rfl⟩ := q16
              clear o17
              have hf20 := fz_fr_tr hf hf19 (show fz_su [(48, 99999), (50, 99999), (51, 99999), (52, 99999)] [(48, 99999), (50, 99999), (51, 99999), (52, 99999)] = true from rfl)
              refine fz_iconst ⟨by decide, by decide⟩ kX10_row rfl ?_
              exact fz_iret kX10_row rfl rfl (fun _ => ⟨hI18, hf20, _, rfl, (by omega), (by omega)⟩)
            · refine fz_bipush ⟨by decide, by decide⟩ kX10_row rfl ?_
              exact fz_iret kX10_row rfl rfl (fun _ => ⟨hI, hf, _, rfl, (by omega), (by omega)⟩)
          · refine fz_iconst ⟨by decide, by decide⟩ kX10_row rfl ?_
            exact fz_iret kX10_row rfl rfl (fun _ => ⟨hI, hf, _, rfl, (by omega), (by omega)⟩)
  · refine fz_if_eq (tgt := 26) kX10_row rfl (by decide) (fun c21 => ?_) (fun c21 => ?_)
    · refine fz_iconst ⟨by decide, by decide⟩ kX10_row rfl ?_
      exact fz_iret kX10_row rfl rfl (fun _ => ⟨hI, hf, _, rfl, (by omega), (by omega)⟩)
    · exfalso; omega

abbrev qX11_row_x (h : fz_H) (s so n : Int) : fz_H → Option fz_V → Prop := fun h' r0 => fz_Iv h' ∧ fz_fr [(83, 99999), (84, 99999), (85, 99999)] h h' ∧ fz_Xh h' ∧ ∃ r : Int, r0 = some (fz_i r) ∧ ((-14) ≤ r ∧ r ≤ 1) ∧ ((0 ≤ s ∧ s ≤ 5 ∧ 0 ≤ so ∧ so ≤ 4 ∧ n ≤ 60 ∧ n < 0 ∧ r = -14) ∨ (0 ≤ s ∧ s ≤ 5 ∧ 0 ≤ so ∧ so ≤ 4 ∧ n ≤ 60 ∧ 0 ≤ n ∧ r = 1) ∨ (¬ (0 ≤ s ∧ s ≤ 5 ∧ 0 ≤ so ∧ so ≤ 4 ∧ n ≤ 60) ∧ r = -1))
set_option maxHeartbeats 1000000 in
set_option maxRecDepth 100000 in
theorem sX11_row_x (h : fz_H) (hI : fz_Iv h) (s so n : Int) (hXh : fz_Xh h) : fz_R 2 mX11_row 0 [(0, fz_r 53), (1, fz_i s), (2, fz_i so), (3, fz_i n)] [] h (qX11_row_x h s so n) := by
  refine fz_knowl (fun hk => ?_)
  have hr_s : -2147483648 ≤ s ∧ s < 2147483648 := hk _ (List.Mem.tail _ (List.Mem.head _))
  have hr_so : -2147483648 ≤ so ∧ so < 2147483648 := hk _ (List.Mem.tail _ (List.Mem.tail _ (List.Mem.head _)))
  have hr_n : -2147483648 ≤ n ∧ n < 2147483648 := hk _ (List.Mem.tail _ (List.Mem.tail _ (List.Mem.tail _ (List.Mem.head _))))
  clear hk
  have hf : fz_fr [(83, 99999), (84, 99999), (85, 99999)] h h := fz_fr_rf
  refine fz_iload_n kX11_row rfl rfl ?_
  refine fz_callS (d' := 1) (M' := mX11_isShelf) (As := [fz_i s]) (st := []) kX11_row rfl rfl vX11_isShelf rfl rfl (Nat.le_of_ble_eq_true rfl) (Nat.le_of_ble_eq_true rfl) (by decide) (sX11_isShelf h hI s ) (fun H1 r2 q3 o4 => ?_)
  obtain ⟨e5, y6, rfl, p7⟩ := q3
  subst H1
  clear o4
  rcases p7 with ⟨rfl, c8⟩ | ⟨rfl, c8⟩
  · refine fz_if_eq (tgt := 22) kX11_row rfl (by decide) (fun c9 => ?_) (fun c9 => ?_)
    · exfalso; omega
    · refine fz_iload_n kX11_row rfl rfl ?_
      refine fz_iconst ⟨by decide, by decide⟩ kX11_row rfl ?_
      refine fz_iconst ⟨by decide, by decide⟩ kX11_row rfl ?_
      refine fz_callS (d' := 0) (M' := mX11_within) (As := [fz_i so, fz_i 0, fz_i 4]) (st := []) kX11_row rfl rfl vX11_within rfl rfl (Nat.le_of_ble_eq_true rfl) (Nat.le_of_ble_eq_true rfl) (by decide) (sX11_within h hI so 0 4 ) (fun H10 r11 q12 o13 => ?_)
      obtain ⟨e14, y15, rfl, p16⟩ := q12
      subst H10
      clear o13
      rcases p16 with ⟨rfl, c17⟩ | ⟨rfl, c17⟩
      · refine fz_if_eq (tgt := 22) kX11_row rfl (by decide) (fun c18 => ?_) (fun c18 => ?_)
        · exfalso; omega
        · refine fz_iload_n kX11_row rfl rfl ?_
          refine fz_bipush ⟨by decide, by decide⟩ kX11_row rfl ?_
          refine fz_icmp_le (tgt := 24) kX11_row rfl (by decide) (fun c19 => ?_) (fun c19 => ?_)
          · refine fz_iload_n kX11_row rfl rfl ?_
            refine fz_if_ge (tgt := 31) kX11_row rfl (by decide) (fun c20 => ?_) (fun c20 => ?_)
            · refine fz_aload_n kX11_row rfl rfl ?_
              refine fz_getR (t := 83) kX11_row rfl rfl ?_
              refine fz_iload_n kX11_row rfl rfl ?_
              refine fz_iload_n kX11_row rfl rfl ?_
              refine fz_iast (n := 6) kX11_row rfl rfl (by omega) (by omega) ?_
              refine fz_nmu (S := [(83, 99999), (84, 99999), (85, 99999)]) (h0 := h) (fz_Iv_up hI (by decide) (show (-1) ≤ so by omega) (show so ≤ 59 by omega)) (fz_fr_up hf rfl) (fun H21 hI22 hf23 e24 => ?_)
              have hXh25 : fz_Xh H21 := by rw [e24]; exact fz_Xh_st hXh (by omega)
              clear e24
              refine fz_aload_n kX11_row rfl rfl ?_
              refine fz_getR (t := 84) kX11_row rfl rfl ?_
              refine fz_iload_n kX11_row rfl rfl ?_
              refine fz_iload_n kX11_row rfl rfl ?_
              refine fz_iast (n := 6) kX11_row rfl rfl (by omega) (by omega) ?_
              refine fz_nmu (S := [(83, 99999), (84, 99999), (85, 99999)]) (h0 := h) (fz_Iv_up hI22 (by decide) (show 0 ≤ n by omega) (show n ≤ 60 by omega)) (fz_fr_up hf23 rfl) (fun H27 hI28 hf29 e30 => ?_)
              have hXh31 : fz_Xh H27 := fz_Xh_eq (by rw [e30]; exact fz_up_ne (by decide)) hXh25
              clear e30
              refine fz_iconst ⟨by decide, by decide⟩ kX11_row rfl ?_
              refine fz_istore (ls' := [(4, fz_i 0), (0, fz_r 53), (1, fz_i s), (2, fz_i so), (3, fz_i n)]) kX11_row rfl (by decide) rfl ?_
              have lp38 : ∀ (n37 : Nat) (x32 : Int) (H34 : fz_H), fz_Iv H34 → fz_fr [(83, 99999), (84, 99999), (85, 99999)] h H34 → fz_Xh H34 → (0 ≤ x32 ∧ x32 ≤ 2147483647) → (60 - x32).toNat < n37 → fz_R 2 mX11_row 48 [(4, fz_i x32), (0, fz_r 53), (1, fz_i s), (2, fz_i so), (3, fz_i n)] [] H34 (qX11_row_x h s so n) := by
                intro n37
                induction n37 with
                | zero => intro x32 H34 hI35 hf36 hXh33 hv41 hm40; exact absurd hm40 (by omega)
                | succ n37 ih39 =>
                  intro x32 H34 hI35 hf36 hXh33 hv41 hm40
                  refine fz_iload kX11_row rfl rfl ?_
                  refine fz_bipush ⟨by decide, by decide⟩ kX11_row rfl ?_
                  refine fz_icmp_ge (tgt := 74) kX11_row rfl (by decide) (fun c42 => ?_) (fun c42 => ?_)
                  · refine fz_iconst ⟨by decide, by decide⟩ kX11_row rfl ?_
                    exact fz_iret kX11_row rfl rfl (fun _ => ⟨hI35, hf36, hXh33, _, rfl, (by omega), (by omega)⟩)
                  · refine fz_aload_n kX11_row rfl rfl ?_
                    refine fz_getR (t := 85) kX11_row rfl rfl ?_
                    refine fz_bipush ⟨by decide, by decide⟩ kX11_row rfl ?_
                    refine fz_iload_n kX11_row rfl rfl ?_
                    refine fz_imulN kX11_row rfl (by omega) ?_
                    refine fz_iload kX11_row rfl rfl ?_
                    refine fz_iaddN kX11_row rfl (by omega) ?_
                    refine fz_lconst (x := 0) ⟨by decide, by decide⟩ rfl kX11_row rfl ?_
                    refine fz_last (n := 360) kX11_row rfl rfl (by omega) (by omega) ?_
                    refine fz_nmu (S := [(83, 99999), (84, 99999), (85, 99999)]) (h0 := h) (fz_Iv_up hI35 (by decide) (show (-9223372036854775808) ≤ 0 by omega) (show 0 ≤ 9223372036854775807 by omega)) (fz_fr_up hf36 rfl) (fun H43 hI44 hf45 e46 => ?_)
                    have hXh47 : fz_Xh H43 := fz_Xh_eq (by rw [e46]; exact fz_up_ne (by decide)) hXh33
                    clear e46
                    refine fz_iincN (ls' := [(4, fz_i (x32 + 1)), (0, fz_r 53), (1, fz_i s), (2, fz_i so), (3, fz_i n)]) kX11_row rfl (by decide) rfl (by omega) rfl ?_
                    refine fz_goto (tgt := 48) kX11_row rfl (by decide) ?_
                    exact ih39 (x32 + 1) H43 hI44 hf45 hXh47 (by omega) (by omega)
              exact lp38 _ 0 H27 hI28 hf29 hXh31 (by omega) (Nat.lt_succ_self _)
            · refine fz_bipush ⟨by decide, by decide⟩ kX11_row rfl ?_
              exact fz_iret kX11_row rfl rfl (fun _ => ⟨hI, hf, hXh, _, rfl, (by omega), (by omega)⟩)
          · refine fz_iconst ⟨by decide, by decide⟩ kX11_row rfl ?_
            exact fz_iret kX11_row rfl rfl (fun _ => ⟨hI, hf, hXh, _, rfl, (by omega), (by omega)⟩)
      · refine fz_if_eq (tgt := 22) kX11_row rfl (by decide) (fun c48 => ?_) (fun c48 => ?_)
        · refine fz_iconst ⟨by decide, by decide⟩ kX11_row rfl ?_
          exact fz_iret kX11_row rfl rfl (fun _ => ⟨hI, hf, hXh, _, rfl, (by omega), (by omega)⟩)
        · exfalso; omega
  · refine fz_if_eq (tgt := 22) kX11_row rfl (by decide) (fun c49 => ?_) (fun c49 => ?_)
    · refine fz_iconst ⟨by decide, by decide⟩ kX11_row rfl ?_
      exact fz_iret kX11_row rfl rfl (fun _ => ⟨hI, hf, hXh, _, rfl, (by omega), (by omega)⟩)
    · exfalso; omega
