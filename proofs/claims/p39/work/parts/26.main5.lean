/-! ===== what the methods keep ===== -/
abbrev qX10_walk (h : fz_H) (on rd : Int) : fz_H → Option fz_V → Prop := fun h' r0 => fz_Iv h' ∧ fz_fr [(18, 99999), (19, 99999), (29, 99999), (40, 1), (40, 2), (40, 3), (40, 4), (41, 99999)] h h' ∧ ∃ r : Int, r0 = some (fz_i r) ∧ ((-5) ≤ r ∧ r ≤ 7)
set_option maxHeartbeats 1000000 in
set_option maxRecDepth 100000 in
theorem sX10_walk (h : fz_H) (hI : fz_Iv h) (on rd : Int) : fz_R 5 mX10_walk 0 [(0, fz_r 0), (1, fz_i on), (2, fz_i rd)] [] h (qX10_walk h on rd) := by
  refine fz_knowl (fun hk => ?_)
  have hr_on : -2147483648 ≤ on ∧ on < 2147483648 := hk _ (List.Mem.tail _ (List.Mem.head _))
  have hr_rd : -2147483648 ≤ rd ∧ rd < 2147483648 := hk _ (List.Mem.tail _ (List.Mem.tail _ (List.Mem.head _)))
  clear hk
  have hf : fz_fr [(18, 99999), (19, 99999), (29, 99999), (40, 1), (40, 2), (40, 3), (40, 4), (41, 99999)] h h := fz_fr_rf
  refine fz_aload_n kX10_walk rfl rfl ?_
  refine fz_iload_n kX10_walk rfl rfl ?_
  refine fz_callV (d' := 0) (M' := mX10_isOne) (As := [fz_i on]) (st := []) kX10_walk rfl rfl vX10_isOne rfl rfl rfl rfl (Nat.le_of_ble_eq_true rfl) (Nat.le_of_ble_eq_true rfl) (by decide) (sX10_isOne h hI on ) (fun H1 r2 q3 o4 => ?_)
  obtain ⟨e5, y6, rfl, p7⟩ := q3
  subst H1
  clear o4
  rcases p7 with ⟨rfl, c8⟩ | ⟨rfl, c8⟩
  · refine fz_if_eq (tgt := 19) kX10_walk rfl (by decide) (fun c9 => ?_) (fun c9 => ?_)
    · exfalso; omega
    · refine fz_aload_n kX10_walk rfl rfl ?_
      refine fz_getR (t := 1) kX10_walk rfl rfl ?_
      refine fz_iload_n kX10_walk rfl rfl ?_
      have b10 : 0 ≤ h 1 8 ∧ h 1 8 ≤ 12 := hI.1 1 _
      refine fz_callV (d' := 0) (M' := mX2_isRoad) (As := [fz_i rd]) (st := []) kX10_walk rfl rfl vX2_isRoad rfl rfl rfl rfl (Nat.le_of_ble_eq_true rfl) (Nat.le_of_ble_eq_true rfl) (by decide) (sX2_isRoad h hI rd ) (fun H11 r12 q13 o14 => ?_)
      obtain ⟨e15, y16, rfl, p17⟩ := q13
      subst H11
      clear o14
      rcases p17 with ⟨rfl, c18⟩ | ⟨rfl, c18⟩
      · refine fz_if_ne (tgt := 21) kX10_walk rfl (by decide) (fun c19 => ?_) (fun c19 => ?_)
        · refine fz_aload_n kX10_walk rfl rfl ?_
          refine fz_getR (t := 1) kX10_walk rfl rfl ?_
          refine fz_iload_n kX10_walk rfl rfl ?_
          refine fz_aload_n kX10_walk rfl rfl ?_
          refine fz_getR (t := 40) kX10_walk rfl rfl ?_
          refine fz_getR (t := 41) kX10_walk rfl rfl ?_
          refine fz_iload_n kX10_walk rfl rfl ?_
          refine fz_ialdV (n := 4) (v := h 41 (on.toNat)) kX10_walk rfl rfl (by omega) (by omega) rfl ?_
          have b20 : 0 ≤ h 41 (on.toNat) ∧ h 41 (on.toNat) ≤ 7 := hI.1 41 _
          refine fz_callV (d' := 0) (M' := mX2_acrossFrom) (As := [fz_i rd, fz_i (h 41 (on.toNat))]) (st := []) kX10_walk rfl rfl vX2_acrossFrom rfl rfl rfl rfl (Nat.le_of_ble_eq_true rfl) (Nat.le_of_ble_eq_true rfl) (by decide) (sX2_acrossFrom h hI rd (h 41 (on.toNat)) (by omega)) (fun H21 r22 q23 o24 => ?_)
          obtain ⟨e25, y27, rfl, f26⟩ := q23
          subst H21
          clear o24
          refine fz_istore_n (ls' := [(3, fz_i y27), (0, fz_r 0), (1, fz_i on), (2, fz_i rd)]) kX10_walk rfl (by decide) rfl ?_
          refine fz_iload_n kX10_walk rfl rfl ?_
          refine fz_if_ge (tgt := 46) kX10_walk rfl (by decide) (fun c28 => ?_) (fun c28 => ?_)
          · refine fz_aload_n kX10_walk rfl rfl ?_
            refine fz_getR (t := 1) kX10_walk rfl rfl ?_
            refine fz_getR (t := 3) kX10_walk rfl rfl ?_
            refine fz_iload_n kX10_walk rfl rfl ?_
            refine fz_ialdV (n := 12) (v := h 3 (rd.toNat)) kX10_walk rfl rfl (by omega) (by omega) rfl ?_
            have b29 : 0 ≤ h 3 (rd.toNat) ∧ h 3 (rd.toNat) ≤ 24 := hI.1 3 _
            refine fz_istore (ls' := [(4, fz_i (h 3 (rd.toNat))), (3, fz_i y27), (0, fz_r 0), (1, fz_i on), (2, fz_i rd)]) kX10_walk rfl (by decide) rfl ?_
            refine fz_aload_n kX10_walk rfl rfl ?_
            refine fz_getR (t := 40) kX10_walk rfl rfl ?_
            refine fz_getV (v := h 40 1) kX10_walk rfl rfl rfl ?_
            have b30 : 0 ≤ h 40 1 ∧ h 40 1 ≤ 999 := hI.1 40 _
            refine fz_iload kX10_walk rfl rfl ?_
            refine fz_iaddN kX10_walk rfl (by omega) ?_
            refine fz_sipush ⟨by decide, by decide⟩ kX10_walk rfl ?_
            refine fz_icmp_le (tgt := 76) kX10_walk rfl (by decide) (fun c31 => ?_) (fun c31 => ?_)
            · refine fz_aload_n kX10_walk rfl rfl ?_
              refine fz_getR (t := 40) kX10_walk rfl rfl ?_
              refine fz_iload_n kX10_walk rfl rfl ?_
              refine fz_iload_n kX10_walk rfl rfl ?_
              refine fz_iload kX10_walk rfl rfl ?_
              refine fz_callV (d' := 0) (M' := mX1_go) (As := [fz_i on, fz_i y27, fz_i (h 3 (rd.toNat))]) (st := []) kX10_walk rfl rfl vX1_go rfl rfl rfl rfl (Nat.le_of_ble_eq_true rfl) (Nat.le_of_ble_eq_true rfl) (by decide) (sX1_go h hI on y27 (h 3 (rd.toNat)) (by omega) (by omega) (by omega) (by omega)) (fun H32 r33 q34 o35 => ?_)
              obtain ⟨hI36, hf37, rfl⟩ := q34
              clear o35
              have hf38 := fz_fr_tr hf hf37 (show fz_su [(40, 1), (40, 2), (40, 3), (41, 99999)] [(18, 99999), (19, 99999), (29, 99999), (40, 1), (40, 2), (40, 3), (40, 4), (41, 99999)] = true from rfl)
              refine fz_aload_n kX10_walk rfl rfl ?_
              refine fz_getR (t := 27) kX10_walk rfl rfl ?_
              refine fz_iload_n kX10_walk rfl rfl ?_
              refine fz_iload_n kX10_walk rfl rfl ?_
              refine fz_iload_n kX10_walk rfl rfl ?_
              refine fz_aload_n kX10_walk rfl rfl ?_
              refine fz_getR (t := 40) kX10_walk rfl rfl ?_
              obtain ⟨v39, e40⟩ : ∃ z, H32 40 (1) = z := ⟨_, rfl⟩
              refine fz_getV (v := v39) kX10_walk rfl rfl e40 ?_
              have b41 : 0 ≤ v39 ∧ v39 ≤ 999 := by rw [← e40]; exact hI36.1 40 _
              refine fz_callV (d' := 4) (M' := mX8_listen) (As := [fz_i on, fz_i on, fz_i y27, fz_i v39]) (st := []) kX10_walk rfl rfl vX8_listen rfl rfl rfl rfl (Nat.le_of_ble_eq_true rfl) (Nat.le_of_ble_eq_true rfl) (by decide) (sX8_listen H32 hI36 on on y27 v39 (by omega)) (fun H42 r43 q44 o45 => ?_)
              obtain ⟨hI46, hf47, rfl⟩ := q44
              clear o45
              have hf48 := fz_fr_tr hf38 hf47 (show fz_su [(18, 99999), (19, 99999), (29, 99999)] [(18, 99999), (19, 99999), (29, 99999), (40, 1), (40, 2), (40, 3), (40, 4), (41, 99999)] = true from rfl)
              have k49 : H42 40 1 = v39 := (hf47 40 1 rfl).trans e40
              refine fz_aload_n kX10_walk rfl rfl ?_
              refine fz_getR (t := 40) kX10_walk rfl rfl ?_
              refine fz_dup rfl kX10_walk rfl ?_
              obtain ⟨v50, e51⟩ : ∃ z, H42 40 (4) = z := ⟨_, rfl⟩
              refine fz_getV (v := v50) kX10_walk rfl rfl e51 ?_
              have b52 : (-2147483648) ≤ v50 ∧ v50 ≤ 2147483647 := by rw [← e51]; exact hI46.1 40 _
              refine fz_aload_n kX10_walk rfl rfl ?_
              refine fz_getR (t := 27) kX10_walk rfl rfl ?_
              refine fz_callV (d' := 1) (M' := mX8_isArrested) (As := []) (st := [fz_i v50, fz_r 40]) kX10_walk rfl rfl vX8_isArrested rfl rfl rfl rfl (Nat.le_of_ble_eq_true rfl) (Nat.le_of_ble_eq_true rfl) (by decide) (sX8_isArrested H42 hI46  ) (fun H53 r54 q55 o56 => ?_)
              obtain ⟨e57, y58, rfl, p59⟩ := q55
              subst H53
              clear o56
              refine fz_if_eq (tgt := 126) kX10_walk rfl (by decide) (fun c60 => ?_) (fun c60 => ?_)
              · refine fz_iconst ⟨by decide, by decide⟩ kX10_walk rfl ?_
                refine fz_iaddN kX10_walk rfl (by omega) ?_
                refine fz_putI kX10_walk rfl rfl rfl ?_
                refine fz_nmu (S := [(18, 99999), (19, 99999), (29, 99999), (40, 1), (40, 2), (40, 3), (40, 4), (41, 99999)]) (h0 := h) (fz_Iv_up hI46 (by decide) (show (-2147483648) ≤ (v50 + 0) by omega) (show (v50 + 0) ≤ 2147483647 by omega)) (fz_fr_up hf48 rfl) (fun H61 hI62 hf63 e64 => ?_)
                have k65 : H61 40 1 = v39 := by rw [e64]; exact (fz_up_s (by decide)).trans k49
                have k66 : H61 40 4 = (v50 + 0) := by rw [e64]; exact fz_up_e
                clear e64
                refine fz_iload_n kX10_walk rfl rfl ?_
                exact fz_iret kX10_walk rfl rfl (fun _ => ⟨hI62, hf63, _, rfl, (by omega)⟩)
              · refine fz_iconst ⟨by decide, by decide⟩ kX10_walk rfl ?_
                refine fz_goto (tgt := 127) kX10_walk rfl (by decide) ?_
                refine fz_iadd kX10_walk rfl ?_
                refine fz_nmw (fun z67 e68 => ?_)
                refine fz_putI kX10_walk rfl rfl rfl ?_
                refine fz_nmu (S := [(18, 99999), (19, 99999), (29, 99999), (40, 1), (40, 2), (40, 3), (40, 4), (41, 99999)]) (h0 := h) (fz_Iv_up hI46 (by decide) (show (-2147483648) ≤ z67 by omega) (show z67 ≤ 2147483647 by omega)) (fz_fr_up hf48 rfl) (fun H69 hI70 hf71 e72 => ?_)
                have k73 : H69 40 1 = v39 := by rw [e72]; exact (fz_up_s (by decide)).trans k49
                have k74 : H69 40 4 = z67 := by rw [e72]; exact fz_up_e
                clear e72
                refine fz_iload_n kX10_walk rfl rfl ?_
                exact fz_iret kX10_walk rfl rfl (fun _ => ⟨hI70, hf71, _, rfl, (by omega)⟩)
            · refine fz_bipush ⟨by decide, by decide⟩ kX10_walk rfl ?_
              exact fz_iret kX10_walk rfl rfl (fun _ => ⟨hI, hf, _, rfl, (by omega)⟩)
          · refine fz_bipush ⟨by decide, by decide⟩ kX10_walk rfl ?_
            exact fz_iret kX10_walk rfl rfl (fun _ => ⟨hI, hf, _, rfl, (by omega)⟩)
        · exfalso; omega
      · refine fz_if_ne (tgt := 21) kX10_walk rfl (by decide) (fun c75 => ?_) (fun c75 => ?_)
        · exfalso; omega
        · refine fz_iconst ⟨by decide, by decide⟩ kX10_walk rfl ?_
          exact fz_iret kX10_walk rfl rfl (fun _ => ⟨hI, hf, _, rfl, (by omega)⟩)
  · refine fz_if_eq (tgt := 19) kX10_walk rfl (by decide) (fun c76 => ?_) (fun c76 => ?_)
    · refine fz_iconst ⟨by decide, by decide⟩ kX10_walk rfl ?_
      exact fz_iret kX10_walk rfl rfl (fun _ => ⟨hI, hf, _, rfl, (by omega)⟩)
    · exfalso; omega

abbrev qX10_does (h : fz_H) (pm wt : Int) : fz_H → Option fz_V → Prop := fun h' r0 => fz_Iv h' ∧ fz_fr [(9, 5), (10, 99999), (11, 99999), (12, 99999), (13, 99999), (14, 99999), (40, 5)] h h' ∧ ∃ r : Int, r0 = some (fz_i r) ∧ ((-3) ≤ r ∧ r ≤ 9)
set_option maxHeartbeats 1000000 in
set_option maxRecDepth 100000 in
theorem sX10_does (h : fz_H) (hI : fz_Iv h) (pm wt : Int) : fz_R 2 mX10_does 0 [(0, fz_r 0), (1, fz_i pm), (2, fz_i wt)] [] h (qX10_does h pm wt) := by
  refine fz_knowl (fun hk => ?_)
  have hr_pm : -2147483648 ≤ pm ∧ pm < 2147483648 := hk _ (List.Mem.tail _ (List.Mem.head _))
  have hr_wt : -2147483648 ≤ wt ∧ wt < 2147483648 := hk _ (List.Mem.tail _ (List.Mem.tail _ (List.Mem.head _)))
  clear hk
  have hf : fz_fr [(9, 5), (10, 99999), (11, 99999), (12, 99999), (13, 99999), (14, 99999), (40, 5)] h h := fz_fr_rf
  refine fz_aload_n kX10_does rfl rfl ?_
  refine fz_iload_n kX10_does rfl rfl ?_
  refine fz_callV (d' := 1) (M' := mX10_isMarkOfOne) (As := [fz_i pm]) (st := []) kX10_does rfl rfl vX10_isMarkOfOne rfl rfl rfl rfl (Nat.le_of_ble_eq_true rfl) (Nat.le_of_ble_eq_true rfl) (by decide) (sX10_isMarkOfOne h hI pm ) (fun H1 r2 q3 o4 => ?_)
  obtain ⟨e5, y6, rfl, p7⟩ := q3
  subst H1
  clear o4
  rcases p7 with ⟨rfl, c8⟩ | ⟨rfl, c8⟩
  · refine fz_if_eq (tgt := 38) kX10_does rfl (by decide) (fun c9 => ?_) (fun c9 => ?_)
    · exfalso; omega
    · refine fz_aload_n kX10_does rfl rfl ?_
      refine fz_iload_n kX10_does rfl rfl ?_
      refine fz_callV (d' := 0) (M' := mX10_isWeight) (As := [fz_i wt]) (st := []) kX10_does rfl rfl vX10_isWeight rfl rfl rfl rfl (Nat.le_of_ble_eq_true rfl) (Nat.le_of_ble_eq_true rfl) (by decide) (sX10_isWeight h hI wt ) (fun H10 r11 q12 o13 => ?_)
      obtain ⟨e14, y15, rfl, p16⟩ := q12
      subst H10
      clear o13
      rcases p16 with ⟨rfl, c17⟩ | ⟨rfl, c17⟩
      · refine fz_if_eq (tgt := 38) kX10_does rfl (by decide) (fun c18 => ?_) (fun c18 => ?_)
        · exfalso; omega
        · refine fz_aload_n kX10_does rfl rfl ?_
          refine fz_getR (t := 1) kX10_does rfl rfl ?_
          refine fz_aload_n kX10_does rfl rfl ?_
          refine fz_getR (t := 40) kX10_does rfl rfl ?_
          refine fz_getR (t := 41) kX10_does rfl rfl ?_
          refine fz_iload_n kX10_does rfl rfl ?_
          refine fz_bipush ⟨by decide, by decide⟩ kX10_does rfl ?_
          refine fz_idivN kX10_does rfl (by omega) (by omega) (by omega) ?_
          refine fz_ialdV (n := 4) (v := h 41 ((pm / 10).toNat)) kX10_does rfl rfl (by omega) (by omega) rfl ?_
          have b19 : 0 ≤ h 41 ((pm / 10).toNat) ∧ h 41 ((pm / 10).toNat) ≤ 7 := hI.1 41 _
          have b20 : 0 ≤ h 1 7 ∧ h 1 7 ≤ 8 := hI.1 1 _
          refine fz_callV (d' := 0) (M' := mX2_isTown) (As := [fz_i (h 41 ((pm / 10).toNat))]) (st := []) kX10_does rfl rfl vX2_isTown rfl rfl rfl rfl (Nat.le_of_ble_eq_true rfl) (Nat.le_of_ble_eq_true rfl) (by decide) (sX2_isTown h hI (h 41 ((pm / 10).toNat)) ) (fun H21 r22 q23 o24 => ?_)
          obtain ⟨e25, y26, rfl, p27⟩ := q23
          subst H21
          clear o24
          rcases p27 with ⟨rfl, c28⟩ | ⟨rfl, c28⟩
          · refine fz_if_ne (tgt := 40) kX10_does rfl (by decide) (fun c29 => ?_) (fun c29 => ?_)
            · refine fz_aload_n kX10_does rfl rfl ?_
              refine fz_getR (t := 9) kX10_does rfl rfl ?_
              refine fz_iload_n kX10_does rfl rfl ?_
              refine fz_bipush ⟨by decide, by decide⟩ kX10_does rfl ?_
              refine fz_idivN kX10_does rfl (by omega) (by omega) (by omega) ?_
              refine fz_aload_n kX10_does rfl rfl ?_
              refine fz_getR (t := 40) kX10_does rfl rfl ?_
              refine fz_getR (t := 41) kX10_does rfl rfl ?_
              refine fz_iload_n kX10_does rfl rfl ?_
              refine fz_bipush ⟨by decide, by decide⟩ kX10_does rfl ?_
              refine fz_idivN kX10_does rfl (by omega) (by omega) (by omega) ?_
              refine fz_ialdV (n := 4) (v := h 41 ((pm / 10).toNat)) kX10_does rfl rfl (by omega) (by omega) rfl ?_
              refine fz_aload_n kX10_does rfl rfl ?_
              refine fz_getR (t := 40) kX10_does rfl rfl ?_
              refine fz_getV (v := h 40 1) kX10_does rfl rfl rfl ?_
              have b30 : 0 ≤ h 40 1 ∧ h 40 1 ≤ 999 := hI.1 40 _
              refine fz_iload_n kX10_does rfl rfl ?_
              refine fz_bipush ⟨by decide, by decide⟩ kX10_does rfl ?_
              refine fz_iremN kX10_does rfl (by omega) (by omega) (by omega) ?_
              refine fz_iload_n kX10_does rfl rfl ?_
              refine fz_callV (d' := 1) (M' := mX4_enter) (As := [fz_i (pm / 10), fz_i (h 41 ((pm / 10).toNat)), fz_i (h 40 1), fz_i (pm % 10), fz_i wt]) (st := []) kX10_does rfl rfl vX4_enter rfl rfl rfl rfl (Nat.le_of_ble_eq_true rfl) (Nat.le_of_ble_eq_true rfl) (by decide) (sX4_enter h hI (pm / 10) (h 41 ((pm / 10).toNat)) (h 40 1) (pm % 10) wt (by omega) (by omega) (by omega) (by omega) (by omega)) (fun H31 r32 q33 o34 => ?_)
              obtain ⟨hI35, hf36, y38, rfl, f37⟩ := q33
              clear o34
              have hf39 := fz_fr_tr hf hf36 (show fz_su [(9, 5), (10, 99999), (11, 99999), (12, 99999), (13, 99999), (14, 99999)] [(9, 5), (10, 99999), (11, 99999), (12, 99999), (13, 99999), (14, 99999), (40, 5)] = true from rfl)
              refine fz_istore_n (ls' := [(3, fz_i y38), (0, fz_r 0), (1, fz_i pm), (2, fz_i wt)]) kX10_does rfl (by decide) rfl ?_
              refine fz_aload_n kX10_does rfl rfl ?_
              refine fz_getR (t := 40) kX10_does rfl rfl ?_
              refine fz_dup rfl kX10_does rfl ?_
              obtain ⟨v40, e41⟩ : ∃ z, H31 40 (5) = z := ⟨_, rfl⟩
              refine fz_getV (v := v40) kX10_does rfl rfl e41 ?_
              have b42 : (-2147483648) ≤ v40 ∧ v40 ≤ 2147483647 := by rw [← e41]; exact hI35.1 40 _
              refine fz_iload_n kX10_does rfl rfl ?_
              refine fz_if_lt (tgt := 92) kX10_does rfl (by decide) (fun c43 => ?_) (fun c43 => ?_)
              · refine fz_iconst ⟨by decide, by decide⟩ kX10_does rfl ?_
                refine fz_iaddN kX10_does rfl (by omega) ?_
                refine fz_putI kX10_does rfl rfl rfl ?_
                refine fz_nmu (S := [(9, 5), (10, 99999), (11, 99999), (12, 99999), (13, 99999), (14, 99999), (40, 5)]) (h0 := h) (fz_Iv_up hI35 (by decide) (show (-2147483648) ≤ (v40 + 0) by omega) (show (v40 + 0) ≤ 2147483647 by omega)) (fz_fr_up hf39 rfl) (fun H44 hI45 hf46 e47 => ?_)
                have k48 : H44 40 5 = (v40 + 0) := by rw [e47]; exact fz_up_e
                clear e47
                refine fz_iload_n kX10_does rfl rfl ?_
                exact fz_iret kX10_does rfl rfl (fun _ => ⟨hI45, hf46, _, rfl, (by omega)⟩)
              · refine fz_iconst ⟨by decide, by decide⟩ kX10_does rfl ?_
                refine fz_goto (tgt := 93) kX10_does rfl (by decide) ?_
                refine fz_iadd kX10_does rfl ?_
                refine fz_nmw (fun z49 e50 => ?_)
                refine fz_putI kX10_does rfl rfl rfl ?_
                refine fz_nmu (S := [(9, 5), (10, 99999), (11, 99999), (12, 99999), (13, 99999), (14, 99999), (40, 5)]) (h0 := h) (fz_Iv_up hI35 (by decide) (show (-2147483648) ≤ z49 by omega) (show z49 ≤ 2147483647 by omega)) (fz_fr_up hf39 rfl) (fun H51 hI52 hf53 e54 => ?_)
                have k55 : H51 40 5 = z49 := by rw [e54]; exact fz_up_e
                clear e54
                refine fz_iload_n kX10_does rfl rfl ?_
                exact fz_iret kX10_does rfl rfl (fun _ => ⟨hI52, hf53, _, rfl, (by omega)⟩)
            · exfalso; omega
          · refine fz_if_ne (tgt := 40) kX10_does rfl (by decide) (fun c56 => ?_) (fun c56 => ?_)
            · exfalso; omega
            · refine fz_iconst ⟨by decide, by decide⟩ kX10_does rfl ?_
              exact fz_iret kX10_does rfl rfl (fun _ => ⟨hI, hf, _, rfl, (by omega)⟩)
      · refine fz_if_eq (tgt := 38) kX10_does rfl (by decide) (fun c57 => ?_) (fun c57 => ?_)
        · refine fz_iconst ⟨by decide, by decide⟩ kX10_does rfl ?_
          exact fz_iret kX10_does rfl rfl (fun _ => ⟨hI, hf, _, rfl, (by omega)⟩)
        · exfalso; omega
  · refine fz_if_eq (tgt := 38) kX10_does rfl (by decide) (fun c58 => ?_) (fun c58 => ?_)
    · refine fz_iconst ⟨by decide, by decide⟩ kX10_does rfl ?_
      exact fz_iret kX10_does rfl rfl (fun _ => ⟨hI, hf, _, rfl, (by omega)⟩)
    · exfalso; omega

abbrev qX10_led (h : fz_H) (wh : Int) : fz_H → Option fz_V → Prop := fun h' r0 => h' = h ∧ ∃ r : Int, r0 = some (fz_i r) ∧ ((-2147483648) ≤ r ∧ r ≤ 2147483647)
set_option maxHeartbeats 1000000 in
set_option maxRecDepth 100000 in
theorem sX10_led (h : fz_H) (hI : fz_Iv h) (wh : Int) : fz_R 0 mX10_led 0 [(0, fz_r 0), (1, fz_i wh)] [] h (qX10_led h wh) := by
  refine fz_knowl (fun hk => ?_)
  have hr_wh : -2147483648 ≤ wh ∧ wh < 2147483648 := hk _ (List.Mem.tail _ (List.Mem.head _))
  clear hk
  refine fz_iload_n kX10_led rfl rfl ?_
  rcases (show wh = 0 ∨ wh = 1 ∨ wh = 2 ∨ wh = 3 ∨ wh = 4 ∨ (wh < 0 ∨ 4 < wh) by omega) with c1 | c1 | c1 | c1 | c1 | c1
  · refine fz_tswC (j := 0) (tgt := 36) kX10_led rfl c1 (by decide) (by decide) rfl (by decide) ?_
    refine fz_aload_n kX10_led rfl rfl ?_
    refine fz_getR (t := 40) kX10_led rfl rfl ?_
    refine fz_getV (v := h 40 2) kX10_led rfl rfl rfl ?_
    have b2 : (-2147483648) ≤ h 40 2 ∧ h 40 2 ≤ 2147483647 := hI.1 40 _
    exact fz_iret kX10_led rfl rfl (fun _ => ⟨rfl, _, rfl, (by omega)⟩)
  · refine fz_tswC (j := 1) (tgt := 44) kX10_led rfl c1 (by decide) (by decide) rfl (by decide) ?_
    refine fz_aload_n kX10_led rfl rfl ?_
    refine fz_getR (t := 40) kX10_led rfl rfl ?_
    refine fz_getV (v := h 40 3) kX10_led rfl rfl rfl ?_
    have b3 : (-2147483648) ≤ h 40 3 ∧ h 40 3 ≤ 2147483647 := hI.1 40 _
    exact fz_iret kX10_led rfl rfl (fun _ => ⟨rfl, _, rfl, (by omega)⟩)
  · refine fz_tswC (j := 2) (tgt := 52) kX10_led rfl c1 (by decide) (by decide) rfl (by decide) ?_
    refine fz_aload_n kX10_led rfl rfl ?_
    refine fz_getR (t := 40) kX10_led rfl rfl ?_
    refine fz_getV (v := h 40 4) kX10_led rfl rfl rfl ?_
    have b4 : (-2147483648) ≤ h 40 4 ∧ h 40 4 ≤ 2147483647 := hI.1 40 _
    exact fz_iret kX10_led rfl rfl (fun _ => ⟨rfl, _, rfl, (by omega)⟩)
  · refine fz_tswC (j := 3) (tgt := 60) kX10_led rfl c1 (by decide) (by decide) rfl (by decide) ?_
    refine fz_aload_n kX10_led rfl rfl ?_
    refine fz_getR (t := 40) kX10_led rfl rfl ?_
    refine fz_getV (v := h 40 5) kX10_led rfl rfl rfl ?_
    have b5 : (-2147483648) ≤ h 40 5 ∧ h 40 5 ≤ 2147483647 := hI.1 40 _
    exact fz_iret kX10_led rfl rfl (fun _ => ⟨rfl, _, rfl, (by omega)⟩)
  · refine fz_tswC (j := 4) (tgt := 68) kX10_led rfl c1 (by decide) (by decide) rfl (by decide) ?_
    refine fz_aload_n kX10_led rfl rfl ?_
    refine fz_getR (t := 40) kX10_led rfl rfl ?_
    refine fz_getV (v := h 40 1) kX10_led rfl rfl rfl ?_
    have b6 : 0 ≤ h 40 1 ∧ h 40 1 ≤ 999 := hI.1 40 _
    exact fz_iret kX10_led rfl rfl (fun _ => ⟨rfl, _, rfl, (by omega)⟩)
  · refine fz_tswO (tgt := 76) kX10_led rfl c1 (by decide) ?_
    refine fz_iconst ⟨by decide, by decide⟩ kX10_led rfl ?_
    exact fz_iret kX10_led rfl rfl (fun _ => ⟨rfl, _, rfl, (by omega)⟩)

abbrev qX10_image (h : fz_H) : fz_H → Option fz_V → Prop := fun h' r0 => fz_Iv h' ∧ fz_fr [(40, 6), (42, 99999), (43, 99999)] h h' ∧ ∃ r : Int, r0 = some (fz_i r) ∧ (0 ≤ r ∧ r ≤ 999)
set_option maxHeartbeats 1000000 in
set_option maxRecDepth 100000 in
theorem sX10_image (h : fz_H) (hI : fz_Iv h) : fz_R 2 mX10_image 0 [(0, fz_r 0)] [] h (qX10_image h) := by
  have hf : fz_fr [(40, 6), (42, 99999), (43, 99999)] h h := fz_fr_rf
  refine fz_aload_n kX10_image rfl rfl ?_
  refine fz_getR (t := 40) kX10_image rfl rfl ?_
  refine fz_callV (d' := 1) (M' := mX1_keepImage) (As := []) (st := []) kX10_image rfl rfl vX1_keepImage rfl rfl rfl rfl (Nat.le_of_ble_eq_true rfl) (Nat.le_of_ble_eq_true rfl) (by decide) (sX1_keepImage h hI  ) (fun H1 r2 q3 o4 => ?_)
  obtain ⟨hI5, hf6, rfl⟩ := q3
  clear o4
  have hf7 := fz_fr_tr hf hf6 (show fz_su [(40, 6), (42, 99999), (43, 99999)] [(40, 6), (42, 99999), (43, 99999)] = true from rfl)
  refine fz_aload_n kX10_image rfl rfl ?_
  refine fz_getR (t := 40) kX10_image rfl rfl ?_
  refine fz_getV (v := h 40 1) kX10_image rfl rfl (hf7 40 1 rfl) ?_
  have b8 : 0 ≤ h 40 1 ∧ h 40 1 ≤ 999 := hI.1 40 _
  exact fz_iret kX10_image rfl rfl (fun _ => ⟨hI5, hf7, _, rfl, (by omega)⟩)

abbrev qX10_back (h : fz_H) : fz_H → Option fz_V → Prop := fun h' r0 => fz_Iv h' ∧ fz_fr [(40, 1), (40, 2), (40, 3), (40, 4), (40, 5), (41, 99999)] h h' ∧ ∃ r : Int, r0 = some (fz_i r) ∧ ((-5) ≤ r ∧ r ≤ 999)
set_option maxHeartbeats 1000000 in
set_option maxRecDepth 100000 in
theorem sX10_back (h : fz_H) (hI : fz_Iv h) : fz_R 2 mX10_back 0 [(0, fz_r 0)] [] h (qX10_back h) := by
  have hf : fz_fr [(40, 1), (40, 2), (40, 3), (40, 4), (40, 5), (41, 99999)] h h := fz_fr_rf
  refine fz_aload_n kX10_back rfl rfl ?_
  refine fz_getR (t := 40) kX10_back rfl rfl ?_
  refine fz_getV (v := h 40 6) kX10_back rfl rfl rfl ?_
  have b1 : 0 ≤ h 40 6 ∧ h 40 6 ≤ 1 := hI.1 40 _
  refine fz_if_ne (tgt := 13) kX10_back rfl (by decide) (fun c2 => ?_) (fun c2 => ?_)
  · refine fz_aload_n kX10_back rfl rfl ?_
    refine fz_getR (t := 40) kX10_back rfl rfl ?_
    refine fz_callV (d' := 1) (M' := mX1_layBack) (As := []) (st := []) kX10_back rfl rfl vX1_layBack rfl rfl rfl rfl (Nat.le_of_ble_eq_true rfl) (Nat.le_of_ble_eq_true rfl) (by decide) (sX1_layBack h hI  ) (fun H3 r4 q5 o6 => ?_)
    obtain ⟨hI7, hf8, rfl⟩ := q5
    clear o6
    have hf9 := fz_fr_tr hf hf8 (show fz_su [(40, 1), (40, 2), (40, 3), (40, 4), (40, 5), (41, 99999)] [(40, 1), (40, 2), (40, 3), (40, 4), (40, 5), (41, 99999)] = true from rfl)
    refine fz_aload_n kX10_back rfl rfl ?_
    refine fz_getR (t := 40) kX10_back rfl rfl ?_
    obtain ⟨v10, e11⟩ : ∃ z, H3 40 (1) = z := ⟨_, rfl⟩
    refine fz_getV (v := v10) kX10_back rfl rfl e11 ?_
    have b12 : 0 ≤ v10 ∧ v10 ≤ 999 := by rw [← e11]; exact hI7.1 40 _
    exact fz_iret kX10_back rfl rfl (fun _ => ⟨hI7, hf9, _, rfl, (by omega)⟩)
  · refine fz_bipush ⟨by decide, by decide⟩ kX10_back rfl ?_
    exact fz_iret kX10_back rfl rfl (fun _ => ⟨hI, hf, _, rfl, (by omega)⟩)

abbrev qX10_body (h : fz_H) (k : Int) : fz_H → Option fz_V → Prop := fun h' r0 => fz_Iv h' ∧ fz_fr [(44, 2), (45, 99999)] h h' ∧ ∃ r : Int, r0 = some (fz_i r) ∧ ((-3) ≤ r ∧ r ≤ 49) ∧ (((0 ≤ k ∧ k ≤ 7) ∧ h 44 2 < 50 ∧ r = h 44 2 ∧ h' 44 2 = h 44 2 + 1) ∨ ((0 ≤ k ∧ k ≤ 7) ∧ 50 ≤ h 44 2 ∧ r = -3 ∧ h' 44 2 = h 44 2) ∨ (¬ (0 ≤ k ∧ k ≤ 7) ∧ r = -1 ∧ h' 44 2 = h 44 2))
set_option maxHeartbeats 1000000 in
set_option maxRecDepth 100000 in
theorem sX10_body (h : fz_H) (hI : fz_Iv h) (k : Int) : fz_R 1 mX10_body 0 [(0, fz_r 0), (1, fz_i k)] [] h (qX10_body h k) := by
  refine fz_knowl (fun hk => ?_)
  have hr_k : -2147483648 ≤ k ∧ k < 2147483648 := hk _ (List.Mem.tail _ (List.Mem.head _))
  clear hk
  have hf : fz_fr [(44, 2), (45, 99999)] h h := fz_fr_rf
  have b1 : 0 ≤ h 44 2 ∧ h 44 2 ≤ 50 := hI.1 44 _
  refine fz_aload_n kX10_body rfl rfl ?_
  refine fz_getR (t := 44) kX10_body rfl rfl ?_
  refine fz_iload_n kX10_body rfl rfl ?_
  refine fz_callV (d' := 0) (M' := mX9_isKind) (As := [fz_i k]) (st := []) kX10_body rfl rfl vX9_isKind rfl rfl rfl rfl (Nat.le_of_ble_eq_true rfl) (Nat.le_of_ble_eq_true rfl) (by decide) (sX9_isKind h hI k ) (fun H2 r3 q4 o5 => ?_)
  obtain ⟨e6, y7, rfl, p8⟩ := q4
  subst H2
  clear o5
  rcases p8 with ⟨rfl, c9⟩ | ⟨rfl, c9⟩
  · refine fz_if_ne (tgt := 13) kX10_body rfl (by decide) (fun c10 => ?_) (fun c10 => ?_)
    · refine fz_aload_n kX10_body rfl rfl ?_
      refine fz_getR (t := 44) kX10_body rfl rfl ?_
      refine fz_iload_n kX10_body rfl rfl ?_
      refine fz_callV (d' := 0) (M' := mX9_add) (As := [fz_i k]) (st := []) kX10_body rfl rfl vX9_add rfl rfl rfl rfl (Nat.le_of_ble_eq_true rfl) (Nat.le_of_ble_eq_true rfl) (by decide) (sX9_add h hI k (by omega)) (fun H11 r12 q13 o14 => ?_)
      obtain ⟨hI15, hf16, y19, rfl, f17, f18⟩ := q13
      clear o14
      have hf20 := fz_fr_tr hf hf16 (show fz_su [(44, 2), (45, 99999)] [(44, 2), (45, 99999)] = true from rfl)
      exact fz_iret kX10_body rfl rfl (fun _ => ⟨hI15, hf20, _, rfl, (by omega), (by omega)⟩)
    · exfalso; omega
  · refine fz_if_ne (tgt := 13) kX10_body rfl (by decide) (fun c21 => ?_) (fun c21 => ?_)
    · exfalso; omega
    · refine fz_iconst ⟨by decide, by decide⟩ kX10_body rfl ?_
      exact fz_iret kX10_body rfl rfl (fun _ => ⟨hI, hf, _, rfl, (by omega), (by omega)⟩)

abbrev qX10_act (h : fz_H) (b ac x : Int) : fz_H → Option fz_V → Prop := fun h' r0 => fz_Iv h' ∧ fz_fr [(44, 3), (44, 4), (44, 5), (46, 99999)] h h' ∧ ∃ r : Int, r0 = some (fz_i r)
set_option maxHeartbeats 1000000 in
set_option maxRecDepth 100000 in
theorem sX10_act (h : fz_H) (hI : fz_Iv h) (b ac x : Int) : fz_R 8 mX10_act 0 [(0, fz_r 0), (1, fz_i b), (2, fz_i ac), (3, fz_i x)] [] h (qX10_act h b ac x) := by
  refine fz_knowl (fun hk => ?_)
  have hr_b : -2147483648 ≤ b ∧ b < 2147483648 := hk _ (List.Mem.tail _ (List.Mem.head _))
  have hr_ac : -2147483648 ≤ ac ∧ ac < 2147483648 := hk _ (List.Mem.tail _ (List.Mem.tail _ (List.Mem.head _)))
  have hr_x : -2147483648 ≤ x ∧ x < 2147483648 := hk _ (List.Mem.tail _ (List.Mem.tail _ (List.Mem.tail _ (List.Mem.head _))))
  clear hk
  have hf : fz_fr [(44, 3), (44, 4), (44, 5), (46, 99999)] h h := fz_fr_rf
  refine fz_aload_n kX10_act rfl rfl ?_
  refine fz_getR (t := 44) kX10_act rfl rfl ?_
  refine fz_iload_n kX10_act rfl rfl ?_
  refine fz_iload_n kX10_act rfl rfl ?_
  refine fz_iload_n kX10_act rfl rfl ?_
  refine fz_callV (d' := 7) (M' := mX9_start) (As := [fz_i b, fz_i ac, fz_i x]) (st := []) kX10_act rfl rfl vX9_start rfl rfl rfl rfl (Nat.le_of_ble_eq_true rfl) (Nat.le_of_ble_eq_true rfl) (by decide) (sX9_start h hI b ac x ) (fun H1 r2 q3 o4 => ?_)
  obtain ⟨hI5, hf6, y7, rfl⟩ := q3
  clear o4
  have hf8 := fz_fr_tr hf hf6 (show fz_su [(44, 3), (44, 4), (44, 5), (46, 99999)] [(44, 3), (44, 4), (44, 5), (46, 99999)] = true from rfl)
  exact fz_iret kX10_act rfl rfl (fun _ => ⟨hI5, hf8, _, rfl⟩)

abbrev qX10_trace (h : fz_H) (i : Int) : fz_H → Option fz_V → Prop := fun h' r0 => h' = h ∧ ∃ r : Int, r0 = some (fz_i r) ∧ ((-2147483648) ≤ r ∧ r ≤ 2147483647)
set_option maxHeartbeats 1000000 in
set_option maxRecDepth 100000 in
theorem sX10_trace (h : fz_H) (hI : fz_Iv h) (i : Int) : fz_R 1 mX10_trace 0 [(0, fz_r 0), (1, fz_i i)] [] h (qX10_trace h i) := by
  refine fz_knowl (fun hk => ?_)
  have hr_i : -2147483648 ≤ i ∧ i < 2147483648 := hk _ (List.Mem.tail _ (List.Mem.head _))
  clear hk
  refine fz_iload_n kX10_trace rfl rfl ?_
  refine fz_if_lt (tgt := 20) kX10_trace rfl (by decide) (fun c1 => ?_) (fun c1 => ?_)
  · refine fz_iconst ⟨by decide, by decide⟩ kX10_trace rfl ?_
    exact fz_iret kX10_trace rfl rfl (fun _ => ⟨rfl, _, rfl, (by omega)⟩)
  · refine fz_iload_n kX10_trace rfl rfl ?_
    refine fz_aload_n kX10_trace rfl rfl ?_
    refine fz_getR (t := 44) kX10_trace rfl rfl ?_
    refine fz_getV (v := h 44 3) kX10_trace rfl rfl rfl ?_
    have b2 : (-2147483648) ≤ h 44 3 ∧ h 44 3 ≤ 2147483647 := hI.1 44 _
    refine fz_bipush ⟨by decide, by decide⟩ kX10_trace rfl ?_
    refine fz_min kX10_trace rfl rfl fz_sMn fz_iMm fz_cMn (by decide) (Nat.le_of_ble_eq_true rfl) ?_
    refine fz_icmp_lt (tgt := 22) kX10_trace rfl (by decide) (fun c3 => ?_) (fun c3 => ?_)
    · refine fz_aload_n kX10_trace rfl rfl ?_
      refine fz_getR (t := 44) kX10_trace rfl rfl ?_
      refine fz_getR (t := 46) kX10_trace rfl rfl ?_
      refine fz_iload_n kX10_trace rfl rfl ?_
      refine fz_ialdV (n := 24) (v := h 46 (i.toNat)) kX10_trace rfl rfl (by omega) (by omega) rfl ?_
      have b4 : (-2147483648) ≤ h 46 (i.toNat) ∧ h 46 (i.toNat) ≤ 2147483647 := hI.1 46 _
      exact fz_iret kX10_trace rfl rfl (fun _ => ⟨rfl, _, rfl, (by omega)⟩)
    · refine fz_iconst ⟨by decide, by decide⟩ kX10_trace rfl ?_
      exact fz_iret kX10_trace rfl rfl (fun _ => ⟨rfl, _, rfl, (by omega)⟩)

abbrev qX10_keep (h : fz_H) (s b : Int) : fz_H → Option fz_V → Prop := fun h' r0 => fz_Iv h' ∧ fz_fr [(48, 99999), (49, 99999)] h h' ∧ ∃ r : Int, r0 = some (fz_i r) ∧ ((-1) ≤ r ∧ r ≤ 1) ∧ ((0 ≤ s ∧ s ≤ 5 ∧ -1 ≤ b ∧ b < h 44 2 ∧ r = 1) ∨ (¬ (0 ≤ s ∧ s ≤ 5 ∧ -1 ≤ b ∧ b < h 44 2) ∧ r = -1))
set_option maxHeartbeats 1000000 in
set_option maxRecDepth 100000 in
theorem sX10_keep (h : fz_H) (hI : fz_Iv h) (s b : Int) : fz_R 1 mX10_keep 0 [(0, fz_r 0), (1, fz_i s), (2, fz_i b)] [] h (qX10_keep h s b) := by
  refine fz_knowl (fun hk => ?_)
  have hr_s : -2147483648 ≤ s ∧ s < 2147483648 := hk _ (List.Mem.tail _ (List.Mem.head _))
  have hr_b : -2147483648 ≤ b ∧ b < 2147483648 := hk _ (List.Mem.tail _ (List.Mem.tail _ (List.Mem.head _)))
  clear hk
  have hf : fz_fr [(48, 99999), (49, 99999)] h h := fz_fr_rf
  have b1 : 0 ≤ h 44 2 ∧ h 44 2 ≤ 50 := hI.1 44 _
  refine fz_aload_n kX10_keep rfl rfl ?_
  refine fz_getR (t := 47) kX10_keep rfl rfl ?_
  refine fz_iload_n kX10_keep rfl rfl ?_
  refine fz_callV (d' := 0) (M' := mX7_isShelf) (As := [fz_i s]) (st := []) kX10_keep rfl rfl vX7_isShelf rfl rfl rfl rfl (Nat.le_of_ble_eq_true rfl) (Nat.le_of_ble_eq_true rfl) (by decide) (sX7_isShelf h hI s ) (fun H2 r3 q4 o5 => ?_)
  obtain ⟨e6, y7, rfl, p8⟩ := q4
  subst H2
  clear o5
  rcases p8 with ⟨rfl, c9⟩ | ⟨rfl, c9⟩
  · refine fz_if_eq (tgt := 27) kX10_keep rfl (by decide) (fun c10 => ?_) (fun c10 => ?_)
    · exfalso; omega
    · refine fz_iload_n kX10_keep rfl rfl ?_
      refine fz_iconst ⟨by decide, by decide⟩ kX10_keep rfl ?_
      refine fz_icmp_eq (tgt := 29) kX10_keep rfl (by decide) (fun c11 => ?_) (fun c11 => ?_)
      · refine fz_aload_n kX10_keep rfl rfl ?_
        refine fz_getR (t := 47) kX10_keep rfl rfl ?_
        refine fz_iload_n kX10_keep rfl rfl ?_
        refine fz_iload_n kX10_keep rfl rfl ?_
        refine fz_callV (d' := 0) (M' := mX7_setWord) (As := [fz_i s, fz_i b]) (st := []) kX10_keep rfl rfl vX7_setWord rfl rfl rfl rfl (Nat.le_of_ble_eq_true rfl) (Nat.le_of_ble_eq_true rfl) (by decide) (sX7_setWord h hI s b (by omega)) (fun H12 r13 q14 o15 => ?_)
        obtain ⟨hI16, hf17, rfl⟩ := q14
        clear o15
        have hf18 := fz_fr_tr hf hf17 (show fz_su [(48, 99999), (49, 99999)] [(48, 99999), (49, 99999)] = true from rfl)
        refine fz_iconst ⟨by decide, by decide⟩ kX10_keep rfl ?_
        exact fz_iret kX10_keep rfl rfl (fun _ => ⟨hI16, hf18, _, rfl, (by omega), (by omega)⟩)
      · refine fz_aload_n kX10_keep rfl rfl ?_
        refine fz_getR (t := 44) kX10_keep rfl rfl ?_
        refine fz_iload_n kX10_keep rfl rfl ?_
        refine fz_callV (d' := 0) (M' := mX9_isBody) (As := [fz_i b]) (st := []) kX10_keep rfl rfl vX9_isBody rfl rfl rfl rfl (Nat.le_of_ble_eq_true rfl) (Nat.le_of_ble_eq_true rfl) (by decide) (sX9_isBody h hI b ) (fun H19 r20 q21 o22 => ?_)
        obtain ⟨e23, y24, rfl, p25⟩ := q21
        subst H19
        clear o22
        rcases p25 with ⟨rfl, c26⟩ | ⟨rfl, c26⟩
        · refine fz_if_ne (tgt := 29) kX10_keep rfl (by decide) (fun c27 => ?_) (fun c27 => ?_)
          · refine fz_aload_n kX10_keep rfl rfl ?_
            refine fz_getR (t := 47) kX10_keep rfl rfl ?_
            refine fz_iload_n kX10_keep rfl rfl ?_
            refine fz_iload_n kX10_keep rfl rfl ?_
            refine fz_callV (d' := 0) (M' := mX7_setWord) (As := [fz_i s, fz_i b]) (st := []) kX10_keep rfl rfl vX7_setWord rfl rfl rfl rfl (Nat.le_of_ble_eq_true rfl) (Nat.le_of_ble_eq_true rfl) (by decide) (sX7_setWord h hI s b (by omega)) (fun H28 r29 q30 o31 => ?_)
            obtain ⟨hI32, hf33, rfl⟩ := q30
            clear o31
            have hf34 := fz_fr_tr hf hf33 (show fz_su [(48, 99999), (49, 99999)] [(48, 99999), (49, 99999)] = true from rfl)
            refine fz_iconst ⟨by decide, by decide⟩ kX10_keep rfl ?_
            exact fz_iret kX10_keep rfl rfl (fun _ => ⟨hI32, hf34, _, rfl, (by omega), (by omega)⟩)
          · exfalso; omega
        · refine fz_if_ne (tgt := 29) kX10_keep rfl (by decide) (fun c35 => ?_) (fun c35 => ?_)
          · exfalso; omega
          · refine fz_iconst ⟨by decide, by decide⟩ kX10_keep rfl ?_
            exact fz_iret kX10_keep rfl rfl (fun _ => ⟨hI, hf, _, rfl, (by omega), (by omega)⟩)
  · refine fz_if_eq (tgt := 27) kX10_keep rfl (by decide) (fun c36 => ?_) (fun c36 => ?_)
    · refine fz_iconst ⟨by decide, by decide⟩ kX10_keep rfl ?_
      exact fz_iret kX10_keep rfl rfl (fun _ => ⟨hI, hf, _, rfl, (by omega), (by omega)⟩)
    · exfalso; omega

abbrev qX10_row (h : fz_H) (s so n : Int) : fz_H → Option fz_V → Prop := fun h' r0 => fz_Iv h' ∧ fz_fr [(48, 99999), (50, 99999), (51, 99999), (52, 99999)] h h' ∧ ∃ r : Int, r0 = some (fz_i r) ∧ ((-14) ≤ r ∧ r ≤ 1) ∧ ((0 ≤ s ∧ s ≤ 5 ∧ 0 ≤ so ∧ so ≤ 4 ∧ n ≤ 60 ∧ n < 0 ∧ r = -14) ∨ (0 ≤ s ∧ s ≤ 5 ∧ 0 ≤ so ∧ so ≤ 4 ∧ n ≤ 60 ∧ 0 ≤ n ∧ r = 1) ∨ (¬ (0 ≤ s ∧ s ≤ 5 ∧ 0 ≤ so ∧ so ≤ 4 ∧ n ≤ 60) ∧ r = -1))
set_option maxHeartbeats 1000000 in
set_option maxRecDepth 100000 in
theorem sX10_row (h : fz_H) (hI : fz_Iv h) (s so n : Int) : fz_R 3 mX10_row 0 [(0, fz_r 0), (1, fz_i s), (2, fz_i so), (3, fz_i n)] [] h (qX10_row h s so n) := by
  refine fz_knowl (fun hk => ?_)
  have hr_s : -2147483648 ≤ s ∧ s < 2147483648 := hk _ (List.Mem.tail _ (List.Mem.head _))
  have hr_so : -2147483648 ≤ so ∧ so < 2147483648 := hk _ (List.Mem.tail _ (List.Mem.tail _ (List.Mem.head _)))
  have hr_n : -2147483648 ≤ n ∧ n < 2147483648 := hk _ (List.Mem.tail _ (List.Mem.tail _ (List.Mem.tail _ (List.Mem.head _))))
  clear hk
  have hf : fz_fr [(48, 99999), (50, 99999), (51, 99999), (52, 99999)] h h := fz_fr_rf
  refine fz_aload_n kX10_row rfl rfl ?_
  refine fz_getR (t := 47) kX10_row rfl rfl ?_
  refine fz_iload_n kX10_row rfl rfl ?_
  refine fz_callV (d' := 0) (M' := mX7_isShelf) (As := [fz_i s]) (st := []) kX10_row rfl rfl vX7_isShelf rfl rfl rfl rfl (Nat.le_of_ble_eq_true rfl) (Nat.le_of_ble_eq_true rfl) (by decide) (sX7_isShelf h hI s ) (fun H1 r2 q3 o4 => ?_)
  obtain ⟨e5, y6, rfl, p7⟩ := q3
  subst H1
  clear o4
  rcases p7 with ⟨rfl, c8⟩ | ⟨rfl, c8⟩
  · refine fz_if_eq (tgt := 26) kX10_row rfl (by decide) (fun c9 => ?_) (fun c9 => ?_)
    · exfalso; omega
    · refine fz_iload_n kX10_row rfl rfl ?_
      refine fz_if_lt (tgt := 26) kX10_row rfl (by decide) (fun c10 => ?_) (fun c10 => ?_)
      · refine fz_iconst ⟨by decide, by decide⟩ kX10_row rfl ?_
        exact fz_iret kX10_row rfl rfl (fun _ => ⟨hI, hf, _, rfl, (by omega), (by omega)⟩)
      · refine fz_iload_n kX10_row rfl rfl ?_
        refine fz_iconst ⟨by decide, by decide⟩ kX10_row rfl ?_
        refine fz_icmp_gt (tgt := 26) kX10_row rfl (by decide) (fun c11 => ?_) (fun c11 => ?_)
        · refine fz_iconst ⟨by decide, by decide⟩ kX10_row rfl ?_
          exact fz_iret kX10_row rfl rfl (fun _ => ⟨hI, hf, _, rfl, (by omega), (by omega)⟩)
        · refine fz_iload_n kX10_row rfl rfl ?_
          refine fz_bipush ⟨by decide, by decide⟩ kX10_row rfl ?_
          refine fz_icmp_le (tgt := 28) kX10_row rfl (by decide) (fun c12 => ?_) (fun c12 => ?_)
          · refine fz_iload_n kX10_row rfl rfl ?_
            refine fz_if_ge (tgt := 35) kX10_row rfl (by decide) (fun c13 => ?_) (fun c13 => ?_)
            · refine fz_aload_n kX10_row rfl rfl ?_
              refine fz_getR (t := 47) kX10_row rfl rfl ?_
              refine fz_iload_n kX10_row rfl rfl ?_
              refine fz_iload_n kX10_row rfl rfl ?_
              refine fz_iload_n kX10_row rfl rfl ?_
              refine fz_callV (d' := 2) (M' := mX7_setRow) (As := [fz_i s, fz_i so, fz_i n]) (st := []) kX10_row rfl rfl vX7_setRow rfl rfl rfl rfl (Nat.le_of_ble_eq_true rfl) (Nat.le_of_ble_eq_true rfl) (by decide) (sX7_setRow h hI s so n (by omega) (by omega) (by omega)) (fun H14 r15 q16 o17 => ?_)
              obtain ⟨hI18, hf19, rfl⟩ := q16
              clear o17
              have hf20 := fz_fr_tr hf hf19 (show fz_su [(48, 99999), (50, 99999), (51, 99999), (52, 99999)] [(48, 99999), (50, 99999), (51, 99999), (52, 99999)] = true from rfl)
              refine fz_iconst ⟨by decide, by decide⟩ kX10_row rfl ?_
              exact fz_iret kX10_row rfl rfl (fun _ => ⟨hI18, hf20, _, rfl, (by omega), (by omega)⟩)
            · refine fz_bipush ⟨by decide, by decide⟩ kX10_row rfl ?_
              exact fz_iret kX10_row rfl rfl (fun _ => ⟨hI, hf, _, rfl, (by omega), (by omega)⟩)
          · refine fz_iconst ⟨by decide, by decide⟩ kX10_row rfl ?_
            exact fz_iret kX10_row rfl rfl (fun _ => ⟨hI, hf, _, rfl, (by omega), (by omega)⟩)
  · refine fz_if_eq (tgt := 26) kX10_row rfl (by decide) (fun c21 => ?_) (fun c21 => ?_)
    · refine fz_iconst ⟨by decide, by decide⟩ kX10_row rfl ?_
      exact fz_iret kX10_row rfl rfl (fun _ => ⟨hI, hf, _, rfl, (by omega), (by omega)⟩)
    · exfalso; omega

abbrev qX10_refusalOfPlace (h : fz_H) (s i : Int) : fz_H → Option fz_V → Prop := fun h' r0 => h' = h ∧ ∃ r : Int, r0 = some (fz_i r) ∧ ((-13) ≤ r ∧ r ≤ 0) ∧ (0 ≤ r → (0 ≤ s ∧ s ≤ 5 ∧ 0 ≤ i ∧ i ≤ 59))
set_option maxHeartbeats 1000000 in
set_option maxRecDepth 100000 in
theorem sX10_refusalOfPlace (h : fz_H) (hI : fz_Iv h) (s i : Int) : fz_R 2 mX10_refusalOfPlace 0 [(0, fz_r 0), (1, fz_i s), (2, fz_i i)] [] h (qX10_refusalOfPlace h s i) := by
  refine fz_knowl (fun hk => ?_)
  have hr_s : -2147483648 ≤ s ∧ s < 2147483648 := hk _ (List.Mem.tail _ (List.Mem.head _))
  have hr_i : -2147483648 ≤ i ∧ i < 2147483648 := hk _ (List.Mem.tail _ (List.Mem.tail _ (List.Mem.head _)))
  clear hk
  refine fz_aload_n kX10_refusalOfPlace rfl rfl ?_
  refine fz_getR (t := 47) kX10_refusalOfPlace rfl rfl ?_
  refine fz_iload_n kX10_refusalOfPlace rfl rfl ?_
  refine fz_callV (d' := 0) (M' := mX7_isShelf) (As := [fz_i s]) (st := []) kX10_refusalOfPlace rfl rfl vX7_isShelf rfl rfl rfl rfl (Nat.le_of_ble_eq_true rfl) (Nat.le_of_ble_eq_true rfl) (by decide) (sX7_isShelf h hI s ) (fun H1 r2 q3 o4 => ?_)
  obtain ⟨e5, y6, rfl, p7⟩ := q3
  subst H1
  clear o4
  rcases p7 with ⟨rfl, c8⟩ | ⟨rfl, c8⟩
  · refine fz_if_ne (tgt := 13) kX10_refusalOfPlace rfl (by decide) (fun c9 => ?_) (fun c9 => ?_)
    · refine fz_aload_n kX10_refusalOfPlace rfl rfl ?_
      refine fz_getR (t := 47) kX10_refusalOfPlace rfl rfl ?_
      refine fz_iload_n kX10_refusalOfPlace rfl rfl ?_
      refine fz_callV (d' := 0) (M' := mX7_isEmpty) (As := [fz_i s]) (st := []) kX10_refusalOfPlace rfl rfl vX7_isEmpty rfl rfl rfl rfl (Nat.le_of_ble_eq_true rfl) (Nat.le_of_ble_eq_true rfl) (by decide) (sX7_isEmpty h hI s (by omega)) (fun H10 r11 q12 o13 => ?_)
      obtain ⟨e14, y15, rfl, p16⟩ := q12
      subst H10
      clear o13
      rcases p16 with ⟨rfl, c17⟩ | ⟨rfl, c17⟩
      · refine fz_if_eq (tgt := 27) kX10_refusalOfPlace rfl (by decide) (fun c18 => ?_) (fun c18 => ?_)
        · exfalso; omega
        · refine fz_bipush ⟨by decide, by decide⟩ kX10_refusalOfPlace rfl ?_
          exact fz_iret kX10_refusalOfPlace rfl rfl (fun _ => ⟨rfl, _, rfl, (by omega), (by omega)⟩)
      · refine fz_if_eq (tgt := 27) kX10_refusalOfPlace rfl (by decide) (fun c19 => ?_) (fun c19 => ?_)
        · refine fz_aload_n kX10_refusalOfPlace rfl rfl ?_
          refine fz_getR (t := 47) kX10_refusalOfPlace rfl rfl ?_
          refine fz_iload_n kX10_refusalOfPlace rfl rfl ?_
          refine fz_callV (d' := 0) (M' := mX7_isRow) (As := [fz_i s]) (st := []) kX10_refusalOfPlace rfl rfl vX7_isRow rfl rfl rfl rfl (Nat.le_of_ble_eq_true rfl) (Nat.le_of_ble_eq_true rfl) (by decide) (sX7_isRow h hI s (by omega)) (fun H20 r21 q22 o23 => ?_)
          obtain ⟨e24, y25, rfl, p26⟩ := q22
          subst H20
          clear o23
          rcases p26 with ⟨rfl, c27⟩ | ⟨rfl, c27⟩
          · refine fz_if_ne (tgt := 41) kX10_refusalOfPlace rfl (by decide) (fun c28 => ?_) (fun c28 => ?_)
            · refine fz_aload_n kX10_refusalOfPlace rfl rfl ?_
              refine fz_getR (t := 47) kX10_refusalOfPlace rfl rfl ?_
              refine fz_iload_n kX10_refusalOfPlace rfl rfl ?_
              refine fz_iload_n kX10_refusalOfPlace rfl rfl ?_
              refine fz_iconst ⟨by decide, by decide⟩ kX10_refusalOfPlace rfl ?_
              refine fz_callV (d' := 1) (M' := mX7_hasPlaces) (As := [fz_i s, fz_i i, fz_i 1]) (st := []) kX10_refusalOfPlace rfl rfl vX7_hasPlaces rfl rfl rfl rfl (Nat.le_of_ble_eq_true rfl) (Nat.le_of_ble_eq_true rfl) (by decide) (sX7_hasPlaces h hI s i 1 (by omega)) (fun H29 r30 q31 o32 => ?_)
              obtain ⟨e33, y34, rfl, p35⟩ := q31
              subst H29
              clear o32
              rcases p35 with ⟨rfl, c36⟩ | ⟨rfl, c36⟩
              · refine fz_if_eq (tgt := 58) kX10_refusalOfPlace rfl (by decide) (fun c37 => ?_) (fun c37 => ?_)
                · exfalso; omega
                · refine fz_iconst ⟨by decide, by decide⟩ kX10_refusalOfPlace rfl ?_
                  refine fz_goto (tgt := 60) kX10_refusalOfPlace rfl (by decide) ?_
                  exact fz_iret kX10_refusalOfPlace rfl rfl (fun _ => ⟨rfl, _, rfl, (by omega), (by omega)⟩)
              · refine fz_if_eq (tgt := 58) kX10_refusalOfPlace rfl (by decide) (fun c38 => ?_) (fun c38 => ?_)
                · refine fz_bipush ⟨by decide, by decide⟩ kX10_refusalOfPlace rfl ?_
                  exact fz_iret kX10_refusalOfPlace rfl rfl (fun _ => ⟨rfl, _, rfl, (by omega), (by omega)⟩)
                · exfalso; omega
            · exfalso; omega
          · refine fz_if_ne (tgt := 41) kX10_refusalOfPlace rfl (by decide) (fun c39 => ?_) (fun c39 => ?_)
            · exfalso; omega
            · refine fz_bipush ⟨by decide, by decide⟩ kX10_refusalOfPlace rfl ?_
              exact fz_iret kX10_refusalOfPlace rfl rfl (fun _ => ⟨rfl, _, rfl, (by omega), (by omega)⟩)
        · exfalso; omega
    · exfalso; omega
  · refine fz_if_ne (tgt := 13) kX10_refusalOfPlace rfl (by decide) (fun c40 => ?_) (fun c40 => ?_)
    · exfalso; omega
    · refine fz_iconst ⟨by decide, by decide⟩ kX10_refusalOfPlace rfl ?_
      exact fz_iret kX10_refusalOfPlace rfl rfl (fun _ => ⟨rfl, _, rfl, (by omega), (by omega)⟩)

abbrev qX10_put (h : fz_H) (s i v : Int) : fz_H → Option fz_V → Prop := fun h' r0 => fz_Iv h' ∧ fz_fr [(52, 99999)] h h' ∧ ∃ r : Int, r0 = some (fz_i r) ∧ ((-13) ≤ r ∧ r ≤ 1)
set_option maxHeartbeats 1000000 in
set_option maxRecDepth 100000 in
theorem sX10_put (h : fz_H) (hI : fz_Iv h) (s i v : Int) : fz_R 3 mX10_put 0 [(0, fz_r 0), (1, fz_i s), (2, fz_i i), (3, fz_l v)] [] h (qX10_put h s i v) := by
  refine fz_knowl (fun hk => ?_)
  have hr_s : -2147483648 ≤ s ∧ s < 2147483648 := hk _ (List.Mem.tail _ (List.Mem.head _))
  have hr_i : -2147483648 ≤ i ∧ i < 2147483648 := hk _ (List.Mem.tail _ (List.Mem.tail _ (List.Mem.head _)))
  have hr_v : -9223372036854775808 ≤ v ∧ v < 9223372036854775808 := hk _ (List.Mem.tail _ (List.Mem.tail _ (List.Mem.tail _ (List.Mem.head _))))
  clear hk
  have hf : fz_fr [(52, 99999)] h h := fz_fr_rf
  refine fz_aload_n kX10_put rfl rfl ?_
  refine fz_iload_n kX10_put rfl rfl ?_
  refine fz_iload_n kX10_put rfl rfl ?_
  refine fz_callV (d' := 2) (M' := mX10_refusalOfPlace) (As := [fz_i s, fz_i i]) (st := []) kX10_put rfl rfl vX10_refusalOfPlace rfl rfl rfl rfl (Nat.le_of_ble_eq_true rfl) (Nat.le_of_ble_eq_true rfl) (by decide) (sX10_refusalOfPlace h hI s i ) (fun H1 r2 q3 o4 => ?_)
  obtain ⟨e5, y8, rfl, f6, f7⟩ := q3
  subst H1
  clear o4
  refine fz_istore (ls' := [(5, fz_i y8), (0, fz_r 0), (1, fz_i s), (2, fz_i i), (3, fz_l v)]) kX10_put rfl (by decide) rfl ?_
  refine fz_iload kX10_put rfl rfl ?_
  refine fz_if_ge (tgt := 16) kX10_put rfl (by decide) (fun c9 => ?_) (fun c9 => ?_)
  · refine fz_aload_n kX10_put rfl rfl ?_
    refine fz_getR (t := 47) kX10_put rfl rfl ?_
    refine fz_iload_n kX10_put rfl rfl ?_
    refine fz_iload_n kX10_put rfl rfl ?_
    refine fz_lload_n kX10_put rfl rfl ?_
    refine fz_callV (d' := 1) (M' := mX7_set) (As := [fz_i s, fz_i i, fz_l v]) (st := []) kX10_put rfl rfl vX7_set rfl rfl rfl rfl (Nat.le_of_ble_eq_true rfl) (Nat.le_of_ble_eq_true rfl) (by decide) (sX7_set h hI s i v (by omega) (by omega)) (fun H10 r11 q12 o13 => ?_)
    obtain ⟨hI14, hf15, rfl⟩ := q12
    clear o13
    have hf16 := fz_fr_tr hf hf15 (show fz_su [(52, 99999)] [(52, 99999)] = true from rfl)
    refine fz_iconst ⟨by decide, by decide⟩ kX10_put rfl ?_
    exact fz_iret kX10_put rfl rfl (fun _ => ⟨hI14, hf16, _, rfl, (by omega)⟩)
  · refine fz_iload kX10_put rfl rfl ?_
    exact fz_iret kX10_put rfl rfl (fun _ => ⟨hI, hf, _, rfl, (by omega)⟩)

abbrev qX10_element (h : fz_H) (s i : Int) : fz_H → Option fz_V → Prop := fun h' r0 => h' = h ∧ ∃ r : Int, r0 = some (fz_l r) ∧ ((-9223372036854775808) ≤ r ∧ r ≤ 9223372036854775807)
set_option maxHeartbeats 1000000 in
set_option maxRecDepth 100000 in
theorem sX10_element (h : fz_H) (hI : fz_Iv h) (s i : Int) : fz_R 3 mX10_element 0 [(0, fz_r 0), (1, fz_i s), (2, fz_i i)] [] h (qX10_element h s i) := by
  refine fz_knowl (fun hk => ?_)
  have hr_s : -2147483648 ≤ s ∧ s < 2147483648 := hk _ (List.Mem.tail _ (List.Mem.head _))
  have hr_i : -2147483648 ≤ i ∧ i < 2147483648 := hk _ (List.Mem.tail _ (List.Mem.tail _ (List.Mem.head _)))
  clear hk
  refine fz_aload_n kX10_element rfl rfl ?_
  refine fz_iload_n kX10_element rfl rfl ?_
  refine fz_iload_n kX10_element rfl rfl ?_
  refine fz_callV (d' := 2) (M' := mX10_refusalOfPlace) (As := [fz_i s, fz_i i]) (st := []) kX10_element rfl rfl vX10_refusalOfPlace rfl rfl rfl rfl (Nat.le_of_ble_eq_true rfl) (Nat.le_of_ble_eq_true rfl) (by decide) (sX10_refusalOfPlace h hI s i ) (fun H1 r2 q3 o4 => ?_)
  obtain ⟨e5, y8, rfl, f6, f7⟩ := q3
  subst H1
  clear o4
  refine fz_if_ge (tgt := 15) kX10_element rfl (by decide) (fun c9 => ?_) (fun c9 => ?_)
  · refine fz_aload_n kX10_element rfl rfl ?_
    refine fz_getR (t := 47) kX10_element rfl rfl ?_
    refine fz_iload_n kX10_element rfl rfl ?_
    refine fz_iload_n kX10_element rfl rfl ?_
    refine fz_callV (d' := 0) (M' := mX7_get) (As := [fz_i s, fz_i i]) (st := []) kX10_element rfl rfl vX7_get rfl rfl rfl rfl (Nat.le_of_ble_eq_true rfl) (Nat.le_of_ble_eq_true rfl) (by decide) (sX7_get h hI s i (by omega) (by omega)) (fun H10 r11 q12 o13 => ?_)
    obtain ⟨e14, y16, rfl, f15⟩ := q12
    subst H10
    clear o13
    exact fz_lret kX10_element rfl rfl (fun _ => ⟨rfl, _, rfl, (by omega)⟩)
  · refine fz_ldc2 (x := (-9223372036854775808)) kX10_element rfl rfl rfl ?_
    refine fz_goto (tgt := 24) kX10_element rfl (by decide) ?_
    exact fz_lret kX10_element rfl rfl (fun _ => ⟨rfl, _, rfl, (by omega)⟩)

abbrev qX10_shift (h : fz_H) (s i o j n : Int) : fz_H → Option fz_V → Prop := fun h' r0 => fz_Iv h' ∧ fz_fr [(52, 99999)] h h' ∧ ∃ r : Int, r0 = some (fz_i r) ∧ ((-13) ≤ r ∧ r ≤ 60)
set_option maxHeartbeats 1000000 in
set_option maxRecDepth 100000 in
theorem sX10_shift (h : fz_H) (hI : fz_Iv h) (s i o j n : Int) : fz_R 2 mX10_shift 0 [(0, fz_r 0), (1, fz_i s), (2, fz_i i), (3, fz_i o), (4, fz_i j), (5, fz_i n)] [] h (qX10_shift h s i o j n) := by
  refine fz_knowl (fun hk => ?_)
  have hr_s : -2147483648 ≤ s ∧ s < 2147483648 := hk _ (List.Mem.tail _ (List.Mem.head _))
  have hr_i : -2147483648 ≤ i ∧ i < 2147483648 := hk _ (List.Mem.tail _ (List.Mem.tail _ (List.Mem.head _)))
  have hr_o : -2147483648 ≤ o ∧ o < 2147483648 := hk _ (List.Mem.tail _ (List.Mem.tail _ (List.Mem.tail _ (List.Mem.head _))))
  have hr_j : -2147483648 ≤ j ∧ j < 2147483648 := hk _ (List.Mem.tail _ (List.Mem.tail _ (List.Mem.tail _ (List.Mem.tail _ (List.Mem.head _)))))
  have hr_n : -2147483648 ≤ n ∧ n < 2147483648 := hk _ (List.Mem.tail _ (List.Mem.tail _ (List.Mem.tail _ (List.Mem.tail _ (List.Mem.tail _ (List.Mem.head _))))))
  clear hk
  have hf : fz_fr [(52, 99999)] h h := fz_fr_rf
  refine fz_aload_n kX10_shift rfl rfl ?_
  refine fz_getR (t := 47) kX10_shift rfl rfl ?_
  refine fz_iload_n kX10_shift rfl rfl ?_
  refine fz_callV (d' := 0) (M' := mX7_isShelf) (As := [fz_i s]) (st := []) kX10_shift rfl rfl vX7_isShelf rfl rfl rfl rfl (Nat.le_of_ble_eq_true rfl) (Nat.le_of_ble_eq_true rfl) (by decide) (sX7_isShelf h hI s ) (fun H1 r2 q3 o4 => ?_)
  obtain ⟨e5, y6, rfl, p7⟩ := q3
  subst H1
  clear o4
  rcases p7 with ⟨rfl, c8⟩ | ⟨rfl, c8⟩
  · refine fz_if_eq (tgt := 22) kX10_shift rfl (by decide) (fun c9 => ?_) (fun c9 => ?_)
    · exfalso; omega
    · refine fz_aload_n kX10_shift rfl rfl ?_
      refine fz_getR (t := 47) kX10_shift rfl rfl ?_
      refine fz_iload_n kX10_shift rfl rfl ?_
      refine fz_callV (d' := 0) (M' := mX7_isShelf) (As := [fz_i o]) (st := []) kX10_shift rfl rfl vX7_isShelf rfl rfl rfl rfl (Nat.le_of_ble_eq_true rfl) (Nat.le_of_ble_eq_true rfl) (by decide) (sX7_isShelf h hI o ) (fun H10 r11 q12 o13 => ?_)
      obtain ⟨e14, y15, rfl, p16⟩ := q12
      subst H10
      clear o13
      rcases p16 with ⟨rfl, c17⟩ | ⟨rfl, c17⟩
      · refine fz_if_ne (tgt := 24) kX10_shift rfl (by decide) (fun c18 => ?_) (fun c18 => ?_)
        · refine fz_aload_n kX10_shift rfl rfl ?_
          refine fz_getR (t := 47) kX10_shift rfl rfl ?_
          refine fz_iload_n kX10_shift rfl rfl ?_
          refine fz_callV (d' := 0) (M' := mX7_isEmpty) (As := [fz_i s]) (st := []) kX10_shift rfl rfl vX7_isEmpty rfl rfl rfl rfl (Nat.le_of_ble_eq_true rfl) (Nat.le_of_ble_eq_true rfl) (by decide) (sX7_isEmpty h hI s (by omega)) (fun H19 r20 q21 o22 => ?_)
          obtain ⟨e23, y24, rfl, p25⟩ := q21
          subst H19
          clear o22
          rcases p25 with ⟨rfl, c26⟩ | ⟨rfl, c26⟩
          · refine fz_if_ne (tgt := 46) kX10_shift rfl (by decide) (fun c27 => ?_) (fun c27 => ?_)
            · refine fz_bipush ⟨by decide, by decide⟩ kX10_shift rfl ?_
              exact fz_iret kX10_shift rfl rfl (fun _ => ⟨hI, hf, _, rfl, (by omega)⟩)
            · exfalso; omega
          · refine fz_if_ne (tgt := 46) kX10_shift rfl (by decide) (fun c28 => ?_) (fun c28 => ?_)
            · exfalso; omega
            · refine fz_aload_n kX10_shift rfl rfl ?_
              refine fz_getR (t := 47) kX10_shift rfl rfl ?_
              refine fz_iload_n kX10_shift rfl rfl ?_
              refine fz_callV (d' := 0) (M' := mX7_isEmpty) (As := [fz_i o]) (st := []) kX10_shift rfl rfl vX7_isEmpty rfl rfl rfl rfl (Nat.le_of_ble_eq_true rfl) (Nat.le_of_ble_eq_true rfl) (by decide) (sX7_isEmpty h hI o (by omega)) (fun H29 r30 q31 o32 => ?_)
              obtain ⟨e33, y34, rfl, p35⟩ := q31
              subst H29
              clear o32
              rcases p35 with ⟨rfl, c36⟩ | ⟨rfl, c36⟩
              · refine fz_if_eq (tgt := 49) kX10_shift rfl (by decide) (fun c37 => ?_) (fun c37 => ?_)
                · exfalso; omega
                · refine fz_bipush ⟨by decide, by decide⟩ kX10_shift rfl ?_
                  exact fz_iret kX10_shift rfl rfl (fun _ => ⟨hI, hf, _, rfl, (by omega)⟩)
              · refine fz_if_eq (tgt := 49) kX10_shift rfl (by decide) (fun c38 => ?_) (fun c38 => ?_)
                · refine fz_aload_n kX10_shift rfl rfl ?_
                  refine fz_getR (t := 47) kX10_shift rfl rfl ?_
                  refine fz_iload_n kX10_shift rfl rfl ?_
                  refine fz_callV (d' := 0) (M' := mX7_isRow) (As := [fz_i s]) (st := []) kX10_shift rfl rfl vX7_isRow rfl rfl rfl rfl (Nat.le_of_ble_eq_true rfl) (Nat.le_of_ble_eq_true rfl) (by decide) (sX7_isRow h hI s (by omega)) (fun H39 r40 q41 o42 => ?_)
                  obtain ⟨e43, y44, rfl, p45⟩ := q41
                  subst H39
                  clear o42
                  rcases p45 with ⟨rfl, c46⟩ | ⟨rfl, c46⟩
                  · refine fz_if_eq (tgt := 80) kX10_shift rfl (by decide) (fun c47 => ?_) (fun c47 => ?_)
                    · exfalso; omega
                    · refine fz_aload_n kX10_shift rfl rfl ?_
                      refine fz_getR (t := 47) kX10_shift rfl rfl ?_
                      refine fz_iload_n kX10_shift rfl rfl ?_
                      refine fz_aload_n kX10_shift rfl rfl ?_
                      refine fz_getR (t := 47) kX10_shift rfl rfl ?_
                      refine fz_getR (t := 50) kX10_shift rfl rfl ?_
                      refine fz_iload_n kX10_shift rfl rfl ?_
                      refine fz_ialdV (n := 6) (v := h 50 (s.toNat)) kX10_shift rfl rfl (by omega) (by omega) rfl ?_
                      have b48 : 0 ≤ h 50 (s.toNat) ∧ h 50 (s.toNat) ≤ 4 := hI.1 50 _
                      refine fz_callV (d' := 1) (M' := mX7_holdsRow) (As := [fz_i o, fz_i (h 50 (s.toNat))]) (st := []) kX10_shift rfl rfl vX7_holdsRow rfl rfl rfl rfl (Nat.le_of_ble_eq_true rfl) (Nat.le_of_ble_eq_true rfl) (by decide) (sX7_holdsRow h hI o (h 50 (s.toNat)) (by omega)) (fun H49 r50 q51 o52 => ?_)
                      obtain ⟨e53, y54, rfl, p55⟩ := q51
                      subst H49
                      clear o52
                      rcases p55 with ⟨rfl, c56⟩ | ⟨rfl, c56⟩
                      · refine fz_if_ne (tgt := 83) kX10_shift rfl (by decide) (fun c57 => ?_) (fun c57 => ?_)
                        · refine fz_aload_n kX10_shift rfl rfl ?_
                          refine fz_getR (t := 47) kX10_shift rfl rfl ?_
                          refine fz_iload_n kX10_shift rfl rfl ?_
                          refine fz_iload_n kX10_shift rfl rfl ?_
                          refine fz_iload kX10_shift rfl rfl ?_
                          refine fz_callV (d' := 1) (M' := mX7_hasPlaces) (As := [fz_i s, fz_i i, fz_i n]) (st := []) kX10_shift rfl rfl vX7_hasPlaces rfl rfl rfl rfl (Nat.le_of_ble_eq_true rfl) (Nat.le_of_ble_eq_true rfl) (by decide) (sX7_hasPlaces h hI s i n (by omega)) (fun H58 r59 q60 o61 => ?_)
                          obtain ⟨e62, y63, rfl, p64⟩ := q60
                          subst H58
                          clear o61
                          rcases p64 with ⟨rfl, c65⟩ | ⟨rfl, c65⟩
                          · refine fz_if_eq (tgt := 112) kX10_shift rfl (by decide) (fun c66 => ?_) (fun c66 => ?_)
                            · exfalso; omega
                            · refine fz_aload_n kX10_shift rfl rfl ?_
                              refine fz_getR (t := 47) kX10_shift rfl rfl ?_
                              refine fz_iload_n kX10_shift rfl rfl ?_
                              refine fz_iload kX10_shift rfl rfl ?_
                              refine fz_iload kX10_shift rfl rfl ?_
                              refine fz_callV (d' := 1) (M' := mX7_hasPlaces) (As := [fz_i o, fz_i j, fz_i n]) (st := []) kX10_shift rfl rfl vX7_hasPlaces rfl rfl rfl rfl (Nat.le_of_ble_eq_true rfl) (Nat.le_of_ble_eq_true rfl) (by decide) (sX7_hasPlaces h hI o j n (by omega)) (fun H67 r68 q69 o70 => ?_)
                              obtain ⟨e71, y72, rfl, p73⟩ := q69
                              subst H67
                              clear o70
                              rcases p73 with ⟨rfl, c74⟩ | ⟨rfl, c74⟩
                              · refine fz_if_ne (tgt := 115) kX10_shift rfl (by decide) (fun c75 => ?_) (fun c75 => ?_)
                                · refine fz_aload_n kX10_shift rfl rfl ?_
                                  refine fz_getR (t := 47) kX10_shift rfl rfl ?_
                                  refine fz_iload_n kX10_shift rfl rfl ?_
                                  refine fz_iload_n kX10_shift rfl rfl ?_
                                  refine fz_iload_n kX10_shift rfl rfl ?_
                                  refine fz_iload kX10_shift rfl rfl ?_
                                  refine fz_iload kX10_shift rfl rfl ?_
                                  refine fz_callV (d' := 1) (M' := mX7_copy) (As := [fz_i s, fz_i i, fz_i o, fz_i j, fz_i n]) (st := []) kX10_shift rfl rfl vX7_copy rfl rfl rfl rfl (Nat.le_of_ble_eq_true rfl) (Nat.le_of_ble_eq_true rfl) (by decide) (sX7_copy h hI s i o j n (by omega) (by omega) (by omega) (by omega) (by omega) (by omega) (by omega)) (fun H76 r77 q78 o79 => ?_)
                                  obtain ⟨hI80, hf81, rfl⟩ := q78
                                  clear o79
                                  have hf82 := fz_fr_tr hf hf81 (show fz_su [(52, 99999)] [(52, 99999)] = true from rfl)
                                  refine fz_iload kX10_shift rfl rfl ?_
                                  exact fz_iret kX10_shift rfl rfl (fun _ => ⟨hI80, hf82, _, rfl, (by omega)⟩)
                                · exfalso; omega
                              · refine fz_if_ne (tgt := 115) kX10_shift rfl (by decide) (fun c83 => ?_) (fun c83 => ?_)
                                · exfalso; omega
                                · refine fz_bipush ⟨by decide, by decide⟩ kX10_shift rfl ?_
                                  exact fz_iret kX10_shift rfl rfl (fun _ => ⟨hI, hf, _, rfl, (by omega)⟩)
                          · refine fz_if_eq (tgt := 112) kX10_shift rfl (by decide) (fun c84 => ?_) (fun c84 => ?_)
                            · refine fz_bipush ⟨by decide, by decide⟩ kX10_shift rfl ?_
                              exact fz_iret kX10_shift rfl rfl (fun _ => ⟨hI, hf, _, rfl, (by omega)⟩)
                            · exfalso; omega
                        · exfalso; omega
                      · refine fz_if_ne (tgt := 83) kX10_shift rfl (by decide) (fun c85 => ?_) (fun c85 => ?_)
                        · exfalso; omega
                        · refine fz_bipush ⟨by decide, by decide⟩ kX10_shift rfl ?_
                          exact fz_iret kX10_shift rfl rfl (fun _ => ⟨hI, hf, _, rfl, (by omega)⟩)
                  · refine fz_if_eq (tgt := 80) kX10_shift rfl (by decide) (fun c86 => ?_) (fun c86 => ?_)
                    · refine fz_bipush ⟨by decide, by decide⟩ kX10_shift rfl ?_
                      exact fz_iret kX10_shift rfl rfl (fun _ => ⟨hI, hf, _, rfl, (by omega)⟩)
                    · exfalso; omega
                · exfalso; omega
        · exfalso; omega
      · refine fz_if_ne (tgt := 24) kX10_shift rfl (by decide) (fun c87 => ?_) (fun c87 => ?_)
        · exfalso; omega
        · refine fz_iconst ⟨by decide, by decide⟩ kX10_shift rfl ?_
          exact fz_iret kX10_shift rfl rfl (fun _ => ⟨hI, hf, _, rfl, (by omega)⟩)
  · refine fz_if_eq (tgt := 22) kX10_shift rfl (by decide) (fun c88 => ?_) (fun c88 => ?_)
    · refine fz_iconst ⟨by decide, by decide⟩ kX10_shift rfl ?_
      exact fz_iret kX10_shift rfl rfl (fun _ => ⟨hI, hf, _, rfl, (by omega)⟩)
    · exfalso; omega

abbrev qX10_taken (h : fz_H) (s k : Int) : fz_H → Option fz_V → Prop := fun h' r0 => h' = h ∧ ∃ r : Int, r0 = some (fz_i r) ∧ ((-12) ≤ r ∧ r ≤ 7)
set_option maxHeartbeats 1000000 in
set_option maxRecDepth 100000 in
theorem sX10_taken (h : fz_H) (hI : fz_Iv h) (s k : Int) : fz_R 2 mX10_taken 0 [(0, fz_r 0), (1, fz_i s), (2, fz_i k)] [] h (qX10_taken h s k) := by
  refine fz_knowl (fun hk => ?_)
  have hr_s : -2147483648 ≤ s ∧ s < 2147483648 := hk _ (List.Mem.tail _ (List.Mem.head _))
  have hr_k : -2147483648 ≤ k ∧ k < 2147483648 := hk _ (List.Mem.tail _ (List.Mem.tail _ (List.Mem.head _)))
  clear hk
  refine fz_aload_n kX10_taken rfl rfl ?_
  refine fz_getR (t := 47) kX10_taken rfl rfl ?_
  refine fz_iload_n kX10_taken rfl rfl ?_
  refine fz_callV (d' := 0) (M' := mX7_isShelf) (As := [fz_i s]) (st := []) kX10_taken rfl rfl vX7_isShelf rfl rfl rfl rfl (Nat.le_of_ble_eq_true rfl) (Nat.le_of_ble_eq_true rfl) (by decide) (sX7_isShelf h hI s ) (fun H1 r2 q3 o4 => ?_)
  obtain ⟨e5, y6, rfl, p7⟩ := q3
  subst H1
  clear o4
  rcases p7 with ⟨rfl, c8⟩ | ⟨rfl, c8⟩
  · refine fz_if_eq (tgt := 22) kX10_taken rfl (by decide) (fun c9 => ?_) (fun c9 => ?_)
    · exfalso; omega
    · refine fz_aload_n kX10_taken rfl rfl ?_
      refine fz_getR (t := 44) kX10_taken rfl rfl ?_
      refine fz_iload_n kX10_taken rfl rfl ?_
      refine fz_callV (d' := 0) (M' := mX9_isKind) (As := [fz_i k]) (st := []) kX10_taken rfl rfl vX9_isKind rfl rfl rfl rfl (Nat.le_of_ble_eq_true rfl) (Nat.le_of_ble_eq_true rfl) (by decide) (sX9_isKind h hI k ) (fun H10 r11 q12 o13 => ?_)
      obtain ⟨e14, y15, rfl, p16⟩ := q12
      subst H10
      clear o13
      rcases p16 with ⟨rfl, c17⟩ | ⟨rfl, c17⟩
      · refine fz_if_ne (tgt := 24) kX10_taken rfl (by decide) (fun c18 => ?_) (fun c18 => ?_)
        · refine fz_aload_n kX10_taken rfl rfl ?_
          refine fz_getR (t := 47) kX10_taken rfl rfl ?_
          refine fz_iload_n kX10_taken rfl rfl ?_
          refine fz_callV (d' := 0) (M' := mX7_isEmpty) (As := [fz_i s]) (st := []) kX10_taken rfl rfl vX7_isEmpty rfl rfl rfl rfl (Nat.le_of_ble_eq_true rfl) (Nat.le_of_ble_eq_true rfl) (by decide) (sX7_isEmpty h hI s (by omega)) (fun H19 r20 q21 o22 => ?_)
          obtain ⟨e23, y24, rfl, p25⟩ := q21
          subst H19
          clear o22
          rcases p25 with ⟨rfl, c26⟩ | ⟨rfl, c26⟩
          · refine fz_if_eq (tgt := 38) kX10_taken rfl (by decide) (fun c27 => ?_) (fun c27 => ?_)
            · exfalso; omega
            · refine fz_bipush ⟨by decide, by decide⟩ kX10_taken rfl ?_
              exact fz_iret kX10_taken rfl rfl (fun _ => ⟨rfl, _, rfl, (by omega)⟩)
          · refine fz_if_eq (tgt := 38) kX10_taken rfl (by decide) (fun c28 => ?_) (fun c28 => ?_)
            · refine fz_aload_n kX10_taken rfl rfl ?_
              refine fz_getR (t := 47) kX10_taken rfl rfl ?_
              refine fz_iload_n kX10_taken rfl rfl ?_
              refine fz_callV (d' := 0) (M' := mX7_isRow) (As := [fz_i s]) (st := []) kX10_taken rfl rfl vX7_isRow rfl rfl rfl rfl (Nat.le_of_ble_eq_true rfl) (Nat.le_of_ble_eq_true rfl) (by decide) (sX7_isRow h hI s (by omega)) (fun H29 r30 q31 o32 => ?_)
              obtain ⟨e33, y34, rfl, p35⟩ := q31
              subst H29
              clear o32
              rcases p35 with ⟨rfl, c36⟩ | ⟨rfl, c36⟩
              · refine fz_if_eq (tgt := 54) kX10_taken rfl (by decide) (fun c37 => ?_) (fun c37 => ?_)
                · exfalso; omega
                · refine fz_bipush ⟨by decide, by decide⟩ kX10_taken rfl ?_
                  refine fz_goto (tgt := 70) kX10_taken rfl (by decide) ?_
                  refine fz_istore_n (ls' := [(3, fz_i (-2)), (0, fz_r 0), (1, fz_i s), (2, fz_i k)]) kX10_taken rfl (by decide) rfl ?_
                  refine fz_aload_n kX10_taken rfl rfl ?_
                  refine fz_getR (t := 44) kX10_taken rfl rfl ?_
                  refine fz_iload_n kX10_taken rfl rfl ?_
                  refine fz_iload_n kX10_taken rfl rfl ?_
                  refine fz_callV (d' := 1) (M' := mX9_isUnder) (As := [fz_i (-2), fz_i k]) (st := []) kX10_taken rfl rfl vX9_isUnder rfl rfl rfl rfl (Nat.le_of_ble_eq_true rfl) (Nat.le_of_ble_eq_true rfl) (by decide) (sX9_isUnder h hI (-2) k ) (fun H38 r39 q40 o41 => ?_)
                  obtain ⟨e42, y43, rfl, p44⟩ := q40
                  subst H38
                  clear o41
                  refine fz_if_eq (tgt := 87) kX10_taken rfl (by decide) (fun c45 => ?_) (fun c45 => ?_)
                  · refine fz_bipush ⟨by decide, by decide⟩ kX10_taken rfl ?_
                    exact fz_iret kX10_taken rfl rfl (fun _ => ⟨rfl, _, rfl, (by omega)⟩)
                  · refine fz_iload_n kX10_taken rfl rfl ?_
                    refine fz_goto (tgt := 89) kX10_taken rfl (by decide) ?_
                    exact fz_iret kX10_taken rfl rfl (fun _ => ⟨rfl, _, rfl, (by omega)⟩)
              · refine fz_if_eq (tgt := 54) kX10_taken rfl (by decide) (fun c46 => ?_) (fun c46 => ?_)
                · refine fz_aload_n kX10_taken rfl rfl ?_
                  refine fz_getR (t := 44) kX10_taken rfl rfl ?_
                  refine fz_aload_n kX10_taken rfl rfl ?_
                  refine fz_getR (t := 47) kX10_taken rfl rfl ?_
                  refine fz_getR (t := 49) kX10_taken rfl rfl ?_
                  refine fz_iload_n kX10_taken rfl rfl ?_
                  refine fz_ialdV (n := 6) (v := h 49 (s.toNat)) kX10_taken rfl rfl (by omega) (by omega) rfl ?_
                  have b47 : (-2147483648) ≤ h 49 (s.toNat) ∧ h 49 (s.toNat) ≤ 2147483647 := hI.1 49 _
                  refine fz_callV (d' := 1) (M' := mX9_kindOf) (As := [fz_i (h 49 (s.toNat))]) (st := []) kX10_taken rfl rfl vX9_kindOf rfl rfl rfl rfl (Nat.le_of_ble_eq_true rfl) (Nat.le_of_ble_eq_true rfl) (by decide) (sX9_kindOf h hI (h 49 (s.toNat)) ) (fun H48 r49 q50 o51 => ?_)
                  obtain ⟨e52, y54, rfl, f53⟩ := q50
                  subst H48
                  clear o51
                  refine fz_istore_n (ls' := [(3, fz_i y54), (0, fz_r 0), (1, fz_i s), (2, fz_i k)]) kX10_taken rfl (by decide) rfl ?_
                  refine fz_aload_n kX10_taken rfl rfl ?_
                  refine fz_getR (t := 44) kX10_taken rfl rfl ?_
                  refine fz_iload_n kX10_taken rfl rfl ?_
                  refine fz_iload_n kX10_taken rfl rfl ?_
                  refine fz_callV (d' := 1) (M' := mX9_isUnder) (As := [fz_i y54, fz_i k]) (st := []) kX10_taken rfl rfl vX9_isUnder rfl rfl rfl rfl (Nat.le_of_ble_eq_true rfl) (Nat.le_of_ble_eq_true rfl) (by decide) (sX9_isUnder h hI y54 k ) (fun H55 r56 q57 o58 => ?_)
                  obtain ⟨e59, y60, rfl, p61⟩ := q57
                  subst H55
                  clear o58
                  refine fz_if_eq (tgt := 87) kX10_taken rfl (by decide) (fun c62 => ?_) (fun c62 => ?_)
                  · refine fz_bipush ⟨by decide, by decide⟩ kX10_taken rfl ?_
                    exact fz_iret kX10_taken rfl rfl (fun _ => ⟨rfl, _, rfl, (by omega)⟩)
                  · refine fz_iload_n kX10_taken rfl rfl ?_
                    refine fz_goto (tgt := 89) kX10_taken rfl (by decide) ?_
                    exact fz_iret kX10_taken rfl rfl (fun _ => ⟨rfl, _, rfl, (by omega)⟩)
                · exfalso; omega
            · exfalso; omega
        · exfalso; omega
      · refine fz_if_ne (tgt := 24) kX10_taken rfl (by decide) (fun c63 => ?_) (fun c63 => ?_)
        · exfalso; omega
        · refine fz_iconst ⟨by decide, by decide⟩ kX10_taken rfl ?_
          exact fz_iret kX10_taken rfl rfl (fun _ => ⟨rfl, _, rfl, (by omega)⟩)
  · refine fz_if_eq (tgt := 22) kX10_taken rfl (by decide) (fun c64 => ?_) (fun c64 => ?_)
    · refine fz_iconst ⟨by decide, by decide⟩ kX10_taken rfl ?_
      exact fz_iret kX10_taken rfl rfl (fun _ => ⟨rfl, _, rfl, (by omega)⟩)
    · exfalso; omega

abbrev qX10_count (h : fz_H) (wh : Int) : fz_H → Option fz_V → Prop := fun h' r0 => h' = h ∧ ∃ r : Int, r0 = some (fz_i r) ∧ ((-2147483648) ≤ r ∧ r ≤ 2147483647)
set_option maxHeartbeats 1000000 in
set_option maxRecDepth 100000 in
theorem sX10_count (h : fz_H) (hI : fz_Iv h) (wh : Int) : fz_R 0 mX10_count 0 [(0, fz_r 0), (1, fz_i wh)] [] h (qX10_count h wh) := by
  refine fz_knowl (fun hk => ?_)
  have hr_wh : -2147483648 ≤ wh ∧ wh < 2147483648 := hk _ (List.Mem.tail _ (List.Mem.head _))
  clear hk
  refine fz_iload_n kX10_count rfl rfl ?_
  rcases (show wh = 0 ∨ wh = 1 ∨ wh = 2 ∨ wh = 3 ∨ wh = 4 ∨ wh = 5 ∨ wh = 6 ∨ (wh < 0 ∨ 6 < wh) by omega) with c1 | c1 | c1 | c1 | c1 | c1 | c1 | c1
  · refine fz_tswC (j := 0) (tgt := 44) kX10_count rfl c1 (by decide) (by decide) rfl (by decide) ?_
    refine fz_aload_n kX10_count rfl rfl ?_
    refine fz_getR (t := 1) kX10_count rfl rfl ?_
    refine fz_getV (v := h 1 7) kX10_count rfl rfl rfl ?_
    have b2 : 0 ≤ h 1 7 ∧ h 1 7 ≤ 8 := hI.1 1 _
    exact fz_iret kX10_count rfl rfl (fun _ => ⟨rfl, _, rfl, (by omega)⟩)
  · refine fz_tswC (j := 1) (tgt := 52) kX10_count rfl c1 (by decide) (by decide) rfl (by decide) ?_
    refine fz_aload_n kX10_count rfl rfl ?_
    refine fz_getR (t := 1) kX10_count rfl rfl ?_
    refine fz_getV (v := h 1 8) kX10_count rfl rfl rfl ?_
    have b3 : 0 ≤ h 1 8 ∧ h 1 8 ≤ 12 := hI.1 1 _
    exact fz_iret kX10_count rfl rfl (fun _ => ⟨rfl, _, rfl, (by omega)⟩)
  · refine fz_tswC (j := 2) (tgt := 60) kX10_count rfl c1 (by decide) (by decide) rfl (by decide) ?_
    refine fz_aload_n kX10_count rfl rfl ?_
    refine fz_getR (t := 9) kX10_count rfl rfl ?_
    refine fz_getV (v := h 9 5) kX10_count rfl rfl rfl ?_
    have b4 : 0 ≤ h 9 5 ∧ h 9 5 ≤ 10 := hI.1 9 _
    exact fz_iret kX10_count rfl rfl (fun _ => ⟨rfl, _, rfl, (by omega)⟩)
  · refine fz_tswC (j := 3) (tgt := 68) kX10_count rfl c1 (by decide) (by decide) rfl (by decide) ?_
    refine fz_aload_n kX10_count rfl rfl ?_
    refine fz_getR (t := 20) kX10_count rfl rfl ?_
    refine fz_getV (v := h 20 2) kX10_count rfl rfl rfl ?_
    have b5 : 0 ≤ h 20 2 ∧ h 20 2 ≤ 120 := hI.1 20 _
    exact fz_iret kX10_count rfl rfl (fun _ => ⟨rfl, _, rfl, (by omega)⟩)
  · refine fz_tswC (j := 4) (tgt := 76) kX10_count rfl c1 (by decide) (by decide) rfl (by decide) ?_
    refine fz_aload_n kX10_count rfl rfl ?_
    refine fz_getR (t := 35) kX10_count rfl rfl ?_
    refine fz_getV (v := h 35 4) kX10_count rfl rfl rfl ?_
    have b6 : 0 ≤ h 35 4 ∧ h 35 4 ≤ 40 := hI.1 35 _
    exact fz_iret kX10_count rfl rfl (fun _ => ⟨rfl, _, rfl, (by omega)⟩)
  · refine fz_tswC (j := 5) (tgt := 84) kX10_count rfl c1 (by decide) (by decide) rfl (by decide) ?_
    refine fz_aload_n kX10_count rfl rfl ?_
    refine fz_getR (t := 44) kX10_count rfl rfl ?_
    refine fz_getV (v := h 44 2) kX10_count rfl rfl rfl ?_
    have b7 : 0 ≤ h 44 2 ∧ h 44 2 ≤ 50 := hI.1 44 _
    exact fz_iret kX10_count rfl rfl (fun _ => ⟨rfl, _, rfl, (by omega)⟩)
  · refine fz_tswC (j := 6) (tgt := 92) kX10_count rfl c1 (by decide) (by decide) rfl (by decide) ?_
    refine fz_aload_n kX10_count rfl rfl ?_
    refine fz_getR (t := 44) kX10_count rfl rfl ?_
    refine fz_getV (v := h 44 3) kX10_count rfl rfl rfl ?_
    have b8 : (-2147483648) ≤ h 44 3 ∧ h 44 3 ≤ 2147483647 := hI.1 44 _
    exact fz_iret kX10_count rfl rfl (fun _ => ⟨rfl, _, rfl, (by omega)⟩)
  · refine fz_tswO (tgt := 100) kX10_count rfl c1 (by decide) ?_
    refine fz_iconst ⟨by decide, by decide⟩ kX10_count rfl ?_
    exact fz_iret kX10_count rfl rfl (fun _ => ⟨rfl, _, rfl, (by omega)⟩)
