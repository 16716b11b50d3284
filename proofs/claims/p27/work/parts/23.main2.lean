/-! ===== what the methods keep ===== -/
abbrev qX10_fixedNumberOf (h : fz_H) (nu wh : Int) : fz_H → Option fz_V → Prop := fun h' r0 => h' = h ∧ ∃ r : Int, r0 = some (fz_i r) ∧ ((-2000000000) ≤ r ∧ r ≤ 999) ∧ (fz_fxC h nu wh r)
set_option maxHeartbeats 1000000 in
set_option maxRecDepth 100000 in
theorem sX10_fixedNumberOf (h : fz_H) (hI : fz_Iv h) (nu wh : Int) : fz_R 1 mX10_fixedNumberOf 0 [(0, fz_r 0), (1, fz_i nu), (2, fz_i wh)] [] h (qX10_fixedNumberOf h nu wh) := by
  refine fz_knowl (fun hk => ?_)
  have hr_nu : -2147483648 ≤ nu ∧ nu < 2147483648 := hk _ (List.Mem.tail _ (List.Mem.head _))
  have hr_wh : -2147483648 ≤ wh ∧ wh < 2147483648 := hk _ (List.Mem.tail _ (List.Mem.tail _ (List.Mem.head _)))
  clear hk
  refine fz_iload_n kX10_fixedNumberOf rfl rfl ?_
  refine fz_bipush ⟨by decide, by decide⟩ kX10_fixedNumberOf rfl ?_
  refine fz_icmp_eq (tgt := 12) kX10_fixedNumberOf rfl (by decide) (fun c1 => ?_) (fun c1 => ?_)
  · refine fz_aload_n kX10_fixedNumberOf rfl rfl ?_
    refine fz_getR (t := 9) kX10_fixedNumberOf rfl rfl ?_
    refine fz_iload_n kX10_fixedNumberOf rfl rfl ?_
    have b2 : 0 ≤ h 9 5 ∧ h 9 5 ≤ 10 := hI.1 9 _
    refine fz_callV (d' := 0) (M' := mX4_isDeed) (As := [fz_i nu]) (st := []) kX10_fixedNumberOf rfl rfl vX4_isDeed rfl rfl rfl rfl (Nat.le_of_ble_eq_true rfl) (Nat.le_of_ble_eq_true rfl) (by decide) (sX4_isDeed h hI nu ) (fun H3 r4 q5 o6 => ?_)
    obtain ⟨e7, y8, rfl, p9⟩ := q5
    subst H3
    clear o6
    rcases p9 with ⟨rfl, c10⟩ | ⟨rfl, c10⟩
    · refine fz_if_eq (tgt := 51) kX10_fixedNumberOf rfl (by decide) (fun c11 => ?_) (fun c11 => ?_)
      · exfalso; omega
      · refine fz_iload_n kX10_fixedNumberOf rfl rfl ?_
        refine fz_bipush ⟨by decide, by decide⟩ kX10_fixedNumberOf rfl ?_
        refine fz_icmp_ne (tgt := 41) kX10_fixedNumberOf rfl (by decide) (fun c12 => ?_) (fun c12 => ?_)
        · exfalso; omega
        · refine fz_aload_n kX10_fixedNumberOf rfl rfl ?_
          refine fz_getR (t := 9) kX10_fixedNumberOf rfl rfl ?_
          refine fz_getR (t := 10) kX10_fixedNumberOf rfl rfl ?_
          refine fz_iload_n kX10_fixedNumberOf rfl rfl ?_
          refine fz_ialdV (n := 11) (v := h 10 (nu.toNat)) kX10_fixedNumberOf rfl rfl (by omega) (by omega) rfl ?_
          have b13 : 0 ≤ h 10 (nu.toNat) ∧ h 10 (nu.toNat) ≤ 3 := hI.1 10 _
          refine fz_goto (tgt := 50) kX10_fixedNumberOf rfl (by decide) ?_
          exact fz_iret kX10_fixedNumberOf rfl rfl (fun _ => ⟨rfl, _, rfl, (by omega), (by unfold fz_fxC; first | exact Or.inr (Or.inr (Or.inr (Or.inr ⟨by omega, by omega, by omega, by omega, rfl⟩))) | exact Or.inl ⟨by omega, ⟨by omega, by omega⟩, rfl⟩ | exact Or.inr (Or.inl ⟨by omega, ⟨by omega, by omega⟩, rfl⟩) | exact Or.inr (Or.inr (Or.inl ⟨by omega, ⟨by omega, by omega⟩, rfl⟩)) | exact Or.inr (Or.inr (Or.inr (Or.inl ⟨by omega, by omega, rfl⟩))) | omega)⟩)
    · refine fz_if_eq (tgt := 51) kX10_fixedNumberOf rfl (by decide) (fun c15 => ?_) (fun c15 => ?_)
      · refine fz_iload_n kX10_fixedNumberOf rfl rfl ?_
        refine fz_bipush ⟨by decide, by decide⟩ kX10_fixedNumberOf rfl ?_
        refine fz_icmp_ne (tgt := 75) kX10_fixedNumberOf rfl (by decide) (fun c16 => ?_) (fun c16 => ?_)
        · refine fz_iload_n kX10_fixedNumberOf rfl rfl ?_
          refine fz_bipush ⟨by decide, by decide⟩ kX10_fixedNumberOf rfl ?_
          refine fz_icmp_ne (tgt := 95) kX10_fixedNumberOf rfl (by decide) (fun c17 => ?_) (fun c17 => ?_)
          · refine fz_ldc (x := (-2000000000)) kX10_fixedNumberOf rfl rfl rfl ?_
            exact fz_iret kX10_fixedNumberOf rfl rfl (fun _ => ⟨rfl, _, rfl, (by omega), (by unfold fz_fxC; first | exact Or.inr (Or.inr (Or.inr (Or.inr ⟨by omega, by omega, by omega, by omega, rfl⟩))) | exact Or.inl ⟨by omega, ⟨by omega, by omega⟩, rfl⟩ | exact Or.inr (Or.inl ⟨by omega, ⟨by omega, by omega⟩, rfl⟩) | exact Or.inr (Or.inr (Or.inl ⟨by omega, ⟨by omega, by omega⟩, rfl⟩)) | exact Or.inr (Or.inr (Or.inr (Or.inl ⟨by omega, by omega, rfl⟩))) | omega)⟩)
          · exfalso; omega
        · exfalso; omega
      · exfalso; omega
  · refine fz_iload_n kX10_fixedNumberOf rfl rfl ?_
    refine fz_bipush ⟨by decide, by decide⟩ kX10_fixedNumberOf rfl ?_
    refine fz_icmp_ne (tgt := 51) kX10_fixedNumberOf rfl (by decide) (fun c19 => ?_) (fun c19 => ?_)
    · refine fz_iload_n kX10_fixedNumberOf rfl rfl ?_
      refine fz_bipush ⟨by decide, by decide⟩ kX10_fixedNumberOf rfl ?_
      refine fz_icmp_ne (tgt := 75) kX10_fixedNumberOf rfl (by decide) (fun c20 => ?_) (fun c20 => ?_)
      · refine fz_iload_n kX10_fixedNumberOf rfl rfl ?_
        refine fz_bipush ⟨by decide, by decide⟩ kX10_fixedNumberOf rfl ?_
        refine fz_icmp_ne (tgt := 95) kX10_fixedNumberOf rfl (by decide) (fun c21 => ?_) (fun c21 => ?_)
        · refine fz_ldc (x := (-2000000000)) kX10_fixedNumberOf rfl rfl rfl ?_
          exact fz_iret kX10_fixedNumberOf rfl rfl (fun _ => ⟨rfl, _, rfl, (by omega), (by unfold fz_fxC; first | exact Or.inr (Or.inr (Or.inr (Or.inr ⟨by omega, by omega, by omega, by omega, rfl⟩))) | exact Or.inl ⟨by omega, ⟨by omega, by omega⟩, rfl⟩ | exact Or.inr (Or.inl ⟨by omega, ⟨by omega, by omega⟩, rfl⟩) | exact Or.inr (Or.inr (Or.inl ⟨by omega, ⟨by omega, by omega⟩, rfl⟩)) | exact Or.inr (Or.inr (Or.inr (Or.inl ⟨by omega, by omega, rfl⟩))) | omega)⟩)
        · refine fz_iload_n kX10_fixedNumberOf rfl rfl ?_
          refine fz_if_ne (tgt := 95) kX10_fixedNumberOf rfl (by decide) (fun c23 => ?_) (fun c23 => ?_)
          · refine fz_ldc (x := (-2000000000)) kX10_fixedNumberOf rfl rfl rfl ?_
            exact fz_iret kX10_fixedNumberOf rfl rfl (fun _ => ⟨rfl, _, rfl, (by omega), (by unfold fz_fxC; first | exact Or.inr (Or.inr (Or.inr (Or.inr ⟨by omega, by omega, by omega, by omega, rfl⟩))) | exact Or.inl ⟨by omega, ⟨by omega, by omega⟩, rfl⟩ | exact Or.inr (Or.inl ⟨by omega, ⟨by omega, by omega⟩, rfl⟩) | exact Or.inr (Or.inr (Or.inl ⟨by omega, ⟨by omega, by omega⟩, rfl⟩)) | exact Or.inr (Or.inr (Or.inr (Or.inl ⟨by omega, by omega, rfl⟩))) | omega)⟩)
          · refine fz_aload_n kX10_fixedNumberOf rfl rfl ?_
            refine fz_getR (t := 40) kX10_fixedNumberOf rfl rfl ?_
            refine fz_getV (v := h 40 1) kX10_fixedNumberOf rfl rfl rfl ?_
            have b25 : 0 ≤ h 40 1 ∧ h 40 1 ≤ 999 := hI.1 40 _
            refine fz_goto (tgt := 97) kX10_fixedNumberOf rfl (by decide) ?_
            exact fz_iret kX10_fixedNumberOf rfl rfl (fun _ => ⟨rfl, _, rfl, (by omega), (by unfold fz_fxC; first | exact Or.inr (Or.inr (Or.inr (Or.inr ⟨by omega, by omega, by omega, by omega, rfl⟩))) | exact Or.inl ⟨by omega, ⟨by omega, by omega⟩, rfl⟩ | exact Or.inr (Or.inl ⟨by omega, ⟨by omega, by omega⟩, rfl⟩) | exact Or.inr (Or.inr (Or.inl ⟨by omega, ⟨by omega, by omega⟩, rfl⟩)) | exact Or.inr (Or.inr (Or.inr (Or.inl ⟨by omega, by omega, rfl⟩))) | omega)⟩)
      · refine fz_aload_n kX10_fixedNumberOf rfl rfl ?_
        refine fz_iload_n kX10_fixedNumberOf rfl rfl ?_
        refine fz_callV (d' := 0) (M' := mX10_isOne) (As := [fz_i nu]) (st := []) kX10_fixedNumberOf rfl rfl vX10_isOne rfl rfl rfl rfl (Nat.le_of_ble_eq_true rfl) (Nat.le_of_ble_eq_true rfl) (by decide) (sX10_isOne h hI nu ) (fun H27 r28 q29 o30 => ?_)
        obtain ⟨e31, y32, rfl, p33⟩ := q29
        subst H27
        clear o30
        rcases p33 with ⟨rfl, c34⟩ | ⟨rfl, c34⟩
        · refine fz_if_eq (tgt := 75) kX10_fixedNumberOf rfl (by decide) (fun c35 => ?_) (fun c35 => ?_)
          · exfalso; omega
          · refine fz_aload_n kX10_fixedNumberOf rfl rfl ?_
            refine fz_getR (t := 40) kX10_fixedNumberOf rfl rfl ?_
            refine fz_getR (t := 41) kX10_fixedNumberOf rfl rfl ?_
            refine fz_iload_n kX10_fixedNumberOf rfl rfl ?_
            refine fz_ialdV (n := 4) (v := h 41 (nu.toNat)) kX10_fixedNumberOf rfl rfl (by omega) (by omega) rfl ?_
            have b36 : 0 ≤ h 41 (nu.toNat) ∧ h 41 (nu.toNat) ≤ 7 := hI.1 41 _
            exact fz_iret kX10_fixedNumberOf rfl rfl (fun _ => ⟨rfl, _, rfl, (by omega), (by unfold fz_fxC; first | exact Or.inr (Or.inr (Or.inr (Or.inr ⟨by omega, by omega, by omega, by omega, rfl⟩))) | exact Or.inl ⟨by omega, ⟨by omega, by omega⟩, rfl⟩ | exact Or.inr (Or.inl ⟨by omega, ⟨by omega, by omega⟩, rfl⟩) | exact Or.inr (Or.inr (Or.inl ⟨by omega, ⟨by omega, by omega⟩, rfl⟩)) | exact Or.inr (Or.inr (Or.inr (Or.inl ⟨by omega, by omega, rfl⟩))) | omega)⟩)
        · refine fz_if_eq (tgt := 75) kX10_fixedNumberOf rfl (by decide) (fun c38 => ?_) (fun c38 => ?_)
          · refine fz_iload_n kX10_fixedNumberOf rfl rfl ?_
            refine fz_bipush ⟨by decide, by decide⟩ kX10_fixedNumberOf rfl ?_
            refine fz_icmp_ne (tgt := 95) kX10_fixedNumberOf rfl (by decide) (fun c39 => ?_) (fun c39 => ?_)
            · refine fz_ldc (x := (-2000000000)) kX10_fixedNumberOf rfl rfl rfl ?_
              exact fz_iret kX10_fixedNumberOf rfl rfl (fun _ => ⟨rfl, _, rfl, (by omega), (by unfold fz_fxC; first | exact Or.inr (Or.inr (Or.inr (Or.inr ⟨by omega, by omega, by omega, by omega, rfl⟩))) | exact Or.inl ⟨by omega, ⟨by omega, by omega⟩, rfl⟩ | exact Or.inr (Or.inl ⟨by omega, ⟨by omega, by omega⟩, rfl⟩) | exact Or.inr (Or.inr (Or.inl ⟨by omega, ⟨by omega, by omega⟩, rfl⟩)) | exact Or.inr (Or.inr (Or.inr (Or.inl ⟨by omega, by omega, rfl⟩))) | omega)⟩)
            · exfalso; omega
          · exfalso; omega
    · refine fz_aload_n kX10_fixedNumberOf rfl rfl ?_
      refine fz_getR (t := 9) kX10_fixedNumberOf rfl rfl ?_
      refine fz_iload_n kX10_fixedNumberOf rfl rfl ?_
      have b41 : 0 ≤ h 9 5 ∧ h 9 5 ≤ 10 := hI.1 9 _
      refine fz_callV (d' := 0) (M' := mX4_isDeed) (As := [fz_i nu]) (st := []) kX10_fixedNumberOf rfl rfl vX4_isDeed rfl rfl rfl rfl (Nat.le_of_ble_eq_true rfl) (Nat.le_of_ble_eq_true rfl) (by decide) (sX4_isDeed h hI nu ) (fun H42 r43 q44 o45 => ?_)
      obtain ⟨e46, y47, rfl, p48⟩ := q44
      subst H42
      clear o45
      rcases p48 with ⟨rfl, c49⟩ | ⟨rfl, c49⟩
      · refine fz_if_eq (tgt := 51) kX10_fixedNumberOf rfl (by decide) (fun c50 => ?_) (fun c50 => ?_)
        · exfalso; omega
        · refine fz_iload_n kX10_fixedNumberOf rfl rfl ?_
          refine fz_bipush ⟨by decide, by decide⟩ kX10_fixedNumberOf rfl ?_
          refine fz_icmp_ne (tgt := 41) kX10_fixedNumberOf rfl (by decide) (fun c51 => ?_) (fun c51 => ?_)
          · refine fz_aload_n kX10_fixedNumberOf rfl rfl ?_
            refine fz_getR (t := 9) kX10_fixedNumberOf rfl rfl ?_
            refine fz_getR (t := 11) kX10_fixedNumberOf rfl rfl ?_
            refine fz_iload_n kX10_fixedNumberOf rfl rfl ?_
            refine fz_ialdV (n := 11) (v := h 11 (nu.toNat)) kX10_fixedNumberOf rfl rfl (by omega) (by omega) rfl ?_
            have b52 : 0 ≤ h 11 (nu.toNat) ∧ h 11 (nu.toNat) ≤ 7 := hI.1 11 _
            exact fz_iret kX10_fixedNumberOf rfl rfl (fun _ => ⟨rfl, _, rfl, (by omega), (by unfold fz_fxC; first | exact Or.inr (Or.inr (Or.inr (Or.inr ⟨by omega, by omega, by omega, by omega, rfl⟩))) | exact Or.inl ⟨by omega, ⟨by omega, by omega⟩, rfl⟩ | exact Or.inr (Or.inl ⟨by omega, ⟨by omega, by omega⟩, rfl⟩) | exact Or.inr (Or.inr (Or.inl ⟨by omega, ⟨by omega, by omega⟩, rfl⟩)) | exact Or.inr (Or.inr (Or.inr (Or.inl ⟨by omega, by omega, rfl⟩))) | omega)⟩)
          · exfalso; omega
      · refine fz_if_eq (tgt := 51) kX10_fixedNumberOf rfl (by decide) (fun c54 => ?_) (fun c54 => ?_)
        · refine fz_iload_n kX10_fixedNumberOf rfl rfl ?_
          refine fz_bipush ⟨by decide, by decide⟩ kX10_fixedNumberOf rfl ?_
          refine fz_icmp_ne (tgt := 75) kX10_fixedNumberOf rfl (by decide) (fun c55 => ?_) (fun c55 => ?_)
          · refine fz_iload_n kX10_fixedNumberOf rfl rfl ?_
            refine fz_bipush ⟨by decide, by decide⟩ kX10_fixedNumberOf rfl ?_
            refine fz_icmp_ne (tgt := 95) kX10_fixedNumberOf rfl (by decide) (fun c56 => ?_) (fun c56 => ?_)
            · refine fz_ldc (x := (-2000000000)) kX10_fixedNumberOf rfl rfl rfl ?_
              exact fz_iret kX10_fixedNumberOf rfl rfl (fun _ => ⟨rfl, _, rfl, (by omega), (by unfold fz_fxC; first | exact Or.inr (Or.inr (Or.inr (Or.inr ⟨by omega, by omega, by omega, by omega, rfl⟩))) | exact Or.inl ⟨by omega, ⟨by omega, by omega⟩, rfl⟩ | exact Or.inr (Or.inl ⟨by omega, ⟨by omega, by omega⟩, rfl⟩) | exact Or.inr (Or.inr (Or.inl ⟨by omega, ⟨by omega, by omega⟩, rfl⟩)) | exact Or.inr (Or.inr (Or.inr (Or.inl ⟨by omega, by omega, rfl⟩))) | omega)⟩)
            · exfalso; omega
          · exfalso; omega
        · exfalso; omega

abbrev qX10_numberOf (h : fz_H) (nu wh : Int) : fz_H → Option fz_V → Prop := fun h' r0 => h' = h ∧ ∃ r : Int, r0 = some (fz_i r) ∧ ((-2000000000) ≤ r ∧ r ≤ 999) ∧ (((wh = 0 ∧ 0 ≤ nu ∧ nu < h 1 7) ∨ (wh = 1 ∧ 0 ≤ nu ∧ nu < h 1 8) ∨ (wh = 2 ∧ 0 ≤ nu ∧ nu < h 1 8) ∨ (wh = 3 ∧ 0 ≤ nu ∧ nu < h 9 5) ∨ (wh = 4 ∧ 0 ≤ nu ∧ nu < h 9 5) ∨ (wh = 5 ∧ 0 ≤ nu ∧ nu < h 9 5) ∨ (wh = 6 ∧ 0 ≤ nu ∧ nu < 5) ∨ (wh = 7 ∧ nu = 0) ∨ (wh = 8 ∧ nu = 0)) → fz_oc wh r) ∧ (fz_nC h nu wh r)
set_option maxHeartbeats 1000000 in
set_option maxRecDepth 100000 in
theorem sX10_numberOf (h : fz_H) (hI : fz_Iv h) (nu wh : Int) : fz_R 2 mX10_numberOf 0 [(0, fz_r 0), (1, fz_i nu), (2, fz_i wh)] [] h (qX10_numberOf h nu wh) := by
  refine fz_knowl (fun hk => ?_)
  have hr_nu : -2147483648 ≤ nu ∧ nu < 2147483648 := hk _ (List.Mem.tail _ (List.Mem.head _))
  have hr_wh : -2147483648 ≤ wh ∧ wh < 2147483648 := hk _ (List.Mem.tail _ (List.Mem.tail _ (List.Mem.head _)))
  clear hk
  have b1 : 0 ≤ h 1 7 ∧ h 1 7 ≤ 8 := hI.1 1 _
  have b2 : 0 ≤ h 1 8 ∧ h 1 8 ≤ 12 := hI.1 1 _
  have b3 : 0 ≤ h 9 5 ∧ h 9 5 ≤ 10 := hI.1 9 _
  refine fz_iload_n kX10_numberOf rfl rfl ?_
  refine fz_bipush ⟨by decide, by decide⟩ kX10_numberOf rfl ?_
  refine fz_icmp_le (tgt := 13) kX10_numberOf rfl (by decide) (fun c4 => ?_) (fun c4 => ?_)
  · refine fz_aload_n kX10_numberOf rfl rfl ?_
    refine fz_iload_n kX10_numberOf rfl rfl ?_
    refine fz_iload_n kX10_numberOf rfl rfl ?_
    refine fz_callV (d' := 1) (M' := mX10_isMendable) (As := [fz_i nu, fz_i wh]) (st := []) kX10_numberOf rfl rfl vX10_isMendable rfl rfl rfl rfl (Nat.le_of_ble_eq_true rfl) (Nat.le_of_ble_eq_true rfl) (by decide) (sX10_isMendable h hI nu wh ) (fun H5 r6 q7 o8 => ?_)
    obtain ⟨e9, y10, rfl, p11⟩ := q7
    subst H5
    clear o8
    rcases p11 with ⟨rfl, c12⟩ | ⟨rfl, c12⟩
    · refine fz_if_ne (tgt := 25) kX10_numberOf rfl (by decide) (fun c13 => ?_) (fun c13 => ?_)
      · refine fz_iload_n kX10_numberOf rfl rfl ?_
        rcases (show wh = 0 ∨ wh = 1 ∨ wh = 2 ∨ wh = 3 ∨ wh = 4 ∨ wh = 5 ∨ wh = 6 ∨ wh = 7 ∨ (wh < 0 ∨ 7 < wh) by omega) with c14 | c14 | c14 | c14 | c14 | c14 | c14 | c14 | c14
        · refine fz_tswC (j := 0) (tgt := 72) kX10_numberOf rfl c14 (by decide) (by decide) rfl (by decide) ?_
          refine fz_aload_n kX10_numberOf rfl rfl ?_
          refine fz_getR (t := 1) kX10_numberOf rfl rfl ?_
          refine fz_getR (t := 2) kX10_numberOf rfl rfl ?_
          refine fz_iload_n kX10_numberOf rfl rfl ?_
          refine fz_ialdV (n := 8) (v := h 2 (nu.toNat)) kX10_numberOf rfl rfl (by omega) (by omega) rfl ?_
          have b15 : 0 ≤ h 2 (nu.toNat) ∧ h 2 (nu.toNat) ≤ 9 := hI.1 2 _
          exact fz_iret kX10_numberOf rfl rfl (fun _ => ⟨rfl, _, rfl, (by omega), (by first | (intro _; unfold fz_oc; omega) | (intro z; exfalso; omega)), (by first | exact Or.inr (Or.inl ⟨by omega, c12, fz_gC_l (fz_lC_0 c14)⟩) | exact Or.inr (Or.inl ⟨by omega, c12, fz_gC_l (fz_lC_1 c14)⟩) | exact Or.inr (Or.inl ⟨by omega, c12, fz_gC_l (fz_lC_2 c14)⟩) | exact Or.inr (Or.inl ⟨by omega, c12, fz_gC_l (fz_lC_3 c14)⟩) | exact Or.inr (Or.inl ⟨by omega, c12, fz_gC_l (fz_lC_4 c14)⟩) | exact Or.inr (Or.inl ⟨by omega, c12, fz_gC_l (fz_lC_5 c14)⟩) | exact Or.inr (Or.inl ⟨by omega, c12, fz_gC_l (fz_lC_6 c14)⟩) | exact Or.inr (Or.inl ⟨by omega, c12, fz_gC_l (fz_lC_7 c14)⟩) | exact Or.inr (Or.inl ⟨by omega, c12, fz_gC_l (fz_lC_8 c14)⟩) | exact Or.inr (Or.inr ⟨by omega, c12, rfl⟩) | exact Or.inl ⟨by omega, lost⟩)⟩)
        · refine fz_tswC (j := 1) (tgt := 82) kX10_numberOf rfl c14 (by decide) (by decide) rfl (by decide) ?_
          refine fz_aload_n kX10_numberOf rfl rfl ?_
          refine fz_getR (t := 1) kX10_numberOf rfl rfl ?_
          refine fz_getR (t := 3) kX10_numberOf rfl rfl ?_
          refine fz_iload_n kX10_numberOf rfl rfl ?_
          refine fz_ialdV (n := 12) (v := h 3 (nu.toNat)) kX10_numberOf rfl rfl (by omega) (by omega) rfl ?_
          have b18 : 0 ≤ h 3 (nu.toNat) ∧ h 3 (nu.toNat) ≤ 24 := hI.1 3 _
          exact fz_iret kX10_numberOf rfl rfl (fun _ => ⟨rfl, _, rfl, (by omega), (by first | (intro _; unfold fz_oc; omega) | (intro z; exfalso; omega)), (by first | exact Or.inr (Or.inl ⟨by omega, c12, fz_gC_l (fz_lC_0 c14)⟩) | exact Or.inr (Or.inl ⟨by omega, c12, fz_gC_l (fz_lC_1 c14)⟩) | exact Or.inr (Or.inl ⟨by omega, c12, fz_gC_l (fz_lC_2 c14)⟩) | exact Or.inr (Or.inl ⟨by omega, c12, fz_gC_l (fz_lC_3 c14)⟩) | exact Or.inr (Or.inl ⟨by omega, c12, fz_gC_l (fz_lC_4 c14)⟩) | exact Or.inr (Or.inl ⟨by omega, c12, fz_gC_l (fz_lC_5 c14)⟩) | exact Or.inr (Or.inl ⟨by omega, c12, fz_gC_l (fz_lC_6 c14)⟩) | exact Or.inr (Or.inl ⟨by omega, c12, fz_gC_l (fz_lC_7 c14)⟩) | exact Or.inr (Or.inl ⟨by omega, c12, fz_gC_l (fz_lC_8 c14)⟩) | exact Or.inr (Or.inr ⟨by omega, c12, rfl⟩) | exact Or.inl ⟨by omega, lost⟩)⟩)
        · refine fz_tswC (j := 2) (tgt := 92) kX10_numberOf rfl c14 (by decide) (by decide) rfl (by decide) ?_
          refine fz_aload_n kX10_numberOf rfl rfl ?_
          refine fz_getR (t := 1) kX10_numberOf rfl rfl ?_
          refine fz_getR (t := 4) kX10_numberOf rfl rfl ?_
          refine fz_iload_n kX10_numberOf rfl rfl ?_
          refine fz_ialdV (n := 12) (v := h 4 (nu.toNat)) kX10_numberOf rfl rfl (by omega) (by omega) rfl ?_
          have b21 : 0 ≤ h 4 (nu.toNat) ∧ h 4 (nu.toNat) ≤ 1 := hI.1 4 _
          exact fz_iret kX10_numberOf rfl rfl (fun _ => ⟨rfl, _, rfl, (by omega), (by first | (intro _; unfold fz_oc; omega) | (intro z; exfalso; omega)), (by first | exact Or.inr (Or.inl ⟨by omega, c12, fz_gC_l (fz_lC_0 c14)⟩) | exact Or.inr (Or.inl ⟨by omega, c12, fz_gC_l (fz_lC_1 c14)⟩) | exact Or.inr (Or.inl ⟨by omega, c12, fz_gC_l (fz_lC_2 c14)⟩) | exact Or.inr (Or.inl ⟨by omega, c12, fz_gC_l (fz_lC_3 c14)⟩) | exact Or.inr (Or.inl ⟨by omega, c12, fz_gC_l (fz_lC_4 c14)⟩) | exact Or.inr (Or.inl ⟨by omega, c12, fz_gC_l (fz_lC_5 c14)⟩) | exact Or.inr (Or.inl ⟨by omega, c12, fz_gC_l (fz_lC_6 c14)⟩) | exact Or.inr (Or.inl ⟨by omega, c12, fz_gC_l (fz_lC_7 c14)⟩) | exact Or.inr (Or.inl ⟨by omega, c12, fz_gC_l (fz_lC_8 c14)⟩) | exact Or.inr (Or.inr ⟨by omega, c12, rfl⟩) | exact Or.inl ⟨by omega, lost⟩)⟩)
        · refine fz_tswC (j := 3) (tgt := 102) kX10_numberOf rfl c14 (by decide) (by decide) rfl (by decide) ?_
          refine fz_aload_n kX10_numberOf rfl rfl ?_
          refine fz_getR (t := 9) kX10_numberOf rfl rfl ?_
          refine fz_getR (t := 12) kX10_numberOf rfl rfl ?_
          refine fz_iload_n kX10_numberOf rfl rfl ?_
          refine fz_ialdV (n := 11) (v := h 12 (nu.toNat)) kX10_numberOf rfl rfl (by omega) (by omega) rfl ?_
          have b24 : 0 ≤ h 12 (nu.toNat) ∧ h 12 (nu.toNat) ≤ 999 := hI.1 12 _
          exact fz_iret kX10_numberOf rfl rfl (fun _ => ⟨rfl, _, rfl, (by omega), (by first | (intro _; unfold fz_oc; omega) | (intro z; exfalso; omega)), (by first | exact Or.inr (Or.inl ⟨by omega, c12, fz_gC_l (fz_lC_0 c14)⟩) | exact Or.inr (Or.inl ⟨by omega, c12, fz_gC_l (fz_lC_1 c14)⟩) | exact Or.inr (Or.inl ⟨by omega, c12, fz_gC_l (fz_lC_2 c14)⟩) | exact Or.inr (Or.inl ⟨by omega, c12, fz_gC_l (fz_lC_3 c14)⟩) | exact Or.inr (Or.inl ⟨by omega, c12, fz_gC_l (fz_lC_4 c14)⟩) | exact Or.inr (Or.inl ⟨by omega, c12, fz_gC_l (fz_lC_5 c14)⟩) | exact Or.inr (Or.inl ⟨by omega, c12, fz_gC_l (fz_lC_6 c14)⟩) | exact Or.inr (Or.inl ⟨by omega, c12, fz_gC_l (fz_lC_7 c14)⟩) | exact Or.inr (Or.inl ⟨by omega, c12, fz_gC_l (fz_lC_8 c14)⟩) | exact Or.inr (Or.inr ⟨by omega, c12, rfl⟩) | exact Or.inl ⟨by omega, lost⟩)⟩)
        · refine fz_tswC (j := 4) (tgt := 112) kX10_numberOf rfl c14 (by decide) (by decide) rfl (by decide) ?_
          refine fz_aload_n kX10_numberOf rfl rfl ?_
          refine fz_getR (t := 9) kX10_numberOf rfl rfl ?_
          refine fz_getR (t := 13) kX10_numberOf rfl rfl ?_
          refine fz_iload_n kX10_numberOf rfl rfl ?_
          refine fz_ialdV (n := 11) (v := h 13 (nu.toNat)) kX10_numberOf rfl rfl (by omega) (by omega) rfl ?_
          have b27 : 0 ≤ h 13 (nu.toNat) ∧ h 13 (nu.toNat) ≤ 4 := hI.1 13 _
          exact fz_iret kX10_numberOf rfl rfl (fun _ => ⟨rfl, _, rfl, (by omega), (by first | (intro _; unfold fz_oc; omega) | (intro z; exfalso; omega)), (by first | exact Or.inr (Or.inl ⟨by omega, c12, fz_gC_l (fz_lC_0 c14)⟩) | exact Or.inr (Or.inl ⟨by omega, c12, fz_gC_l (fz_lC_1 c14)⟩) | exact Or.inr (Or.inl ⟨by omega, c12, fz_gC_l (fz_lC_2 c14)⟩) | exact Or.inr (Or.inl ⟨by omega, c12, fz_gC_l (fz_lC_3 c14)⟩) | exact Or.inr (Or.inl ⟨by omega, c12, fz_gC_l (fz_lC_4 c14)⟩) | exact Or.inr (Or.inl ⟨by omega, c12, fz_gC_l (fz_lC_5 c14)⟩) | exact Or.inr (Or.inl ⟨by omega, c12, fz_gC_l (fz_lC_6 c14)⟩) | exact Or.inr (Or.inl ⟨by omega, c12, fz_gC_l (fz_lC_7 c14)⟩) | exact Or.inr (Or.inl ⟨by omega, c12, fz_gC_l (fz_lC_8 c14)⟩) | exact Or.inr (Or.inr ⟨by omega, c12, rfl⟩) | exact Or.inl ⟨by omega, lost⟩)⟩)
        · refine fz_tswC (j := 5) (tgt := 122) kX10_numberOf rfl c14 (by decide) (by decide) rfl (by decide) ?_
          refine fz_aload_n kX10_numberOf rfl rfl ?_
          refine fz_getR (t := 9) kX10_numberOf rfl rfl ?_
          refine fz_getR (t := 14) kX10_numberOf rfl rfl ?_
          refine fz_iload_n kX10_numberOf rfl rfl ?_
          refine fz_ialdV (n := 11) (v := h 14 (nu.toNat)) kX10_numberOf rfl rfl (by omega) (by omega) rfl ?_
          have b30 : 0 ≤ h 14 (nu.toNat) ∧ h 14 (nu.toNat) ≤ 9 := hI.1 14 _
          exact fz_iret kX10_numberOf rfl rfl (fun _ => ⟨rfl, _, rfl, (by omega), (by first | (intro _; unfold fz_oc; omega) | (intro z; exfalso; omega)), (by first | exact Or.inr (Or.inl ⟨by omega, c12, fz_gC_l (fz_lC_0 c14)⟩) | exact Or.inr (Or.inl ⟨by omega, c12, fz_gC_l (fz_lC_1 c14)⟩) | exact Or.inr (Or.inl ⟨by omega, c12, fz_gC_l (fz_lC_2 c14)⟩) | exact Or.inr (Or.inl ⟨by omega, c12, fz_gC_l (fz_lC_3 c14)⟩) | exact Or.inr (Or.inl ⟨by omega, c12, fz_gC_l (fz_lC_4 c14)⟩) | exact Or.inr (Or.inl ⟨by omega, c12, fz_gC_l (fz_lC_5 c14)⟩) | exact Or.inr (Or.inl ⟨by omega, c12, fz_gC_l (fz_lC_6 c14)⟩) | exact Or.inr (Or.inl ⟨by omega, c12, fz_gC_l (fz_lC_7 c14)⟩) | exact Or.inr (Or.inl ⟨by omega, c12, fz_gC_l (fz_lC_8 c14)⟩) | exact Or.inr (Or.inr ⟨by omega, c12, rfl⟩) | exact Or.inl ⟨by omega, lost⟩)⟩)
        · refine fz_tswC (j := 6) (tgt := 132) kX10_numberOf rfl c14 (by decide) (by decide) rfl (by decide) ?_
          refine fz_aload_n kX10_numberOf rfl rfl ?_
          refine fz_getR (t := 27) kX10_numberOf rfl rfl ?_
          refine fz_getR (t := 28) kX10_numberOf rfl rfl ?_
          refine fz_iload_n kX10_numberOf rfl rfl ?_
          refine fz_ialdV (n := 5) (v := h 28 (nu.toNat)) kX10_numberOf rfl rfl (by omega) (by omega) rfl ?_
          have b33 : (-9) ≤ h 28 (nu.toNat) ∧ h 28 (nu.toNat) ≤ 9 := hI.1 28 _
          exact fz_iret kX10_numberOf rfl rfl (fun _ => ⟨rfl, _, rfl, (by omega), (by first | (intro _; unfold fz_oc; omega) | (intro z; exfalso; omega)), (by first | exact Or.inr (Or.inl ⟨by omega, c12, fz_gC_l (fz_lC_0 c14)⟩) | exact Or.inr (Or.inl ⟨by omega, c12, fz_gC_l (fz_lC_1 c14)⟩) | exact Or.inr (Or.inl ⟨by omega, c12, fz_gC_l (fz_lC_2 c14)⟩) | exact Or.inr (Or.inl ⟨by omega, c12, fz_gC_l (fz_lC_3 c14)⟩) | exact Or.inr (Or.inl ⟨by omega, c12, fz_gC_l (fz_lC_4 c14)⟩) | exact Or.inr (Or.inl ⟨by omega, c12, fz_gC_l (fz_lC_5 c14)⟩) | exact Or.inr (Or.inl ⟨by omega, c12, fz_gC_l (fz_lC_6 c14)⟩) | exact Or.inr (Or.inl ⟨by omega, c12, fz_gC_l (fz_lC_7 c14)⟩) | exact Or.inr (Or.inl ⟨by omega, c12, fz_gC_l (fz_lC_8 c14)⟩) | exact Or.inr (Or.inr ⟨by omega, c12, rfl⟩) | exact Or.inl ⟨by omega, lost⟩)⟩)
        · refine fz_tswC (j := 7) (tgt := 142) kX10_numberOf rfl c14 (by decide) (by decide) rfl (by decide) ?_
          refine fz_aload_n kX10_numberOf rfl rfl ?_
          refine fz_getR (t := 27) kX10_numberOf rfl rfl ?_
          refine fz_getV (v := h 27 8) kX10_numberOf rfl rfl rfl ?_
          have b36 : 0 ≤ h 27 8 ∧ h 27 8 ≤ 99 := hI.1 27 _
          exact fz_iret kX10_numberOf rfl rfl (fun _ => ⟨rfl, _, rfl, (by omega), (by first | (intro _; unfold fz_oc; omega) | (intro z; exfalso; omega)), (by first | exact Or.inr (Or.inl ⟨by omega, c12, fz_gC_l (fz_lC_0 c14)⟩) | exact Or.inr (Or.inl ⟨by omega, c12, fz_gC_l (fz_lC_1 c14)⟩) | exact Or.inr (Or.inl ⟨by omega, c12, fz_gC_l (fz_lC_2 c14)⟩) | exact Or.inr (Or.inl ⟨by omega, c12, fz_gC_l (fz_lC_3 c14)⟩) | exact Or.inr (Or.inl ⟨by omega, c12, fz_gC_l (fz_lC_4 c14)⟩) | exact Or.inr (Or.inl ⟨by omega, c12, fz_gC_l (fz_lC_5 c14)⟩) | exact Or.inr (Or.inl ⟨by omega, c12, fz_gC_l (fz_lC_6 c14)⟩) | exact Or.inr (Or.inl ⟨by omega, c12, fz_gC_l (fz_lC_7 c14)⟩) | exact Or.inr (Or.inl ⟨by omega, c12, fz_gC_l (fz_lC_8 c14)⟩) | exact Or.inr (Or.inr ⟨by omega, c12, rfl⟩) | exact Or.inl ⟨by omega, lost⟩)⟩)
        · refine fz_tswO (tgt := 150) kX10_numberOf rfl c14 (by decide) ?_
          refine fz_aload_n kX10_numberOf rfl rfl ?_
          refine fz_getR (t := 27) kX10_numberOf rfl rfl ?_
          refine fz_getV (v := h 27 9) kX10_numberOf rfl rfl rfl ?_
          have b39 : 0 ≤ h 27 9 ∧ h 27 9 ≤ 12 := hI.1 27 _
          exact fz_iret kX10_numberOf rfl rfl (fun _ => ⟨rfl, _, rfl, (by omega), (by first | (intro _; unfold fz_oc; omega) | (intro z; exfalso; omega)), (by first | exact Or.inr (Or.inl ⟨by omega, c12, fz_gC_l (fz_lC_0 c14)⟩) | exact Or.inr (Or.inl ⟨by omega, c12, fz_gC_l (fz_lC_1 c14)⟩) | exact Or.inr (Or.inl ⟨by omega, c12, fz_gC_l (fz_lC_2 c14)⟩) | exact Or.inr (Or.inl ⟨by omega, c12, fz_gC_l (fz_lC_3 c14)⟩) | exact Or.inr (Or.inl ⟨by omega, c12, fz_gC_l (fz_lC_4 c14)⟩) | exact Or.inr (Or.inl ⟨by omega, c12, fz_gC_l (fz_lC_5 c14)⟩) | exact Or.inr (Or.inl ⟨by omega, c12, fz_gC_l (fz_lC_6 c14)⟩) | exact Or.inr (Or.inl ⟨by omega, c12, fz_gC_l (fz_lC_7 c14)⟩) | exact Or.inr (Or.inl ⟨by omega, c12, fz_gC_l (fz_lC_8 c14)⟩) | exact Or.inr (Or.inr ⟨by omega, c12, rfl⟩) | exact Or.inl ⟨by omega, lost⟩)⟩)
      · exfalso; omega
    · refine fz_if_ne (tgt := 25) kX10_numberOf rfl (by decide) (fun c42 => ?_) (fun c42 => ?_)
      · exfalso; omega
      · refine fz_ldc (x := (-2000000000)) kX10_numberOf rfl rfl rfl ?_
        exact fz_iret kX10_numberOf rfl rfl (fun _ => ⟨rfl, _, rfl, (by omega), (by first | (intro _; unfold fz_oc; omega) | (intro z; exfalso; omega)), (by first | exact Or.inr (Or.inl ⟨by omega, c12, fz_gC_l (fz_lC_0 lost)⟩) | exact Or.inr (Or.inl ⟨by omega, c12, fz_gC_l (fz_lC_1 lost)⟩) | exact Or.inr (Or.inl ⟨by omega, c12, fz_gC_l (fz_lC_2 lost)⟩) | exact Or.inr (Or.inl ⟨by omega, c12, fz_gC_l (fz_lC_3 lost)⟩) | exact Or.inr (Or.inl ⟨by omega, c12, fz_gC_l (fz_lC_4 lost)⟩) | exact Or.inr (Or.inl ⟨by omega, c12, fz_gC_l (fz_lC_5 lost)⟩) | exact Or.inr (Or.inl ⟨by omega, c12, fz_gC_l (fz_lC_6 lost)⟩) | exact Or.inr (Or.inl ⟨by omega, c12, fz_gC_l (fz_lC_7 lost)⟩) | exact Or.inr (Or.inl ⟨by omega, c12, fz_gC_l (fz_lC_8 lost)⟩) | exact Or.inr (Or.inr ⟨by omega, c12, rfl⟩) | exact Or.inl ⟨by omega, lost⟩)⟩)
  · refine fz_aload_n kX10_numberOf rfl rfl ?_
    refine fz_iload_n kX10_numberOf rfl rfl ?_
    refine fz_iload_n kX10_numberOf rfl rfl ?_
    refine fz_callV (d' := 1) (M' := mX10_fixedNumberOf) (As := [fz_i nu, fz_i wh]) (st := []) kX10_numberOf rfl rfl vX10_fixedNumberOf rfl rfl rfl rfl (Nat.le_of_ble_eq_true rfl) (Nat.le_of_ble_eq_true rfl) (by decide) (sX10_fixedNumberOf h hI nu wh ) (fun H45 r46 q47 o48 => ?_)
    obtain ⟨e49, y52, rfl, f50, f51⟩ := q47
    subst H45
    clear o48
    exact fz_iret kX10_numberOf rfl rfl (fun _ => ⟨rfl, _, rfl, (by omega), (by first | (intro _; unfold fz_oc; omega) | (intro z; exfalso; omega)), (by first | exact Or.inr (Or.inl ⟨by omega, lost, fz_gC_l (fz_lC_0 lost)⟩) | exact Or.inr (Or.inl ⟨by omega, lost, fz_gC_l (fz_lC_1 lost)⟩) | exact Or.inr (Or.inl ⟨by omega, lost, fz_gC_l (fz_lC_2 lost)⟩) | exact Or.inr (Or.inl ⟨by omega, lost, fz_gC_l (fz_lC_3 lost)⟩) | exact Or.inr (Or.inl ⟨by omega, lost, fz_gC_l (fz_lC_4 lost)⟩) | exact Or.inr (Or.inl ⟨by omega, lost, fz_gC_l (fz_lC_5 lost)⟩) | exact Or.inr (Or.inl ⟨by omega, lost, fz_gC_l (fz_lC_6 lost)⟩) | exact Or.inr (Or.inl ⟨by omega, lost, fz_gC_l (fz_lC_7 lost)⟩) | exact Or.inr (Or.inl ⟨by omega, lost, fz_gC_l (fz_lC_8 lost)⟩) | exact Or.inr (Or.inr ⟨by omega, lost, rfl⟩) | exact Or.inl ⟨by omega, f51⟩)⟩)

abbrev qX10_of (h : fz_H) (nu wh : Int) : fz_H → Option fz_V → Prop := fun h' r0 => h' = h ∧ ∃ r : Int, r0 = some (fz_i r) ∧ ((-2000000000) ≤ r ∧ r ≤ 999) ∧ (fz_nC h nu wh r)
set_option maxHeartbeats 1000000 in
set_option maxRecDepth 100000 in
theorem sX10_of (h : fz_H) (hI : fz_Iv h) (nu wh : Int) : fz_R 3 mX10_of 0 [(0, fz_r 0), (1, fz_i nu), (2, fz_i wh)] [] h (qX10_of h nu wh) := by
  refine fz_knowl (fun hk => ?_)
  have hr_nu : -2147483648 ≤ nu ∧ nu < 2147483648 := hk _ (List.Mem.tail _ (List.Mem.head _))
  have hr_wh : -2147483648 ≤ wh ∧ wh < 2147483648 := hk _ (List.Mem.tail _ (List.Mem.tail _ (List.Mem.head _)))
  clear hk
  refine fz_aload_n kX10_of rfl rfl ?_
  refine fz_iload_n kX10_of rfl rfl ?_
  refine fz_iload_n kX10_of rfl rfl ?_
  have b1 : 0 ≤ h 1 7 ∧ h 1 7 ≤ 8 := hI.1 1 _
  have b2 : 0 ≤ h 1 8 ∧ h 1 8 ≤ 12 := hI.1 1 _
  have b3 : 0 ≤ h 9 5 ∧ h 9 5 ≤ 10 := hI.1 9 _
  refine fz_callV (d' := 2) (M' := mX10_numberOf) (As := [fz_i nu, fz_i wh]) (st := []) kX10_of rfl rfl vX10_numberOf rfl rfl rfl rfl (Nat.le_of_ble_eq_true rfl) (Nat.le_of_ble_eq_true rfl) (by decide) (sX10_numberOf h hI nu wh ) (fun H4 r5 q6 o7 => ?_)
  obtain ⟨e8, y12, rfl, f9, f10, f11⟩ := q6
  subst H4
  clear o7
  exact fz_iret kX10_of rfl rfl (fun _ => ⟨rfl, _, rfl, (by omega), (by exact f11)⟩)

abbrev qX10_assign (h : fz_H) (nu wh v : Int) : fz_H → Option fz_V → Prop := fun h' r0 => fz_Iv h' ∧ fz_fr [(2, 99999), (3, 99999), (4, 99999), (7, 99999), (8, 99999), (12, 99999), (13, 99999), (14, 99999), (27, 8), (27, 9), (28, 99999)] h h' ∧ fz_RE h' ∧ fz_RV h' ∧ r0 = none ∧ (fz_PC h nu wh → fz_aC h h' nu wh v)
set_option maxHeartbeats 1000000 in
set_option maxRecDepth 100000 in
theorem sX10_assign (h : fz_H) (hI : fz_Iv h) (nu wh v : Int) (hRE : fz_RE h) (hRV : fz_RV h) (hp0 : -9 ≤ v ∧ v ≤ 999) (hp1 : fz_oc wh v) : fz_R 3 mX10_assign 0 [(0, fz_r 0), (1, fz_i nu), (2, fz_i wh), (3, fz_i v)] [] h (qX10_assign h nu wh v) := by
  refine fz_knowl (fun hk => ?_)
  have hr_nu : -2147483648 ≤ nu ∧ nu < 2147483648 := hk _ (List.Mem.tail _ (List.Mem.head _))
  have hr_wh : -2147483648 ≤ wh ∧ wh < 2147483648 := hk _ (List.Mem.tail _ (List.Mem.tail _ (List.Mem.head _)))
  have hr_v : -2147483648 ≤ v ∧ v < 2147483648 := hk _ (List.Mem.tail _ (List.Mem.tail _ (List.Mem.tail _ (List.Mem.head _))))
  clear hk
  have hf : fz_fr [(2, 99999), (3, 99999), (4, 99999), (7, 99999), (8, 99999), (12, 99999), (13, 99999), (14, 99999), (27, 8), (27, 9), (28, 99999)] h h := fz_fr_rf
  refine fz_aload_n kX10_assign rfl rfl ?_
  refine fz_iload_n kX10_assign rfl rfl ?_
  refine fz_iload_n kX10_assign rfl rfl ?_
  have b1 : 0 ≤ h 1 7 ∧ h 1 7 ≤ 8 := hI.1 1 _
  have b2 : 0 ≤ h 1 8 ∧ h 1 8 ≤ 12 := hI.1 1 _
  have b3 : 0 ≤ h 9 5 ∧ h 9 5 ≤ 10 := hI.1 9 _
  refine fz_callV (d' := 1) (M' := mX10_isMendable) (As := [fz_i nu, fz_i wh]) (st := []) kX10_assign rfl rfl vX10_isMendable rfl rfl rfl rfl (Nat.le_of_ble_eq_true rfl) (Nat.le_of_ble_eq_true rfl) (by decide) (sX10_isMendable h hI nu wh ) (fun H4 r5 q6 o7 => ?_)
  obtain ⟨e8, y9, rfl, p10⟩ := q6
  subst H4
  clear o7
  rcases p10 with ⟨rfl, c11⟩ | ⟨rfl, c11⟩
  · refine fz_if_ne (tgt := 10) kX10_assign rfl (by decide) (fun c12 => ?_) (fun c12 => ?_)
    · refine fz_iload_n kX10_assign rfl rfl ?_
      rcases (show wh = 0 ∨ wh = 1 ∨ wh = 2 ∨ wh = 3 ∨ wh = 4 ∨ wh = 5 ∨ wh = 6 ∨ wh = 7 ∨ (wh < 0 ∨ 7 < wh) by omega) with c13 | c13 | c13 | c13 | c13 | c13 | c13 | c13 | c13
      · refine fz_tswC (j := 0) (tgt := 56) kX10_assign rfl c13 (by decide) (by decide) rfl (by decide) ?_
        have k14 := hp1.1 c13
        refine fz_aload_n kX10_assign rfl rfl ?_
        refine fz_getR (t := 1) kX10_assign rfl rfl ?_
        refine fz_getR (t := 2) kX10_assign rfl rfl ?_
        refine fz_iload_n kX10_assign rfl rfl ?_
        refine fz_iload_n kX10_assign rfl rfl ?_
        refine fz_iast (n := 8) kX10_assign rfl rfl (by omega) (by omega) ?_
        refine fz_nmu (S := [(2, 99999), (3, 99999), (4, 99999), (7, 99999), (8, 99999), (12, 99999), (13, 99999), (14, 99999), (27, 8), (27, 9), (28, 99999)]) (h0 := h) (fz_Iv_up hI (by decide) (show (0 : Int) ≤ v by omega) (show (v : Int) ≤ 9 by omega)) (fz_fr_up hf rfl) (fun H15 hI16 hf17 e18 => ?_)
        have hRE19 : fz_RE H15 := fz_RE_eq (by rw [e18]; exact fz_up_ne (by decide)) (by rw [e18]; exact fz_up_ne (by decide)) (by rw [e18]; exact fz_up_o (by decide)) (by rw [e18]; exact fz_up_o (by decide)) hRE
        have hRV20 : fz_RV H15 := fz_RV_eq (by rw [e18]; exact fz_up_ne (by decide)) (by rw [e18]; exact fz_up_ne (by decide)) (by rw [e18]; exact fz_up_ne (by decide)) (by rw [e18]; exact fz_up_ne (by decide)) (by rw [e18]; exact fz_up_ne (by decide)) (by rw [e18]; exact fz_up_ne (by decide)) (by rw [e18]; exact fz_up_o (by decide)) (by rw [e18]; exact fz_up_o (by decide)) hRV
        refine fz_goto (tgt := 180) kX10_assign rfl (by decide) ?_
        exact fz_vret kX10_assign rfl rfl ⟨hI16, hf17, hRE19, hRV20, rfl, (by first | (intro q; exact absurd q c11) | (intro _; exact fz_aC_m lost (fz_lC_1 c13) lost) | (intro _; exact fz_aC_m lost (fz_lC_2 c13) lost) | (intro _; exact fz_aC_p e18 (fz_lC_0 c13)) | (intro _; exact fz_aC_p lost (fz_lC_3 c13)) | (intro _; exact fz_aC_p lost (fz_lC_4 c13)) | (intro _; exact fz_aC_p lost (fz_lC_5 c13)) | (intro _; exact fz_aC_p lost (fz_lC_6 c13)) | (intro _; exact fz_aC_p lost (fz_lC_7 c13)) | (intro _; exact fz_aC_p lost (fz_lC_8 c13)))⟩
      · refine fz_tswC (j := 1) (tgt := 69) kX10_assign rfl c13 (by decide) (by decide) rfl (by decide) ?_
        have k22 := hp1.2.1 c13
        refine fz_aload_n kX10_assign rfl rfl ?_
        refine fz_getR (t := 1) kX10_assign rfl rfl ?_
        refine fz_getR (t := 3) kX10_assign rfl rfl ?_
        refine fz_iload_n kX10_assign rfl rfl ?_
        refine fz_iload_n kX10_assign rfl rfl ?_
        refine fz_iast (n := 12) kX10_assign rfl rfl (by omega) (by omega) ?_
        refine fz_nmu (S := [(2, 99999), (3, 99999), (4, 99999), (7, 99999), (8, 99999), (12, 99999), (13, 99999), (14, 99999), (27, 8), (27, 9), (28, 99999)]) (h0 := h) (fz_Iv_up hI (by decide) (show (0 : Int) ≤ v by omega) (show (v : Int) ≤ 24 by omega)) (fz_fr_up hf rfl) (fun H23 hI24 hf25 e26 => ?_)
        have hRE27 : fz_RE H23 := fz_RE_eq (by rw [e26]; exact fz_up_ne (by decide)) (by rw [e26]; exact fz_up_ne (by decide)) (by rw [e26]; exact fz_up_o (by decide)) (by rw [e26]; exact fz_up_o (by decide)) hRE
        refine fz_aload_n kX10_assign rfl rfl ?_
        refine fz_getR (t := 1) kX10_assign rfl rfl ?_
        refine fz_callV (d' := 2) (M' := mX2_measure) (As := []) (st := []) kX10_assign rfl rfl vX2_measure rfl rfl rfl rfl (Nat.le_of_ble_eq_true rfl) (Nat.le_of_ble_eq_true rfl) (by decide) (sX2_measure H23 hI24  hRE27) (fun H29 r30 q31 o32 => ?_)
        obtain ⟨hI33, hf34, hRE35, rfl, f36⟩ := q31
        clear o32
        have hf37 := fz_fr_tr hf25 hf34 (show fz_su [(7, 99999), (8, 99999)] [(2, 99999), (3, 99999), (4, 99999), (7, 99999), (8, 99999), (12, 99999), (13, 99999), (14, 99999), (27, 8), (27, 9), (28, 99999)] = true from rfl)
        have hRV38 : fz_RV H29 := f36
        refine fz_goto (tgt := 180) kX10_assign rfl (by decide) ?_
        exact fz_vret kX10_assign rfl rfl ⟨hI33, hf37, hRE35, hRV38, rfl, (by first | (intro q; exact absurd q c11) | (intro _; exact fz_aC_m e26 (fz_lC_1 c13) hf34) | (intro _; exact fz_aC_m lost (fz_lC_2 c13) lost) | (intro _; exact fz_aC_p lost (fz_lC_0 c13)) | (intro _; exact fz_aC_p lost (fz_lC_3 c13)) | (intro _; exact fz_aC_p lost (fz_lC_4 c13)) | (intro _; exact fz_aC_p lost (fz_lC_5 c13)) | (intro _; exact fz_aC_p lost (fz_lC_6 c13)) | (intro _; exact fz_aC_p lost (fz_lC_7 c13)) | (intro _; exact fz_aC_p lost (fz_lC_8 c13)))⟩
      · refine fz_tswC (j := 2) (tgt := 89) kX10_assign rfl c13 (by decide) (by decide) rfl (by decide) ?_
        have k41 := hp1.2.2.1 c13
        refine fz_aload_n kX10_assign rfl rfl ?_
        refine fz_getR (t := 1) kX10_assign rfl rfl ?_
        refine fz_getR (t := 4) kX10_assign rfl rfl ?_
        refine fz_iload_n kX10_assign rfl rfl ?_
        refine fz_iload_n kX10_assign rfl rfl ?_
        refine fz_iast (n := 12) kX10_assign rfl rfl (by omega) (by omega) ?_
        refine fz_nmu (S := [(2, 99999), (3, 99999), (4, 99999), (7, 99999), (8, 99999), (12, 99999), (13, 99999), (14, 99999), (27, 8), (27, 9), (28, 99999)]) (h0 := h) (fz_Iv_up hI (by decide) (show (0 : Int) ≤ v by omega) (show (v : Int) ≤ 1 by omega)) (fz_fr_up hf rfl) (fun H42 hI43 hf44 e45 => ?_)
        have hRE46 : fz_RE H42 := fz_RE_eq (by rw [e45]; exact fz_up_ne (by decide)) (by rw [e45]; exact fz_up_ne (by decide)) (by rw [e45]; exact fz_up_o (by decide)) (by rw [e45]; exact fz_up_o (by decide)) hRE
        refine fz_aload_n kX10_assign rfl rfl ?_
        refine fz_getR (t := 1) kX10_assign rfl rfl ?_
        refine fz_callV (d' := 2) (M' := mX2_measure) (As := []) (st := []) kX10_assign rfl rfl vX2_measure rfl rfl rfl rfl (Nat.le_of_ble_eq_true rfl) (Nat.le_of_ble_eq_true rfl) (by decide) (sX2_measure H42 hI43  hRE46) (fun H48 r49 q50 o51 => ?_)
        obtain ⟨hI52, hf53, hRE54, rfl, f55⟩ := q50
        clear o51
        have hf56 := fz_fr_tr hf44 hf53 (show fz_su [(7, 99999), (8, 99999)] [(2, 99999), (3, 99999), (4, 99999), (7, 99999), (8, 99999), (12, 99999), (13, 99999), (14, 99999), (27, 8), (27, 9), (28, 99999)] = true from rfl)
        have hRV57 : fz_RV H48 := f55
        refine fz_goto (tgt := 180) kX10_assign rfl (by decide) ?_
        exact fz_vret kX10_assign rfl rfl ⟨hI52, hf56, hRE54, hRV57, rfl, (by first | (intro q; exact absurd q c11) | (intro _; exact fz_aC_m lost (fz_lC_1 c13) lost) | (intro _; exact fz_aC_m e45 (fz_lC_2 c13) hf53) | (intro _; exact fz_aC_p lost (fz_lC_0 c13)) | (intro _; exact fz_aC_p lost (fz_lC_3 c13)) | (intro _; exact fz_aC_p lost (fz_lC_4 c13)) | (intro _; exact fz_aC_p lost (fz_lC_5 c13)) | (intro _; exact fz_aC_p lost (fz_lC_6 c13)) | (intro _; exact fz_aC_p lost (fz_lC_7 c13)) | (intro _; exact fz_aC_p lost (fz_lC_8 c13)))⟩
      · refine fz_tswC (j := 3) (tgt := 109) kX10_assign rfl c13 (by decide) (by decide) rfl (by decide) ?_
        have k60 := hp1.2.2.2.1 c13
        refine fz_aload_n kX10_assign rfl rfl ?_
        refine fz_getR (t := 9) kX10_assign rfl rfl ?_
        refine fz_getR (t := 12) kX10_assign rfl rfl ?_
        refine fz_iload_n kX10_assign rfl rfl ?_
        refine fz_iload_n kX10_assign rfl rfl ?_
        refine fz_iast (n := 11) kX10_assign rfl rfl (by omega) (by omega) ?_
        refine fz_nmu (S := [(2, 99999), (3, 99999), (4, 99999), (7, 99999), (8, 99999), (12, 99999), (13, 99999), (14, 99999), (27, 8), (27, 9), (28, 99999)]) (h0 := h) (fz_Iv_up hI (by decide) (show (0 : Int) ≤ v by omega) (show (v : Int) ≤ 999 by omega)) (fz_fr_up hf rfl) (fun H61 hI62 hf63 e64 => ?_)
        have hRE65 : fz_RE H61 := fz_RE_eq (by rw [e64]; exact fz_up_ne (by decide)) (by rw [e64]; exact fz_up_ne (by decide)) (by rw [e64]; exact fz_up_o (by decide)) (by rw [e64]; exact fz_up_o (by decide)) hRE
        have hRV66 : fz_RV H61 := fz_RV_eq (by rw [e64]; exact fz_up_ne (by decide)) (by rw [e64]; exact fz_up_ne (by decide)) (by rw [e64]; exact fz_up_ne (by decide)) (by rw [e64]; exact fz_up_ne (by decide)) (by rw [e64]; exact fz_up_ne (by decide)) (by rw [e64]; exact fz_up_ne (by decide)) (by rw [e64]; exact fz_up_o (by decide)) (by rw [e64]; exact fz_up_o (by decide)) hRV
        refine fz_goto (tgt := 180) kX10_assign rfl (by decide) ?_
        exact fz_vret kX10_assign rfl rfl ⟨hI62, hf63, hRE65, hRV66, rfl, (by first | (intro q; exact absurd q c11) | (intro _; exact fz_aC_m lost (fz_lC_1 c13) lost) | (intro _; exact fz_aC_m lost (fz_lC_2 c13) lost) | (intro _; exact fz_aC_p lost (fz_lC_0 c13)) | (intro _; exact fz_aC_p e64 (fz_lC_3 c13)) | (intro _; exact fz_aC_p lost (fz_lC_4 c13)) | (intro _; exact fz_aC_p lost (fz_lC_5 c13)) | (intro _; exact fz_aC_p lost (fz_lC_6 c13)) | (intro _; exact fz_aC_p lost (fz_lC_7 c13)) | (intro _; exact fz_aC_p lost (fz_lC_8 c13)))⟩
      · refine fz_tswC (j := 4) (tgt := 122) kX10_assign rfl c13 (by decide) (by decide) rfl (by decide) ?_
        have k68 := hp1.2.2.2.2.1 c13
        refine fz_aload_n kX10_assign rfl rfl ?_
        refine fz_getR (t := 9) kX10_assign rfl rfl ?_
        refine fz_getR (t := 13) kX10_assign rfl rfl ?_
        refine fz_iload_n kX10_assign rfl rfl ?_
        refine fz_iload_n kX10_assign rfl rfl ?_
        refine fz_iast (n := 11) kX10_assign rfl rfl (by omega) (by omega) ?_
        refine fz_nmu (S := [(2, 99999), (3, 99999), (4, 99999), (7, 99999), (8, 99999), (12, 99999), (13, 99999), (14, 99999), (27, 8), (27, 9), (28, 99999)]) (h0 := h) (fz_Iv_up hI (by decide) (show (0 : Int) ≤ v by omega) (show (v : Int) ≤ 4 by omega)) (fz_fr_up hf rfl) (fun H69 hI70 hf71 e72 => ?_)
        have hRE73 : fz_RE H69 := fz_RE_eq (by rw [e72]; exact fz_up_ne (by decide)) (by rw [e72]; exact fz_up_ne (by decide)) (by rw [e72]; exact fz_up_o (by decide)) (by rw [e72]; exact fz_up_o (by decide)) hRE
        have hRV74 : fz_RV H69 := fz_RV_eq (by rw [e72]; exact fz_up_ne (by decide)) (by rw [e72]; exact fz_up_ne (by decide)) (by rw [e72]; exact fz_up_ne (by decide)) (by rw [e72]; exact fz_up_ne (by decide)) (by rw [e72]; exact fz_up_ne (by decide)) (by rw [e72]; exact fz_up_ne (by decide)) (by rw [e72]; exact fz_up_o (by decide)) (by rw [e72]; exact fz_up_o (by decide)) hRV
        refine fz_goto (tgt := 180) kX10_assign rfl (by decide) ?_
        exact fz_vret kX10_assign rfl rfl ⟨hI70, hf71, hRE73, hRV74, rfl, (by first | (intro q; exact absurd q c11) | (intro _; exact fz_aC_m lost (fz_lC_1 c13) lost) | (intro _; exact fz_aC_m lost (fz_lC_2 c13) lost) | (intro _; exact fz_aC_p lost (fz_lC_0 c13)) | (intro _; exact fz_aC_p lost (fz_lC_3 c13)) | (intro _; exact fz_aC_p e72 (fz_lC_4 c13)) | (intro _; exact fz_aC_p lost (fz_lC_5 c13)) | (intro _; exact fz_aC_p lost (fz_lC_6 c13)) | (intro _; exact fz_aC_p lost (fz_lC_7 c13)) | (intro _; exact fz_aC_p lost (fz_lC_8 c13)))⟩
      · refine fz_tswC (j := 5) (tgt := 135) kX10_assign rfl c13 (by decide) (by decide) rfl (by decide) ?_
        have k76 := hp1.2.2.2.2.2.1 c13
        refine fz_aload_n kX10_assign rfl rfl ?_
        refine fz_getR (t := 9) kX10_assign rfl rfl ?_
        refine fz_getR (t := 14) kX10_assign rfl rfl ?_
        refine fz_iload_n kX10_assign rfl rfl ?_
        refine fz_iload_n kX10_assign rfl rfl ?_
        refine fz_iast (n := 11) kX10_assign rfl rfl (by omega) (by omega) ?_
        refine fz_nmu (S := [(2, 99999), (3, 99999), (4, 99999), (7, 99999), (8, 99999), (12, 99999), (13, 99999), (14, 99999), (27, 8), (27, 9), (28, 99999)]) (h0 := h) (fz_Iv_up hI (by decide) (show (0 : Int) ≤ v by omega) (show (v : Int) ≤ 9 by omega)) (fz_fr_up hf rfl) (fun H77 hI78 hf79 e80 => ?_)
        have hRE81 : fz_RE H77 := fz_RE_eq (by rw [e80]; exact fz_up_ne (by decide)) (by rw [e80]; exact fz_up_ne (by decide)) (by rw [e80]; exact fz_up_o (by decide)) (by rw [e80]; exact fz_up_o (by decide)) hRE
        have hRV82 : fz_RV H77 := fz_RV_eq (by rw [e80]; exact fz_up_ne (by decide)) (by rw [e80]; exact fz_up_ne (by decide)) (by rw [e80]; exact fz_up_ne (by decide)) (by rw [e80]; exact fz_up_ne (by decide)) (by rw [e80]; exact fz_up_ne (by decide)) (by rw [e80]; exact fz_up_ne (by decide)) (by rw [e80]; exact fz_up_o (by decide)) (by rw [e80]; exact fz_up_o (by decide)) hRV
        refine fz_goto (tgt := 180) kX10_assign rfl (by decide) ?_
        exact fz_vret kX10_assign rfl rfl ⟨hI78, hf79, hRE81, hRV82, rfl, (by first | (intro q; exact absurd q c11) | (intro _; exact fz_aC_m lost (fz_lC_1 c13) lost) | (intro _; exact fz_aC_m lost (fz_lC_2 c13) lost) | (intro _; exact fz_aC_p lost (fz_lC_0 c13)) | (intro _; exact fz_aC_p lost (fz_lC_3 c13)) | (intro _; exact fz_aC_p lost (fz_lC_4 c13)) | (intro _; exact fz_aC_p e80 (fz_lC_5 c13)) | (intro _; exact fz_aC_p lost (fz_lC_6 c13)) | (intro _; exact fz_aC_p lost (fz_lC_7 c13)) | (intro _; exact fz_aC_p lost (fz_lC_8 c13)))⟩
      · refine fz_tswC (j := 6) (tgt := 148) kX10_assign rfl c13 (by decide) (by decide) rfl (by decide) ?_
        have k84 := hp1.2.2.2.2.2.2.1 c13
        refine fz_aload_n kX10_assign rfl rfl ?_
        refine fz_getR (t := 27) kX10_assign rfl rfl ?_
        refine fz_getR (t := 28) kX10_assign rfl rfl ?_
        refine fz_iload_n kX10_assign rfl rfl ?_
        refine fz_iload_n kX10_assign rfl rfl ?_
        refine fz_iast (n := 5) kX10_assign rfl rfl (by omega) (by omega) ?_
        refine fz_nmu (S := [(2, 99999), (3, 99999), (4, 99999), (7, 99999), (8, 99999), (12, 99999), (13, 99999), (14, 99999), (27, 8), (27, 9), (28, 99999)]) (h0 := h) (fz_Iv_up hI (by decide) (show ((-9) : Int) ≤ v by omega) (show (v : Int) ≤ 9 by omega)) (fz_fr_up hf rfl) (fun H85 hI86 hf87 e88 => ?_)
        have hRE89 : fz_RE H85 := fz_RE_eq (by rw [e88]; exact fz_up_ne (by decide)) (by rw [e88]; exact fz_up_ne (by decide)) (by rw [e88]; exact fz_up_o (by decide)) (by rw [e88]; exact fz_up_o (by decide)) hRE
        have hRV90 : fz_RV H85 := fz_RV_eq (by rw [e88]; exact fz_up_ne (by decide)) (by rw [e88]; exact fz_up_ne (by decide)) (by rw [e88]; exact fz_up_ne (by decide)) (by rw [e88]; exact fz_up_ne (by decide)) (by rw [e88]; exact fz_up_ne (by decide)) (by rw [e88]; exact fz_up_ne (by decide)) (by rw [e88]; exact fz_up_o (by decide)) (by rw [e88]; exact fz_up_o (by decide)) hRV
        refine fz_goto (tgt := 180) kX10_assign rfl (by decide) ?_
        exact fz_vret kX10_assign rfl rfl ⟨hI86, hf87, hRE89, hRV90, rfl, (by first | (intro q; exact absurd q c11) | (intro _; exact fz_aC_m lost (fz_lC_1 c13) lost) | (intro _; exact fz_aC_m lost (fz_lC_2 c13) lost) | (intro _; exact fz_aC_p lost (fz_lC_0 c13)) | (intro _; exact fz_aC_p lost (fz_lC_3 c13)) | (intro _; exact fz_aC_p lost (fz_lC_4 c13)) | (intro _; exact fz_aC_p lost (fz_lC_5 c13)) | (intro _; exact fz_aC_p e88 (fz_lC_6 c13)) | (intro _; exact fz_aC_p lost (fz_lC_7 c13)) | (intro _; exact fz_aC_p lost (fz_lC_8 c13)))⟩
      · refine fz_tswC (j := 7) (tgt := 161) kX10_assign rfl c13 (by decide) (by decide) rfl (by decide) ?_
        have k92 := hp1.2.2.2.2.2.2.2.1 c13
        refine fz_aload_n kX10_assign rfl rfl ?_
        refine fz_getR (t := 27) kX10_assign rfl rfl ?_
        refine fz_iload_n kX10_assign rfl rfl ?_
        refine fz_putI kX10_assign rfl rfl rfl ?_
        refine fz_nmu (S := [(2, 99999), (3, 99999), (4, 99999), (7, 99999), (8, 99999), (12, 99999), (13, 99999), (14, 99999), (27, 8), (27, 9), (28, 99999)]) (h0 := h) (fz_Iv_up hI (by decide) (show (0 : Int) ≤ v by omega) (show (v : Int) ≤ 99 by omega)) (fz_fr_up hf rfl) (fun H93 hI94 hf95 e96 => ?_)
        have k97 : H93 27 8 = v := by rw [e96]; exact fz_up_e
        have hRE98 : fz_RE H93 := fz_RE_eq (by rw [e96]; exact fz_up_ne (by decide)) (by rw [e96]; exact fz_up_ne (by decide)) (by rw [e96]; exact fz_up_o (by decide)) (by rw [e96]; exact fz_up_o (by decide)) hRE
        have hRV99 : fz_RV H93 := fz_RV_eq (by rw [e96]; exact fz_up_ne (by decide)) (by rw [e96]; exact fz_up_ne (by decide)) (by rw [e96]; exact fz_up_ne (by decide)) (by rw [e96]; exact fz_up_ne (by decide)) (by rw [e96]; exact fz_up_ne (by decide)) (by rw [e96]; exact fz_up_ne (by decide)) (by rw [e96]; exact fz_up_o (by decide)) (by rw [e96]; exact fz_up_o (by decide)) hRV
        refine fz_goto (tgt := 180) kX10_assign rfl (by decide) ?_
        exact fz_vret kX10_assign rfl rfl ⟨hI94, hf95, hRE98, hRV99, rfl, (by first | (intro q; exact absurd q c11) | (intro _; exact fz_aC_m lost (fz_lC_1 c13) lost) | (intro _; exact fz_aC_m lost (fz_lC_2 c13) lost) | (intro _; exact fz_aC_p lost (fz_lC_0 c13)) | (intro _; exact fz_aC_p lost (fz_lC_3 c13)) | (intro _; exact fz_aC_p lost (fz_lC_4 c13)) | (intro _; exact fz_aC_p lost (fz_lC_5 c13)) | (intro _; exact fz_aC_p lost (fz_lC_6 c13)) | (intro _; exact fz_aC_p e96 (fz_lC_7 c13)) | (intro _; exact fz_aC_p lost (fz_lC_8 c13)))⟩
      · refine fz_tswO (tgt := 172) kX10_assign rfl c13 (by decide) ?_
        have k101 : 0 ≤ v ∧ v ≤ 12 := hp1.2.2.2.2.2.2.2.2 (by omega)
        refine fz_aload_n kX10_assign rfl rfl ?_
        refine fz_getR (t := 27) kX10_assign rfl rfl ?_
        refine fz_iload_n kX10_assign rfl rfl ?_
        refine fz_putI kX10_assign rfl rfl rfl ?_
        refine fz_nmu (S := [(2, 99999), (3, 99999), (4, 99999), (7, 99999), (8, 99999), (12, 99999), (13, 99999), (14, 99999), (27, 8), (27, 9), (28, 99999)]) (h0 := h) (fz_Iv_up hI (by decide) (show (0 : Int) ≤ v by omega) (show (v : Int) ≤ 12 by omega)) (fz_fr_up hf rfl) (fun H102 hI103 hf104 e105 => ?_)
        have k106 : H102 27 9 = v := by rw [e105]; exact fz_up_e
        have hRE107 : fz_RE H102 := fz_RE_eq (by rw [e105]; exact fz_up_ne (by decide)) (by rw [e105]; exact fz_up_ne (by decide)) (by rw [e105]; exact fz_up_o (by decide)) (by rw [e105]; exact fz_up_o (by decide)) hRE
        have hRV108 : fz_RV H102 := fz_RV_eq (by rw [e105]; exact fz_up_ne (by decide)) (by rw [e105]; exact fz_up_ne (by decide)) (by rw [e105]; exact fz_up_ne (by decide)) (by rw [e105]; exact fz_up_ne (by decide)) (by rw [e105]; exact fz_up_ne (by decide)) (by rw [e105]; exact fz_up_ne (by decide)) (by rw [e105]; exact fz_up_o (by decide)) (by rw [e105]; exact fz_up_o (by decide)) hRV
        exact fz_vret kX10_assign rfl rfl ⟨hI103, hf104, hRE107, hRV108, rfl, (by first | (intro q; exact absurd q c11) | (intro _; exact fz_aC_m lost (fz_lC_1 c13) lost) | (intro _; exact fz_aC_m lost (fz_lC_2 c13) lost) | (intro _; exact fz_aC_p lost (fz_lC_0 c13)) | (intro _; exact fz_aC_p lost (fz_lC_3 c13)) | (intro _; exact fz_aC_p lost (fz_lC_4 c13)) | (intro _; exact fz_aC_p lost (fz_lC_5 c13)) | (intro _; exact fz_aC_p lost (fz_lC_6 c13)) | (intro _; exact fz_aC_p lost (fz_lC_7 c13)) | (intro _; exact fz_aC_p e105 (fz_lC_8 c13)))⟩
    · exfalso; omega
  · refine fz_if_ne (tgt := 10) kX10_assign rfl (by decide) (fun c110 => ?_) (fun c110 => ?_)
    · exfalso; omega
    · exact fz_vret kX10_assign rfl rfl ⟨hI, hf, hRE, hRV, rfl, (by first | (intro q; exact absurd q c11) | (intro _; exact fz_aC_m lost (fz_lC_1 lost) lost) | (intro _; exact fz_aC_m lost (fz_lC_2 lost) lost) | (intro _; exact fz_aC_p lost (fz_lC_0 lost)) | (intro _; exact fz_aC_p lost (fz_lC_3 lost)) | (intro _; exact fz_aC_p lost (fz_lC_4 lost)) | (intro _; exact fz_aC_p lost (fz_lC_5 lost)) | (intro _; exact fz_aC_p lost (fz_lC_6 lost)) | (intro _; exact fz_aC_p lost (fz_lC_7 lost)) | (intro _; exact fz_aC_p lost (fz_lC_8 lost)))⟩
