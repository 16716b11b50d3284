/-! ===== what the methods keep ===== -/
abbrev qX10_fixedNumberOf (h : fz_H) (nu wh : Int) : fz_H → Option fz_V → Prop := fun h' r0 => h' = h ∧ ∃ r : Int, r0 = some (fz_i r) ∧ ((-2000000000) ≤ r ∧ r ≤ 999)
set_option maxHeartbeats 1000000 in
set_option maxRecDepth 100000 in
theorem sX10_fixedNumberOf (h : fz_H) (hI : fz_Iv h) (nu wh : Int) : fz_R 1 mX10_fixedNumberOf 0 [(0, fz_r 0), (1, fz_i nu), (2, fz_i wh)] [] h (qX10_fixedNumberOf h nu wh) := by
  refine fz_knowl (fun hk => ?_)
  have hr_nu : -2147483648 ≤ nu ∧ nu < 2147483648 := hk _ (List.Mem.tail _ (List.Mem.head _))
  have hr_wh : -2147483648 ≤ wh ∧ wh < 2147483648 := hk _ (List.Mem.tail _ (List.Mem.tail _ (List.Mem.head _)))
  clear hk
  refine fz_iload_n kX10_fixedNumberOf rfl rfl ?_
  refine fz_bipush ⟨by decide, by decide⟩ kX10_fixedNumberOf rfl ?_
  refine fz_icmp_eq (tgt := 12) kX10_fixedNumberOf rfl (by decide) (fun c1 => ?_) (fun c1 => ?_)
  · refine fz_aload_n kX10_fixedNumberOf rfl rfl ?_
    refine fz_getR (t := 9) kX10_fixedNumberOf rfl rfl ?_
    refine fz_iload_n kX10_fixedNumberOf rfl rfl ?_
    have b2 : 0 ≤ h 9 5 ∧ h 9 5 ≤ 10 := hI.1 9 _
    refine fz_callV (d' := 0) (M' := mX4_isDeed) (As := [fz_i nu]) (st := []) kX10_fixedNumberOf rfl rfl vX4_isDeed rfl rfl rfl rfl (Nat.le_of_ble_eq_true rfl) (Nat.le_of_ble_eq_true rfl) (by decide) (sX4_isDeed h hI nu ) (fun H3 r4 q5 o6 => ?_)
    obtain ⟨e7, y8, rfl, p9⟩ := q5
    subst H3
    clear o6
    rcases p9 with ⟨rfl, c10⟩ | ⟨rfl, c10⟩
    · refine fz_if_eq (tgt := 51) kX10_fixedNumberOf rfl (by decide) (fun c11 => ?_) (fun c11 => ?_)
      · exfalso; omega
      · refine fz_iload_n kX10_fixedNumberOf rfl rfl ?_
        refine fz_bipush ⟨by decide, by decide⟩ kX10_fixedNumberOf rfl ?_
        refine fz_icmp_ne (tgt := 41) kX10_fixedNumberOf rfl (by decide) (fun c12 => ?_) (fun c12 => ?_)
        · exfalso; omega
        · refine fz_aload_n kX10_fixedNumberOf rfl rfl ?_
          refine fz_getR (t := 9) kX10_fixedNumberOf rfl rfl ?_
          refine fz_getR (t := 10) kX10_fixedNumberOf rfl rfl ?_
          refine fz_iload_n kX10_fixedNumberOf rfl rfl ?_
          refine fz_ialdV (n := 11) (v := h 10 (nu.toNat)) kX10_fixedNumberOf rfl rfl (by omega) (by omega) rfl ?_
          have b13 : 0 ≤ h 10 (nu.toNat) ∧ h 10 (nu.toNat) ≤ 3 := hI.1 10 _
          refine fz_goto (tgt := 50) kX10_fixedNumberOf rfl (by decide) ?_
          exact fz_iret kX10_fixedNumberOf rfl rfl (fun _ => ⟨rfl, _, rfl, (by omega)⟩)
    · refine fz_if_eq (tgt := 51) kX10_fixedNumberOf rfl (by decide) (fun c14 => ?_) (fun c14 => ?_)
      · refine fz_iload_n kX10_fixedNumberOf rfl rfl ?_
        refine fz_bipush ⟨by decide, by decide⟩ kX10_fixedNumberOf rfl ?_
        refine fz_icmp_ne (tgt := 75) kX10_fixedNumberOf rfl (by decide) (fun c15 => ?_) (fun c15 => ?_)
        · refine fz_iload_n kX10_fixedNumberOf rfl rfl ?_
          refine fz_bipush ⟨by decide, by decide⟩ kX10_fixedNumberOf rfl ?_
          refine fz_icmp_ne (tgt := 95) kX10_fixedNumberOf rfl (by decide) (fun c16 => ?_) (fun c16 => ?_)
          · refine fz_ldc (x := (-2000000000)) kX10_fixedNumberOf rfl rfl rfl ?_
            exact fz_iret kX10_fixedNumberOf rfl rfl (fun _ => ⟨rfl, _, rfl, (by omega)⟩)
          · exfalso; omega
        · exfalso; omega
      · exfalso; omega
  · refine fz_iload_n kX10_fixedNumberOf rfl rfl ?_
    refine fz_bipush ⟨by decide, by decide⟩ kX10_fixedNumberOf rfl ?_
    refine fz_icmp_ne (tgt := 51) kX10_fixedNumberOf rfl (by decide) (fun c17 => ?_) (fun c17 => ?_)
    · refine fz_iload_n kX10_fixedNumberOf rfl rfl ?_
      refine fz_bipush ⟨by decide, by decide⟩ kX10_fixedNumberOf rfl ?_
      refine fz_icmp_ne (tgt := 75) kX10_fixedNumberOf rfl (by decide) (fun c18 => ?_) (fun c18 => ?_)
      · refine fz_iload_n kX10_fixedNumberOf rfl rfl ?_
        refine fz_bipush ⟨by decide, by decide⟩ kX10_fixedNumberOf rfl ?_
        refine fz_icmp_ne (tgt := 95) kX10_fixedNumberOf rfl (by decide) (fun c19 => ?_) (fun c19 => ?_)
        · refine fz_ldc (x := (-2000000000)) kX10_fixedNumberOf rfl rfl rfl ?_
          exact fz_iret kX10_fixedNumberOf rfl rfl (fun _ => ⟨rfl, _, rfl, (by omega)⟩)
        · refine fz_iload_n kX10_fixedNumberOf rfl rfl ?_
          refine fz_if_ne (tgt := 95) kX10_fixedNumberOf rfl (by decide) (fun c20 => ?_) (fun c20 => ?_)
          · refine fz_ldc (x := (-2000000000)) kX10_fixedNumberOf rfl rfl rfl ?_
            exact fz_iret kX10_fixedNumberOf rfl rfl (fun _ => ⟨rfl, _, rfl, (by omega)⟩)
          · refine fz_aload_n kX10_fixedNumberOf rfl rfl ?_
            refine fz_getR (t := 40) kX10_fixedNumberOf rfl rfl ?_
            refine fz_getV (v := h 40 1) kX10_fixedNumberOf rfl rfl rfl ?_
            have b21 : 0 ≤ h 40 1 ∧ h 40 1 ≤ 999 := hI.1 40 _
            refine fz_goto (tgt := 97) kX10_fixedNumberOf rfl (by decide) ?_
            exact fz_iret kX10_fixedNumberOf rfl rfl (fun _ => ⟨rfl, _, rfl, (by omega)⟩)
      · refine fz_aload_n kX10_fixedNumberOf rfl rfl ?_
        refine fz_iload_n kX10_fixedNumberOf rfl rfl ?_
        refine fz_callV (d' := 0) (M' := mX10_isOne) (As := [fz_i nu]) (st := []) kX10_fixedNumberOf rfl rfl vX10_isOne rfl rfl rfl rfl (Nat.le_of_ble_eq_true rfl) (Nat.le_of_ble_eq_true rfl) (by decide) (sX10_isOne h hI nu ) (fun H22 r23 q24 o25 => ?_)
        obtain ⟨e26, y27, rfl, p28⟩ := q24
        subst H22
        clear o25
        rcases p28 with ⟨rfl, c29⟩ | ⟨rfl, c29⟩
        · refine fz_if_eq (tgt := 75) kX10_fixedNumberOf rfl (by decide) (fun c30 => ?_) (fun c30 => ?_)
          · exfalso; omega
          · refine fz_aload_n kX10_fixedNumberOf rfl rfl ?_
            refine fz_getR (t := 40) kX10_fixedNumberOf rfl rfl ?_
            refine fz_getR (t := 41) kX10_fixedNumberOf rfl rfl ?_
            refine fz_iload_n kX10_fixedNumberOf rfl rfl ?_
            refine fz_ialdV (n := 4) (v := h 41 (nu.toNat)) kX10_fixedNumberOf rfl rfl (by omega) (by omega) rfl ?_
            have b31 : 0 ≤ h 41 (nu.toNat) ∧ h 41 (nu.toNat) ≤ 7 := hI.1 41 _
            exact fz_iret kX10_fixedNumberOf rfl rfl (fun _ => ⟨rfl, _, rfl, (by omega)⟩)
        · refine fz_if_eq (tgt := 75) kX10_fixedNumberOf rfl (by decide) (fun c32 => ?_) (fun c32 => ?_)
          · refine fz_iload_n kX10_fixedNumberOf rfl rfl ?_
            refine fz_bipush ⟨by decide, by decide⟩ kX10_fixedNumberOf rfl ?_
            refine fz_icmp_ne (tgt := 95) kX10_fixedNumberOf rfl (by decide) (fun c33 => ?_) (fun c33 => ?_)
            · refine fz_ldc (x := (-2000000000)) kX10_fixedNumberOf rfl rfl rfl ?_
              exact fz_iret kX10_fixedNumberOf rfl rfl (fun _ => ⟨rfl, _, rfl, (by omega)⟩)
            · exfalso; omega
          · exfalso; omega
    · refine fz_aload_n kX10_fixedNumberOf rfl rfl ?_
      refine fz_getR (t := 9) kX10_fixedNumberOf rfl rfl ?_
      refine fz_iload_n kX10_fixedNumberOf rfl rfl ?_
      have b34 : 0 ≤ h 9 5 ∧ h 9 5 ≤ 10 := hI.1 9 _
      refine fz_callV (d' := 0) (M' := mX4_isDeed) (As := [fz_i nu]) (st := []) kX10_fixedNumberOf rfl rfl vX4_isDeed rfl rfl rfl rfl (Nat.le_of_ble_eq_true rfl) (Nat.le_of_ble_eq_true rfl) (by decide) (sX4_isDeed h hI nu ) (fun H35 r36 q37 o38 => ?_)
      obtain ⟨e39, y40, rfl, p41⟩ := q37
      subst H35
      clear o38
      rcases p41 with ⟨rfl, c42⟩ | ⟨rfl, c42⟩
      · refine fz_if_eq (tgt := 51) kX10_fixedNumberOf rfl (by decide) (fun c43 => ?_) (fun c43 => ?_)
        · exfalso; omega
        · refine fz_iload_n kX10_fixedNumberOf rfl rfl ?_
          refine fz_bipush ⟨by decide, by decide⟩ kX10_fixedNumberOf rfl ?_
          refine fz_icmp_ne (tgt := 41) kX10_fixedNumberOf rfl (by decide) (fun c44 => ?_) (fun c44 => ?_)
          · refine fz_aload_n kX10_fixedNumberOf rfl rfl ?_
            refine fz_getR (t := 9) kX10_fixedNumberOf rfl rfl ?_
            refine fz_getR (t := 11) kX10_fixedNumberOf rfl rfl ?_
            refine fz_iload_n kX10_fixedNumberOf rfl rfl ?_
            refine fz_ialdV (n := 11) (v := h 11 (nu.toNat)) kX10_fixedNumberOf rfl rfl (by omega) (by omega) rfl ?_
            have b45 : 0 ≤ h 11 (nu.toNat) ∧ h 11 (nu.toNat) ≤ 7 := hI.1 11 _
            exact fz_iret kX10_fixedNumberOf rfl rfl (fun _ => ⟨rfl, _, rfl, (by omega)⟩)
          · exfalso; omega
      · refine fz_if_eq (tgt := 51) kX10_fixedNumberOf rfl (by decide) (fun c46 => ?_) (fun c46 => ?_)
        · refine fz_iload_n kX10_fixedNumberOf rfl rfl ?_
          refine fz_bipush ⟨by decide, by decide⟩ kX10_fixedNumberOf rfl ?_
          refine fz_icmp_ne (tgt := 75) kX10_fixedNumberOf rfl (by decide) (fun c47 => ?_) (fun c47 => ?_)
          · refine fz_iload_n kX10_fixedNumberOf rfl rfl ?_
            refine fz_bipush ⟨by decide, by decide⟩ kX10_fixedNumberOf rfl ?_
            refine fz_icmp_ne (tgt := 95) kX10_fixedNumberOf rfl (by decide) (fun c48 => ?_) (fun c48 => ?_)
            · refine fz_ldc (x := (-2000000000)) kX10_fixedNumberOf rfl rfl rfl ?_
              exact fz_iret kX10_fixedNumberOf rfl rfl (fun _ => ⟨rfl, _, rfl, (by omega)⟩)
            · exfalso; omega
          · exfalso; omega
        · exfalso; omega

abbrev qX10_numberOf (h : fz_H) (nu wh : Int) : fz_H → Option fz_V → Prop := fun h' r0 => h' = h ∧ ∃ r : Int, r0 = some (fz_i r) ∧ ((-2000000000) ≤ r ∧ r ≤ 999) ∧ (((wh = 0 ∧ 0 ≤ nu ∧ nu < h 1 7) ∨ (wh = 1 ∧ 0 ≤ nu ∧ nu < h 1 8) ∨ (wh = 2 ∧ 0 ≤ nu ∧ nu < h 1 8) ∨ (wh = 3 ∧ 0 ≤ nu ∧ nu < h 9 5) ∨ (wh = 4 ∧ 0 ≤ nu ∧ nu < h 9 5) ∨ (wh = 5 ∧ 0 ≤ nu ∧ nu < h 9 5) ∨ (wh = 6 ∧ 0 ≤ nu ∧ nu < 5) ∨ (wh = 7 ∧ nu = 0) ∨ (wh = 8 ∧ nu = 0)) → fz_oc wh r)
set_option maxHeartbeats 1000000 in
set_option maxRecDepth 100000 in
theorem sX10_numberOf (h : fz_H) (hI : fz_Iv h) (nu wh : Int) : fz_R 2 mX10_numberOf 0 [(0, fz_r 0), (1, fz_i nu), (2, fz_i wh)] [] h (qX10_numberOf h nu wh) := by
  refine fz_knowl (fun hk => ?_)
  have hr_nu : -2147483648 ≤ nu ∧ nu < 2147483648 := hk _ (List.Mem.tail _ (List.Mem.head _))
  have hr_wh : -2147483648 ≤ wh ∧ wh < 2147483648 := hk _ (List.Mem.tail _ (List.Mem.tail _ (List.Mem.head _)))
  clear hk
  have b1 : 0 ≤ h 1 7 ∧ h 1 7 ≤ 8 := hI.1 1 _
  have b2 : 0 ≤ h 1 8 ∧ h 1 8 ≤ 12 := hI.1 1 _
  have b3 : 0 ≤ h 9 5 ∧ h 9 5 ≤ 10 := hI.1 9 _
  refine fz_iload_n kX10_numberOf rfl rfl ?_
  refine fz_bipush ⟨by decide, by decide⟩ kX10_numberOf rfl ?_
  refine fz_icmp_le (tgt := 13) kX10_numberOf rfl (by decide) (fun c4 => ?_) (fun c4 => ?_)
  · refine fz_aload_n kX10_numberOf rfl rfl ?_
    refine fz_iload_n kX10_numberOf rfl rfl ?_
    refine fz_iload_n kX10_numberOf rfl rfl ?_
    refine fz_callV (d' := 1) (M' := mX10_isMendable) (As := [fz_i nu, fz_i wh]) (st := []) kX10_numberOf rfl rfl vX10_isMendable rfl rfl rfl rfl (Nat.le_of_ble_eq_true rfl) (Nat.le_of_ble_eq_true rfl) (by decide) (sX10_isMendable h hI nu wh ) (fun H5 r6 q7 o8 => ?_)
    obtain ⟨e9, y10, rfl, p11⟩ := q7
    subst H5
    clear o8
    rcases p11 with ⟨rfl, c12⟩ | ⟨rfl, c12⟩
    · refine fz_if_ne (tgt := 25) kX10_numberOf rfl (by decide) (fun c13 => ?_) (fun c13 => ?_)
      · refine fz_iload_n kX10_numberOf rfl rfl ?_
        rcases (show wh = 0 ∨ wh = 1 ∨ wh = 2 ∨ wh = 3 ∨ wh = 4 ∨ wh = 5 ∨ wh = 6 ∨ wh = 7 ∨ (wh < 0 ∨ 7 < wh) by omega) with c14 | c14 | c14 | c14 | c14 | c14 | c14 | c14 | c14
        · refine fz_tswC (j := 0) (tgt := 72) kX10_numberOf rfl c14 (by decide) (by decide) rfl (by decide) ?_
          refine fz_aload_n kX10_numberOf rfl rfl ?_
          refine fz_getR (t := 1) kX10_numberOf rfl rfl ?_
          refine fz_getR (t := 2) kX10_numberOf rfl rfl ?_
          refine fz_iload_n kX10_numberOf rfl rfl ?_
          refine fz_ialdV (n := 8) (v := h 2 (nu.toNat)) kX10_numberOf rfl rfl (by omega) (by omega) rfl ?_
          have b15 : 0 ≤ h 2 (nu.toNat) ∧ h 2 (nu.toNat) ≤ 9 := hI.1 2 _
          exact fz_iret kX10_numberOf rfl rfl (fun _ => ⟨rfl, _, rfl, (by omega), (by first | (intro _; unfold fz_oc; omega) | (intro z; exfalso; omega))⟩)
        · refine fz_tswC (j := 1) (tgt := 82) kX10_numberOf rfl c14 (by decide) (by decide) rfl (by decide) ?_
          refine fz_aload_n kX10_numberOf rfl rfl ?_
          refine fz_getR (t := 1) kX10_numberOf rfl rfl ?_
          refine fz_getR (t := 3) kX10_numberOf rfl rfl ?_
          refine fz_iload_n kX10_numberOf rfl rfl ?_
          refine fz_ialdV (n := 12) (v := h 3 (nu.toNat)) kX10_numberOf rfl rfl (by omega) (by omega) rfl ?_
          have b17 : 0 ≤ h 3 (nu.toNat) ∧ h 3 (nu.toNat) ≤ 24 := hI.1 3 _
          exact fz_iret kX10_numberOf rfl rfl (fun _ => ⟨rfl, _, rfl, (by omega), (by first | (intro _; unfold fz_oc; omega) | (intro z; exfalso; omega))⟩)
        · refine fz_tswC (j := 2) (tgt := 92) kX10_numberOf rfl c14 (by decide) (by decide) rfl (by decide) ?_
          refine fz_aload_n kX10_numberOf rfl rfl ?_
          refine fz_getR (t := 1) kX10_numberOf rfl rfl ?_
          refine fz_getR (t := 4) kX10_numberOf rfl rfl ?_
          refine fz_iload_n kX10_numberOf rfl rfl ?_
          refine fz_ialdV (n := 12) (v := h 4 (nu.toNat)) kX10_numberOf rfl rfl (by omega) (by omega) rfl ?_
          have b19 : 0 ≤ h 4 (nu.toNat) ∧ h 4 (nu.toNat) ≤ 1 := hI.1 4 _
          exact fz_iret kX10_numberOf rfl rfl (fun _ => ⟨rfl, _, rfl, (by omega), (by first | (intro _; unfold fz_oc; omega) | (intro z; exfalso; omega))⟩)
        · refine fz_tswC (j := 3) (tgt := 102) kX10_numberOf rfl c14 (by decide) (by decide) rfl (by decide) ?_
          refine fz_aload_n kX10_numberOf rfl rfl ?_
          refine fz_getR (t := 9) kX10_numberOf rfl rfl ?_
          refine fz_getR (t := 12) kX10_numberOf rfl rfl ?_
          refine fz_iload_n kX10_numberOf rfl rfl ?_
          refine fz_ialdV (n := 11) (v := h 12 (nu.toNat)) kX10_numberOf rfl rfl (by omega) (by omega) rfl ?_
          have b21 : 0 ≤ h 12 (nu.toNat) ∧ h 12 (nu.toNat) ≤ 999 := hI.1 12 _
          exact fz_iret kX10_numberOf rfl rfl (fun _ => ⟨rfl, _, rfl, (by omega), (by first | (intro _; unfold fz_oc; omega) | (intro z; exfalso; omega))⟩)
        · refine fz_tswC (j := 4) (tgt := 112) kX10_numberOf rfl c14 (by decide) (by decide) rfl (by decide) ?_
          refine fz_aload_n kX10_numberOf rfl rfl ?_
          refine fz_getR (t := 9) kX10_numberOf rfl rfl ?_
          refine fz_getR (t := 13) kX10_numberOf rfl rfl ?_
          refine fz_iload_n kX10_numberOf rfl rfl ?_
          refine fz_ialdV (n := 11) (v := h 13 (nu.toNat)) kX10_numberOf rfl rfl (by omega) (by omega) rfl ?_
          have b23 : 0 ≤ h 13 (nu.toNat) ∧ h 13 (nu.toNat) ≤ 4 := hI.1 13 _
          exact fz_iret kX10_numberOf rfl rfl (fun _ => ⟨rfl, _, rfl, (by omega), (by first | (intro _; unfold fz_oc; omega) | (intro z; exfalso; omega))⟩)
        · refine fz_tswC (j := 5) (tgt := 122) kX10_numberOf rfl c14 (by decide) (by decide) rfl (by decide) ?_
          refine fz_aload_n kX10_numberOf rfl rfl ?_
          refine fz_getR (t := 9) kX10_numberOf rfl rfl ?_
          refine fz_getR (t := 14) kX10_numberOf rfl rfl ?_
          refine fz_iload_n kX10_numberOf rfl rfl ?_
          refine fz_ialdV (n := 11) (v := h 14 (nu.toNat)) kX10_numberOf rfl rfl (by omega) (by omega) rfl ?_
          have b25 : 0 ≤ h 14 (nu.toNat) ∧ h 14 (nu.toNat) ≤ 9 := hI.1 14 _
          exact fz_iret kX10_numberOf rfl rfl (fun _ => ⟨rfl, _, rfl, (by omega), (by first | (intro _; unfold fz_oc; omega) | (intro z; exfalso; omega))⟩)
        · refine fz_tswC (j := 6) (tgt := 132) kX10_numberOf rfl c14 (by decide) (by decide) rfl (by decide) ?_
          refine fz_aload_n kX10_numberOf rfl rfl ?_
          refine fz_getR (t := 27) kX10_numberOf rfl rfl ?_
          refine fz_getR (t := 28) kX10_numberOf rfl rfl ?_
          refine fz_iload_n kX10_numberOf rfl rfl ?_
          refine fz_ialdV (n := 5) (v := h 28 (nu.toNat)) kX10_numberOf rfl rfl (by omega) (by omega) rfl ?_
          have b27 : (-9) ≤ h 28 (nu.toNat) ∧ h 28 (nu.toNat) ≤ 9 := hI.1 28 _
          exact fz_iret kX10_numberOf rfl rfl (fun _ => ⟨rfl, _, rfl, (by omega), (by first | (intro _; unfold fz_oc; omega) | (intro z; exfalso; omega))⟩)
        · refine fz_tswC (j := 7) (tgt := 142) kX10_numberOf rfl c14 (by decide) (by decide) rfl (by decide) ?_
          refine fz_aload_n kX10_numberOf rfl rfl ?_
          refine fz_getR (t := 27) kX10_numberOf rfl rfl ?_
          refine fz_getV (v := h 27 8) kX10_numberOf rfl rfl rfl ?_
          have b29 : 0 ≤ h 27 8 ∧ h 27 8 ≤ 99 := hI.1 27 _
          exact fz_iret kX10_numberOf rfl rfl (fun _ => ⟨rfl, _, rfl, (by omega), (by first | (intro _; unfold fz_oc; omega) | (intro z; exfalso; omega))⟩)
        · refine fz_tswO (tgt := 150) kX10_numberOf rfl c14 (by decide) ?_
          refine fz_aload_n kX10_numberOf rfl rfl ?_
          refine fz_getR (t := 27) kX10_numberOf rfl rfl ?_
          refine fz_getV (v := h 27 9) kX10_numberOf rfl rfl rfl ?_
          have b31 : 0 ≤ h 27 9 ∧ h 27 9 ≤ 12 := hI.1 27 _
          exact fz_iret kX10_numberOf rfl rfl (fun _ => ⟨rfl, _, rfl, (by omega), (by first | (intro _; unfold fz_oc; omega) | (intro z; exfalso; omega))⟩)
      · exfalso; omega
    · refine fz_if_ne (tgt := 25) kX10_numberOf rfl (by decide) (fun c33 => ?_) (fun c33 => ?_)
      · exfalso; omega
      · refine fz_ldc (x := (-2000000000)) kX10_numberOf rfl rfl rfl ?_
        exact fz_iret kX10_numberOf rfl rfl (fun _ => ⟨rfl, _, rfl, (by omega), (by first | (intro _; unfold fz_oc; omega) | (intro z; exfalso; omega))⟩)
  · refine fz_aload_n kX10_numberOf rfl rfl ?_
    refine fz_iload_n kX10_numberOf rfl rfl ?_
    refine fz_iload_n kX10_numberOf rfl rfl ?_
    refine fz_callV (d' := 1) (M' := mX10_fixedNumberOf) (As := [fz_i nu, fz_i wh]) (st := []) kX10_numberOf rfl rfl vX10_fixedNumberOf rfl rfl rfl rfl (Nat.le_of_ble_eq_true rfl) (Nat.le_of_ble_eq_true rfl) (by decide) (sX10_fixedNumberOf h hI nu wh ) (fun H35 r36 q37 o38 => ?_)
    obtain ⟨e39, y41, rfl, f40⟩ := q37
    subst H35
    clear o38
    exact fz_iret kX10_numberOf rfl rfl (fun _ => ⟨rfl, _, rfl, (by omega), (by first | (intro _; unfold fz_oc; omega) | (intro z; exfalso; omega))⟩)

abbrev qX10_of (h : fz_H) (nu wh : Int) : fz_H → Option fz_V → Prop := fun h' r0 => h' = h ∧ ∃ r : Int, r0 = some (fz_i r) ∧ ((-2000000000) ≤ r ∧ r ≤ 999)
set_option maxHeartbeats 1000000 in
set_option maxRecDepth 100000 in
theorem sX10_of (h : fz_H) (hI : fz_Iv h) (nu wh : Int) : fz_R 3 mX10_of 0 [(0, fz_r 0), (1, fz_i nu), (2, fz_i wh)] [] h (qX10_of h nu wh) := by
  refine fz_knowl (fun hk => ?_)
  have hr_nu : -2147483648 ≤ nu ∧ nu < 2147483648 := hk _ (List.Mem.tail _ (List.Mem.head _))
  have hr_wh : -2147483648 ≤ wh ∧ wh < 2147483648 := hk _ (List.Mem.tail _ (List.Mem.tail _ (List.Mem.head _)))
  clear hk
  refine fz_aload_n kX10_of rfl rfl ?_
  refine fz_iload_n kX10_of rfl rfl ?_
  refine fz_iload_n kX10_of rfl rfl ?_
  have b1 : 0 ≤ h 1 7 ∧ h 1 7 ≤ 8 := hI.1 1 _
  have b2 : 0 ≤ h 1 8 ∧ h 1 8 ≤ 12 := hI.1 1 _
  have b3 : 0 ≤ h 9 5 ∧ h 9 5 ≤ 10 := hI.1 9 _
  refine fz_callV (d' := 2) (M' := mX10_numberOf) (As := [fz_i nu, fz_i wh]) (st := []) kX10_of rfl rfl vX10_numberOf rfl rfl rfl rfl (Nat.le_of_ble_eq_true rfl) (Nat.le_of_ble_eq_true rfl) (by decide) (sX10_numberOf h hI nu wh ) (fun H4 r5 q6 o7 => ?_)
  obtain ⟨e8, y11, rfl, f9, f10⟩ := q6
  subst H4
  clear o7
  exact fz_iret kX10_of rfl rfl (fun _ => ⟨rfl, _, rfl, (by omega)⟩)

abbrev qX10_assign (h : fz_H) (nu wh v : Int) : fz_H → Option fz_V → Prop := fun h' r0 => fz_Iv h' ∧ fz_fr [(2, 99999), (3, 99999), (4, 99999), (7, 99999), (8, 99999), (12, 99999), (13, 99999), (14, 99999), (27, 8), (27, 9), (28, 99999)] h h' ∧ r0 = none
set_option maxHeartbeats 1000000 in
set_option maxRecDepth 100000 in
theorem sX10_assign (h : fz_H) (hI : fz_Iv h) (nu wh v : Int) (hp0 : -9 ≤ v ∧ v ≤ 999) (hp1 : fz_oc wh v) : fz_R 3 mX10_assign 0 [(0, fz_r 0), (1, fz_i nu), (2, fz_i wh), (3, fz_i v)] [] h (qX10_assign h nu wh v) := by
  refine fz_knowl (fun hk => ?_)
  have hr_nu : -2147483648 ≤ nu ∧ nu < 2147483648 := hk _ (List.Mem.tail _ (List.Mem.head _))
  have hr_wh : -2147483648 ≤ wh ∧ wh < 2147483648 := hk _ (List.Mem.tail _ (List.Mem.tail _ (List.Mem.head _)))
  have hr_v : -2147483648 ≤ v ∧ v < 2147483648 := hk _ (List.Mem.tail _ (List.Mem.tail _ (List.Mem.tail _ (List.Mem.head _))))
  clear hk
  have hf : fz_fr [(2, 99999), (3, 99999), (4, 99999), (7, 99999), (8, 99999), (12, 99999), (13, 99999), (14, 99999), (27, 8), (27, 9), (28, 99999)] h h := fz_fr_rf
  refine fz_aload_n kX10_assign rfl rfl ?_
  refine fz_iload_n kX10_assign rfl rfl ?_
  refine fz_iload_n kX10_assign rfl rfl ?_
  have b1 : 0 ≤ h 1 7 ∧ h 1 7 ≤ 8 := hI.1 1 _
  have b2 : 0 ≤ h 1 8 ∧ h 1 8 ≤ 12 := hI.1 1 _
  have b3 : 0 ≤ h 9 5 ∧ h 9 5 ≤ 10 := hI.1 9 _
  refine fz_callV (d' := 1) (M' := mX10_isMendable) (As := [fz_i nu, fz_i wh]) (st := []) kX10_assign rfl rfl vX10_isMendable rfl rfl rfl rfl (Nat.le_of_ble_eq_true rfl) (Nat.le_of_ble_eq_true rfl) (by decide) (sX10_isMendable h hI nu wh ) (fun H4 r5 q6 o7 => ?_)
  obtain ⟨e8, y9, rfl, p10⟩ := q6
  subst H4
  clear o7
  rcases p10 with ⟨rfl, c11⟩ | ⟨rfl, c11⟩
  · refine fz_if_ne (tgt := 10) kX10_assign rfl (by decide) (fun c12 => ?_) (fun c12 => ?_)
    · refine fz_iload_n kX10_assign rfl rfl ?_
      rcases (show wh = 0 ∨ wh = 1 ∨ wh = 2 ∨ wh = 3 ∨ wh = 4 ∨ wh = 5 ∨ wh = 6 ∨ wh = 7 ∨ (wh < 0 ∨ 7 < wh) by omega) with c13 | c13 | c13 | c13 | c13 | c13 | c13 | c13 | c13
      · refine fz_tswC (j := 0) (tgt := 56) kX10_assign rfl c13 (by decide) (by decide) rfl (by decide) ?_
        have k14 := hp1.1 c13
        refine fz_aload_n kX10_assign rfl rfl ?_
        refine fz_getR (t := 1) kX10_assign rfl rfl ?_
        refine fz_getR (t := 2) kX10_assign rfl rfl ?_
        refine fz_iload_n kX10_assign rfl rfl ?_
        refine fz_iload_n kX10_assign rfl rfl ?_
        refine fz_iast (n := 8) kX10_assign rfl rfl (by omega) (by omega) ?_
        refine fz_nmu (S := [(2, 99999), (3, 99999), (4, 99999), (7, 99999), (8, 99999), (12, 99999), (13, 99999), (14, 99999), (27, 8), (27, 9), (28, 99999)]) (h0 := h) (fz_Iv_up hI (by decide) (show 0 ≤ v by omega) (show v ≤ 9 by omega)) (fz_fr_up hf rfl) (fun H15 hI16 hf17 e18 => ?_)
        clear e18
        refine fz_goto (tgt := 180) kX10_assign rfl (by decide) ?_
        exact fz_vret kX10_assign rfl rfl ⟨hI16, hf17, rfl⟩
      · refine fz_tswC (j := 1) (tgt := 69) kX10_assign rfl c13 (by decide) (by decide) rfl (by decide) ?_
        have k19 := hp1.2.1 c13
        refine fz_aload_n kX10_assign rfl rfl ?_
        refine fz_getR (t := 1) kX10_assign rfl rfl ?_
        refine fz_getR (t := 3) kX10_assign rfl rfl ?_
        refine fz_iload_n kX10_assign rfl rfl ?_
        refine fz_iload_n kX10_assign rfl rfl ?_
        refine fz_iast (n := 12) kX10_assign rfl rfl (by omega) (by omega) ?_
        refine fz_nmu (S := [(2, 99999), (3, 99999), (4, 99999), (7, 99999), (8, 99999), (12, 99999), (13, 99999), (14, 99999), (27, 8), (27, 9), (28, 99999)]) (h0 := h) (fz_Iv_up hI (by decide) (show 0 ≤ v by omega) (show v ≤ 24 by omega)) (fz_fr_up hf rfl) (fun H20 hI21 hf22 e23 => ?_)
        clear e23
        refine fz_aload_n kX10_assign rfl rfl ?_
        refine fz_getR (t := 1) kX10_assign rfl rfl ?_
        refine fz_callV (d' := 2) (M' := mX2_measure) (As := []) (st := []) kX10_assign rfl rfl vX2_measure rfl rfl rfl rfl (Nat.le_of_ble_eq_true rfl) (Nat.le_of_ble_eq_true rfl) (by decide) (sX2_measure H20 hI21  ) (fun H24 r25 q26 o27 => ?_)
        obtain ⟨hI28, hf29, rfl⟩ := q26
        clear o27
        have hf30 := fz_fr_tr hf22 hf29 (show fz_su [(7, 99999), (8, 99999)] [(2, 99999), (3, 99999), (4, 99999), (7, 99999), (8, 99999), (12, 99999), (13, 99999), (14, 99999), (27, 8), (27, 9), (28, 99999)] = true from rfl)
        refine fz_goto (tgt := 180) kX10_assign rfl (by decide) ?_
        exact fz_vret kX10_assign rfl rfl ⟨hI28, hf30, rfl⟩
      · refine fz_tswC (j := 2) (tgt := 89) kX10_assign rfl c13 (by decide) (by decide) rfl (by decide) ?_
        have k31 := hp1.2.2.1 c13
        refine fz_aload_n kX10_assign rfl rfl ?_
        refine fz_getR (t := 1) kX10_assign rfl rfl ?_
        refine fz_getR (t := 4) kX10_assign rfl rfl ?_
        refine fz_iload_n kX10_assign rfl rfl ?_
        refine fz_iload_n kX10_assign rfl rfl ?_
        refine fz_iast (n := 12) kX10_assign rfl rfl (by omega) (by omega) ?_
        refine fz_nmu (S := [(2, 99999), (3, 99999), (4, 99999), (7, 99999), (8, 99999), (12, 99999), (13, 99999), (14, 99999), (27, 8), (27, 9), (28, 99999)]) (h0 := h) (fz_Iv_up hI (by decide) (show 0 ≤ v by omega) (show v ≤ 1 by omega)) (fz_fr_up hf rfl) (fun H32 hI33 hf34 e35 => ?_)
        clear e35
        refine fz_aload_n kX10_assign rfl rfl ?_
        refine fz_getR (t := 1) kX10_assign rfl rfl ?_
        refine fz_callV (d' := 2) (M' := mX2_measure) (As := []) (st := []) kX10_assign rfl rfl vX2_measure rfl rfl rfl rfl (Nat.le_of_ble_eq_true rfl) (Nat.le_of_ble_eq_true rfl) (by decide) (sX2_measure H32 hI33  ) (fun H36 r37 q38 o39 => ?_)
        obtain ⟨hI40, hf41, rfl⟩ := q38
        clear o39
        have hf42 := fz_fr_tr hf34 hf41 (show fz_su [(7, 99999), (8, 99999)] [(2, 99999), (3, 99999), (4, 99999), (7, 99999), (8, 99999), (12, 99999), (13, 99999), (14, 99999), (27, 8), (27, 9), (28, 99999)] = true from rfl)
        refine fz_goto (tgt := 180) kX10_assign rfl (by decide) ?_
        exact fz_vret kX10_assign rfl rfl ⟨hI40, hf42, rfl⟩
      · refine fz_tswC (j := 3) (tgt := 109) kX10_assign rfl c13 (by decide) (by decide) rfl (by decide) ?_
        have k43 := hp1.2.2.2.1 c13
        refine fz_aload_n kX10_assign rfl rfl ?_
        refine fz_getR (t := 9) kX10_assign rfl rfl ?_
        refine fz_getR (t := 12) kX10_assign rfl rfl ?_
        refine fz_iload_n kX10_assign rfl rfl ?_
        refine fz_iload_n kX10_assign rfl rfl ?_
        refine fz_iast (n := 11) kX10_assign rfl rfl (by omega) (by omega) ?_
        refine fz_nmu (S := [(2, 99999), (3, 99999), (4, 99999), (7, 99999), (8, 99999), (12, 99999), (13, 99999), (14, 99999), (27, 8), (27, 9), (28, 99999)]) (h0 := h) (fz_Iv_up hI (by decide) (show 0 ≤ v by omega) (show v ≤ 999 by omega)) (fz_fr_up hf rfl) (fun H44 hI45 hf46 e47 => ?_)
        clear e47
        refine fz_goto (tgt := 180) kX10_assign rfl (by decide) ?_
        exact fz_vret kX10_assign rfl rfl ⟨hI45, hf46, rfl⟩
      · refine fz_tswC (j := 4) (tgt := 122) kX10_assign rfl c13 (by decide) (by decide) rfl (by decide) ?_
        have k48 := hp1.2.2.2.2.1 c13
        refine fz_aload_n kX10_assign rfl rfl ?_
        refine fz_getR (t := 9) kX10_assign rfl rfl ?_
        refine fz_getR (t := 13) kX10_assign rfl rfl ?_
        refine fz_iload_n kX10_assign rfl rfl ?_
        refine fz_iload_n kX10_assign rfl rfl ?_
        refine fz_iast (n := 11) kX10_assign rfl rfl (by omega) (by omega) ?_
        refine fz_nmu (S := [(2, 99999), (3, 99999), (4, 99999), (7, 99999), (8, 99999), (12, 99999), (13, 99999), (14, 99999), (27, 8), (27, 9), (28, 99999)]) (h0 := h) (fz_Iv_up hI (by decide) (show 0 ≤ v by omega) (show v ≤ 4 by omega)) (fz_fr_up hf rfl) (fun H49 hI50 hf51 e52 => ?_)
        clear e52
        refine fz_goto (tgt := 180) kX10_assign rfl (by decide) ?_
        exact fz_vret kX10_assign rfl rfl ⟨hI50, hf51, rfl⟩
      · refine fz_tswC (j := 5) (tgt := 135) kX10_assign rfl c13 (by decide) (by decide) rfl (by decide) ?_
        have k53 := hp1.2.2.2.2.2.1 c13
        refine fz_aload_n kX10_assign rfl rfl ?_
        refine fz_getR (t := 9) kX10_assign rfl rfl ?_
        refine fz_getR (t := 14) kX10_assign rfl rfl ?_
        refine fz_iload_n kX10_assign rfl rfl ?_
        refine fz_iload_n kX10_assign rfl rfl ?_
        refine fz_iast (n := 11) kX10_assign rfl rfl (by omega) (by omega) ?_
        refine fz_nmu (S := [(2, 99999), (3, 99999), (4, 99999), (7, 99999), (8, 99999), (12, 99999), (13, 99999), (14, 99999), (27, 8), (27, 9), (28, 99999)]) (h0 := h) (fz_Iv_up hI (by decide) (show 0 ≤ v by omega) (show v ≤ 9 by omega)) (fz_fr_up hf rfl) (fun H54 hI55 hf56 e57 => ?_)
        clear e57
        refine fz_goto (tgt := 180) kX10_assign rfl (by decide) ?_
        exact fz_vret kX10_assign rfl rfl ⟨hI55, hf56, rfl⟩
      · refine fz_tswC (j := 6) (tgt := 148) kX10_assign rfl c13 (by decide) (by decide) rfl (by decide) ?_
        have k58 := hp1.2.2.2.2.2.2.1 c13
        refine fz_aload_n kX10_assign rfl rfl ?_
        refine fz_getR (t := 27) kX10_assign rfl rfl ?_
        refine fz_getR (t := 28) kX10_assign rfl rfl ?_
        refine fz_iload_n kX10_assign rfl rfl ?_
        refine fz_iload_n kX10_assign rfl rfl ?_
        refine fz_iast (n := 5) kX10_assign rfl rfl (by omega) (by omega) ?_
        refine fz_nmu (S := [(2, 99999), (3, 99999), (4, 99999), (7, 99999), (8, 99999), (12, 99999), (13, 99999), (14, 99999), (27, 8), (27, 9), (28, 99999)]) (h0 := h) (fz_Iv_up hI (by decide) (show (-9) ≤ v by omega) (show v ≤ 9 by omega)) (fz_fr_up hf rfl) (fun H59 hI60 hf61 e62 => ?_)
        clear e62
        refine fz_goto (tgt := 180) kX10_assign rfl (by decide) ?_
        exact fz_vret kX10_assign rfl rfl ⟨hI60, hf61, rfl⟩
      · refine fz_tswC (j := 7) (tgt := 161) kX10_assign rfl c13 (by decide) (by decide) rfl (by decide) ?_
        have k63 := hp1.2.2.2.2.2.2.2.1 c13
        refine fz_aload_n kX10_assign rfl rfl ?_
        refine fz_getR (t := 27) kX10_assign rfl rfl ?_
        refine fz_iload_n kX10_assign rfl rfl ?_
        refine fz_putI kX10_assign rfl rfl rfl ?_
        refine fz_nmu (S := [(2, 99999), (3, 99999), (4, 99999), (7, 99999), (8, 99999), (12, 99999), (13, 99999), (14, 99999), (27, 8), (27, 9), (28, 99999)]) (h0 := h) (fz_Iv_up hI (by decide) (show 0 ≤ v by omega) (show v ≤ 99 by omega)) (fz_fr_up hf rfl) (fun H64 hI65 hf66 e67 => ?_)
        have k68 : H64 27 8 = v := by rw [e67]; exact fz_up_e
        clear e67
        refine fz_goto (tgt := 180) kX10_assign rfl (by decide) ?_
        exact fz_vret kX10_assign rfl rfl ⟨hI65, hf66, rfl⟩
      · refine fz_tswO (tgt := 172) kX10_assign rfl c13 (by decide) ?_
        have k69 : 0 ≤ v ∧ v ≤ 12 := hp1.2.2.2.2.2.2.2.2 (by omega)
        refine fz_aload_n kX10_assign rfl rfl ?_
        refine fz_getR (t := 27) kX10_assign rfl rfl ?_
        refine fz_iload_n kX10_assign rfl rfl ?_
        refine fz_putI kX10_assign rfl rfl rfl ?_
        refine fz_nmu (S := [(2, 99999), (3, 99999), (4, 99999), (7, 99999), (8, 99999), (12, 99999), (13, 99999), (14, 99999), (27, 8), (27, 9), (28, 99999)]) (h0 := h) (fz_Iv_up hI (by decide) (show 0 ≤ v by omega) (show v ≤ 12 by omega)) (fz_fr_up hf rfl) (fun H70 hI71 hf72 e73 => ?_)
        have k74 : H70 27 9 = v := by rw [e73]; exact fz_up_e
        clear e73
        exact fz_vret kX10_assign rfl rfl ⟨hI71, hf72, rfl⟩
    · exfalso; omega
  · refine fz_if_ne (tgt := 10) kX10_assign rfl (by decide) (fun c75 => ?_) (fun c75 => ?_)
    · exfalso; omega
    · exact fz_vret kX10_assign rfl rfl ⟨hI, hf, rfl⟩
