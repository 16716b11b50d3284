/-! ===== what the methods keep ===== -/
abbrev qX11_isOf (h : fz_H) (nu wh : Int) : fz_H → Option fz_V → Prop := fun h' r0 => h' = h ∧ ∃ r : Int, r0 = some (fz_i r) ∧ ((r = 1 ∧ ((wh = 0 ∧ 0 ≤ nu ∧ nu ≤ 7 ∧ nu < h 53 0) ∨ (wh = 1 ∧ 0 ≤ nu ∧ nu ≤ 11 ∧ nu < h 53 2) ∨ (wh = 2 ∧ 0 ≤ nu ∧ nu ≤ 11 ∧ nu < h 53 2) ∨ (wh = 3 ∧ 0 ≤ nu ∧ nu ≤ 10 ∧ nu < h 53 10) ∨ (wh = 4 ∧ 0 ≤ nu ∧ nu ≤ 10 ∧ nu < h 53 10) ∨ (wh = 5 ∧ 0 ≤ nu ∧ nu ≤ 10 ∧ nu < h 53 10) ∨ (wh = 6 ∧ 0 ≤ nu ∧ nu ≤ 4) ∨ (wh = 7 ∧ nu = 0) ∨ (wh = 8 ∧ nu = 0))) ∨ (r = 0 ∧ ¬ ((wh = 0 ∧ 0 ≤ nu ∧ nu ≤ 7 ∧ nu < h 53 0) ∨ (wh = 1 ∧ 0 ≤ nu ∧ nu ≤ 11 ∧ nu < h 53 2) ∨ (wh = 2 ∧ 0 ≤ nu ∧ nu ≤ 11 ∧ nu < h 53 2) ∨ (wh = 3 ∧ 0 ≤ nu ∧ nu ≤ 10 ∧ nu < h 53 10) ∨ (wh = 4 ∧ 0 ≤ nu ∧ nu ≤ 10 ∧ nu < h 53 10) ∨ (wh = 5 ∧ 0 ≤ nu ∧ nu ≤ 10 ∧ nu < h 53 10) ∨ (wh = 6 ∧ 0 ≤ nu ∧ nu ≤ 4) ∨ (wh = 7 ∧ nu = 0) ∨ (wh = 8 ∧ nu = 0))))
set_option maxHeartbeats 1000000 in
set_option maxRecDepth 100000 in
theorem sX11_isOf (h : fz_H) (hI : fz_Iv h) (nu wh : Int) : fz_R 2 mX11_isOf 0 [(0, fz_r 53), (1, fz_i nu), (2, fz_i wh)] [] h (qX11_isOf h nu wh) := by
  refine fz_knowl (fun hk => ?_)
  have hr_nu : -2147483648 ≤ nu ∧ nu < 2147483648 := hk _ (List.Mem.tail _ (List.Mem.head _))
  have hr_wh : -2147483648 ≤ wh ∧ wh < 2147483648 := hk _ (List.Mem.tail _ (List.Mem.tail _ (List.Mem.head _)))
  clear hk
  have b1 : 0 ≤ h 53 0 ∧ h 53 0 ≤ 8 := hI.1 53 _
  have b2 : 0 ≤ h 53 2 ∧ h 53 2 ≤ 12 := hI.1 53 _
  have b3 : 0 ≤ h 53 10 ∧ h 53 10 ≤ 11 := hI.1 53 _
  refine fz_iload_n kX11_isOf rfl rfl ?_
  rcases (show wh = 0 ∨ wh = 1 ∨ wh = 2 ∨ wh = 3 ∨ wh = 4 ∨ wh = 5 ∨ wh = 6 ∨ (wh < 0 ∨ 6 < wh) by omega) with c4 | c4 | c4 | c4 | c4 | c4 | c4 | c4
  · refine fz_tswC (j := 0) (tgt := 44) kX11_isOf rfl c4 (by decide) (by decide) rfl (by decide) ?_
    refine fz_aload_n kX11_isOf rfl rfl ?_
    refine fz_iload_n kX11_isOf rfl rfl ?_
    refine fz_callV (d' := 1) (M' := mX11_isTown) (As := [fz_i nu]) (st := []) kX11_isOf rfl rfl vX11_isTown rfl rfl rfl rfl (Nat.le_of_ble_eq_true rfl) (Nat.le_of_ble_eq_true rfl) (by decide) (sX11_isTown h hI nu ) (fun H5 r6 q7 o8 => ?_)
    obtain ⟨e9, y10, rfl, p11⟩ := q7
    subst H5
    clear o8
    rcases p11 with ⟨rfl, c12⟩ | ⟨rfl, c12⟩
    · exact fz_zret kX11_isOf rfl rfl (by omega) ⟨rfl, _, rfl, Or.inl ⟨rfl, by omega⟩⟩
    · exact fz_zret kX11_isOf rfl rfl (by omega) ⟨rfl, _, rfl, Or.inr ⟨rfl, by omega⟩⟩
  · refine fz_tswC (j := 1) (tgt := 50) kX11_isOf rfl c4 (by decide) (by decide) rfl (by decide) ?_
    refine fz_aload_n kX11_isOf rfl rfl ?_
    refine fz_iload_n kX11_isOf rfl rfl ?_
    refine fz_callV (d' := 1) (M' := mX11_isRoad) (As := [fz_i nu]) (st := []) kX11_isOf rfl rfl vX11_isRoad rfl rfl rfl rfl (Nat.le_of_ble_eq_true rfl) (Nat.le_of_ble_eq_true rfl) (by decide) (sX11_isRoad h hI nu ) (fun H13 r14 q15 o16 => ?_)
    obtain ⟨e17, y18, rfl, p19⟩ := q15
    subst H13
    clear o16
    rcases p19 with ⟨rfl, c20⟩ | ⟨rfl, c20⟩
    · exact fz_zret kX11_isOf rfl rfl (by omega) ⟨rfl, _, rfl, Or.inl ⟨rfl, by omega⟩⟩
    · exact fz_zret kX11_isOf rfl rfl (by omega) ⟨rfl, _, rfl, Or.inr ⟨rfl, by omega⟩⟩
  · refine fz_tswC (j := 2) (tgt := 50) kX11_isOf rfl c4 (by decide) (by decide) rfl (by decide) ?_
    refine fz_aload_n kX11_isOf rfl rfl ?_
    refine fz_iload_n kX11_isOf rfl rfl ?_
    refine fz_callV (d' := 1) (M' := mX11_isRoad) (As := [fz_i nu]) (st := []) kX11_isOf rfl rfl vX11_isRoad rfl rfl rfl rfl (Nat.le_of_ble_eq_true rfl) (Nat.le_of_ble_eq_true rfl) (by decide) (sX11_isRoad h hI nu ) (fun H21 r22 q23 o24 => ?_)
    obtain ⟨e25, y26, rfl, p27⟩ := q23
    subst H21
    clear o24
    rcases p27 with ⟨rfl, c28⟩ | ⟨rfl, c28⟩
    · exact fz_zret kX11_isOf rfl rfl (by omega) ⟨rfl, _, rfl, Or.inl ⟨rfl, by omega⟩⟩
    · exact fz_zret kX11_isOf rfl rfl (by omega) ⟨rfl, _, rfl, Or.inr ⟨rfl, by omega⟩⟩
  · refine fz_tswC (j := 3) (tgt := 56) kX11_isOf rfl c4 (by decide) (by decide) rfl (by decide) ?_
    refine fz_aload_n kX11_isOf rfl rfl ?_
    refine fz_iload_n kX11_isOf rfl rfl ?_
    refine fz_callV (d' := 1) (M' := mX11_isDeed) (As := [fz_i nu]) (st := []) kX11_isOf rfl rfl vX11_isDeed rfl rfl rfl rfl (Nat.le_of_ble_eq_true rfl) (Nat.le_of_ble_eq_true rfl) (by decide) (sX11_isDeed h hI nu ) (fun H29 r30 q31 o32 => ?_)
    obtain ⟨e33, y34, rfl, p35⟩ := q31
    subst H29
    clear o32
    rcases p35 with ⟨rfl, c36⟩ | ⟨rfl, c36⟩
    · exact fz_zret kX11_isOf rfl rfl (by omega) ⟨rfl, _, rfl, Or.inl ⟨rfl, by omega⟩⟩
    · exact fz_zret kX11_isOf rfl rfl (by omega) ⟨rfl, _, rfl, Or.inr ⟨rfl, by omega⟩⟩
  · refine fz_tswC (j := 4) (tgt := 56) kX11_isOf rfl c4 (by decide) (by decide) rfl (by decide) ?_
    refine fz_aload_n kX11_isOf rfl rfl ?_
    refine fz_iload_n kX11_isOf rfl rfl ?_
    refine fz_callV (d' := 1) (M' := mX11_isDeed) (As := [fz_i nu]) (st := []) kX11_isOf rfl rfl vX11_isDeed rfl rfl rfl rfl (Nat.le_of_ble_eq_true rfl) (Nat.le_of_ble_eq_true rfl) (by decide) (sX11_isDeed h hI nu ) (fun H37 r38 q39 o40 => ?_)
    obtain ⟨e41, y42, rfl, p43⟩ := q39
    subst H37
    clear o40
    rcases p43 with ⟨rfl, c44⟩ | ⟨rfl, c44⟩
    · exact fz_zret kX11_isOf rfl rfl (by omega) ⟨rfl, _, rfl, Or.inl ⟨rfl, by omega⟩⟩
    · exact fz_zret kX11_isOf rfl rfl (by omega) ⟨rfl, _, rfl, Or.inr ⟨rfl, by omega⟩⟩
  · refine fz_tswC (j := 5) (tgt := 56) kX11_isOf rfl c4 (by decide) (by decide) rfl (by decide) ?_
    refine fz_aload_n kX11_isOf rfl rfl ?_
    refine fz_iload_n kX11_isOf rfl rfl ?_
    refine fz_callV (d' := 1) (M' := mX11_isDeed) (As := [fz_i nu]) (st := []) kX11_isOf rfl rfl vX11_isDeed rfl rfl rfl rfl (Nat.le_of_ble_eq_true rfl) (Nat.le_of_ble_eq_true rfl) (by decide) (sX11_isDeed h hI nu ) (fun H45 r46 q47 o48 => ?_)
    obtain ⟨e49, y50, rfl, p51⟩ := q47
    subst H45
    clear o48
    rcases p51 with ⟨rfl, c52⟩ | ⟨rfl, c52⟩
    · exact fz_zret kX11_isOf rfl rfl (by omega) ⟨rfl, _, rfl, Or.inl ⟨rfl, by omega⟩⟩
    · exact fz_zret kX11_isOf rfl rfl (by omega) ⟨rfl, _, rfl, Or.inr ⟨rfl, by omega⟩⟩
  · refine fz_tswC (j := 6) (tgt := 62) kX11_isOf rfl c4 (by decide) (by decide) rfl (by decide) ?_
    refine fz_iload_n kX11_isOf rfl rfl ?_
    refine fz_callS (d' := 1) (M' := mX11_isMark) (As := [fz_i nu]) (st := []) kX11_isOf rfl rfl vX11_isMark rfl rfl (Nat.le_of_ble_eq_true rfl) (Nat.le_of_ble_eq_true rfl) (by decide) (sX11_isMark h hI nu ) (fun H53 r54 q55 o56 => ?_)
    obtain ⟨e57, y58, rfl, p59⟩ := q55
    subst H53
    clear o56
    rcases p59 with ⟨rfl, c60⟩ | ⟨rfl, c60⟩
    · exact fz_zret kX11_isOf rfl rfl (by omega) ⟨rfl, _, rfl, Or.inl ⟨rfl, by omega⟩⟩
    · exact fz_zret kX11_isOf rfl rfl (by omega) ⟨rfl, _, rfl, Or.inr ⟨rfl, by omega⟩⟩
  · refine fz_tswO (tgt := 67) kX11_isOf rfl c4 (by decide) ?_
    refine fz_iload_n kX11_isOf rfl rfl ?_
    refine fz_bipush ⟨by decide, by decide⟩ kX11_isOf rfl ?_
    refine fz_bipush ⟨by decide, by decide⟩ kX11_isOf rfl ?_
    refine fz_callS (d' := 0) (M' := mX11_within) (As := [fz_i wh, fz_i 7, fz_i 8]) (st := []) kX11_isOf rfl rfl vX11_within rfl rfl (Nat.le_of_ble_eq_true rfl) (Nat.le_of_ble_eq_true rfl) (by decide) (sX11_within h hI wh 7 8 ) (fun H61 r62 q63 o64 => ?_)
    obtain ⟨e65, y66, rfl, p67⟩ := q63
    subst H61
    clear o64
    rcases p67 with ⟨rfl, c68⟩ | ⟨rfl, c68⟩
    · refine fz_if_eq (tgt := 86) kX11_isOf rfl (by decide) (fun c69 => ?_) (fun c69 => ?_)
      · exfalso; omega
      · refine fz_iload_n kX11_isOf rfl rfl ?_
        refine fz_if_ne (tgt := 86) kX11_isOf rfl (by decide) (fun c70 => ?_) (fun c70 => ?_)
        · refine fz_iconst ⟨by decide, by decide⟩ kX11_isOf rfl ?_
          exact fz_zret kX11_isOf rfl rfl (by omega) ⟨rfl, _, rfl, Or.inr ⟨rfl, by omega⟩⟩
        · refine fz_iconst ⟨by decide, by decide⟩ kX11_isOf rfl ?_
          refine fz_goto (tgt := 87) kX11_isOf rfl (by decide) ?_
          exact fz_zret kX11_isOf rfl rfl (by omega) ⟨rfl, _, rfl, Or.inl ⟨rfl, by omega⟩⟩
    · refine fz_if_eq (tgt := 86) kX11_isOf rfl (by decide) (fun c71 => ?_) (fun c71 => ?_)
      · refine fz_iconst ⟨by decide, by decide⟩ kX11_isOf rfl ?_
        exact fz_zret kX11_isOf rfl rfl (by omega) ⟨rfl, _, rfl, Or.inr ⟨rfl, by omega⟩⟩
      · exfalso; omega

abbrev qX11_feed (h : fz_H) (c : Int) : fz_H → Option fz_V → Prop := fun h' r0 => fz_Iv h' ∧ fz_fr [(53, 16), (65, 99999)] h h' ∧ ∃ r : Int, r0 = some (fz_i r) ∧ ((-3) ≤ r ∧ r ≤ 120) ∧ ((0 ≤ c ∧ c ≤ 255 ∧ h 53 16 < 120 ∧ r = h 53 16 + 1 ∧ h' 53 16 = h 53 16 + 1) ∨ (0 ≤ c ∧ c ≤ 255 ∧ 120 ≤ h 53 16 ∧ r = -3 ∧ h' 53 16 = h 53 16) ∨ (¬ (0 ≤ c ∧ c ≤ 255) ∧ r = -1 ∧ h' 53 16 = h 53 16))
set_option maxHeartbeats 1000000 in
set_option maxRecDepth 100000 in
theorem sX11_feed (h : fz_H) (hI : fz_Iv h) (c : Int) : fz_R 1 mX11_feed 0 [(0, fz_r 53), (1, fz_i c)] [] h (qX11_feed h c) := by
  refine fz_knowl (fun hk => ?_)
  have hr_c : -2147483648 ≤ c ∧ c < 2147483648 := hk _ (List.Mem.tail _ (List.Mem.head _))
  clear hk
  have hf : fz_fr [(53, 16), (65, 99999)] h h := fz_fr_rf
  have b1 : 0 ≤ h 53 16 ∧ h 53 16 ≤ 120 := hI.1 53 _
  refine fz_iload_n kX11_feed rfl rfl ?_
  refine fz_iconst ⟨by decide, by decide⟩ kX11_feed rfl ?_
  refine fz_sipush ⟨by decide, by decide⟩ kX11_feed rfl ?_
  refine fz_callS (d' := 0) (M' := mX11_within) (As := [fz_i c, fz_i 0, fz_i 255]) (st := []) kX11_feed rfl rfl vX11_within rfl rfl (Nat.le_of_ble_eq_true rfl) (Nat.le_of_ble_eq_true rfl) (by decide) (sX11_within h hI c 0 255 ) (fun H2 r3 q4 o5 => ?_)
  obtain ⟨e6, y7, rfl, p8⟩ := q4
  subst H2
  clear o5
  rcases p8 with ⟨rfl, c9⟩ | ⟨rfl, c9⟩
  · refine fz_if_ne (tgt := 13) kX11_feed rfl (by decide) (fun c10 => ?_) (fun c10 => ?_)
    · refine fz_aload_n kX11_feed rfl rfl ?_
      refine fz_getV (v := h 53 16) kX11_feed rfl rfl rfl ?_
      have b11 : 0 ≤ h 53 16 ∧ h 53 16 ≤ 120 := hI.1 53 _
      refine fz_bipush ⟨by decide, by decide⟩ kX11_feed rfl ?_
      refine fz_icmp_ne (tgt := 25) kX11_feed rfl (by decide) (fun c12 => ?_) (fun c12 => ?_)
      · refine fz_aload_n kX11_feed rfl rfl ?_
        refine fz_getR (t := 65) kX11_feed rfl rfl ?_
        refine fz_aload_n kX11_feed rfl rfl ?_
        refine fz_dup rfl kX11_feed rfl ?_
        refine fz_getV (v := h 53 16) kX11_feed rfl rfl rfl ?_
        refine fz_dup_x1 rfl rfl kX11_feed rfl ?_
        refine fz_iconst ⟨by decide, by decide⟩ kX11_feed rfl ?_
        refine fz_iaddN kX11_feed rfl (by omega) ?_
        refine fz_putI kX11_feed rfl rfl rfl ?_
        refine fz_nmu (S := [(53, 16), (65, 99999)]) (h0 := h) (fz_Iv_up hI (by decide) (show 0 ≤ ((h 53 16) + 1) by omega) (show ((h 53 16) + 1) ≤ 120 by omega)) (fz_fr_up hf rfl) (fun H13 hI14 hf15 e16 => ?_)
        have k17 : H13 53 16 = ((h 53 16) + 1) := by rw [e16]; exact fz_up_e
        clear e16
        refine fz_iload_n kX11_feed rfl rfl ?_
        refine fz_iast (n := 120) kX11_feed rfl rfl (by omega) (by omega) ?_
        refine fz_nmu (S := [(53, 16), (65, 99999)]) (h0 := h) (fz_Iv_up hI14 (by decide) (show 0 ≤ c by omega) (show c ≤ 255 by omega)) (fz_fr_up hf15 rfl) (fun H18 hI19 hf20 e21 => ?_)
        have k22 : H18 53 16 = ((h 53 16) + 1) := by rw [e21]; exact (fz_up_o (by decide)).trans k17
        have t23 : H18 53 16 = H13 53 16 := by rw [e21]; exact fz_up_o (by decide)
        clear e21
        refine fz_aload_n kX11_feed rfl rfl ?_
        refine fz_getV (v := ((h 53 16) + 1)) kX11_feed rfl rfl k22 ?_
        exact fz_iret kX11_feed rfl rfl (fun _ => ⟨hI19, hf20, _, rfl, (by omega), (by omega)⟩)
      · refine fz_bipush ⟨by decide, by decide⟩ kX11_feed rfl ?_
        exact fz_iret kX11_feed rfl rfl (fun _ => ⟨hI, hf, _, rfl, (by omega), (by omega)⟩)
    · exfalso; omega
  · refine fz_if_ne (tgt := 13) kX11_feed rfl (by decide) (fun c24 => ?_) (fun c24 => ?_)
    · exfalso; omega
    · refine fz_iconst ⟨by decide, by decide⟩ kX11_feed rfl ?_
      exact fz_iret kX11_feed rfl rfl (fun _ => ⟨hI, hf, _, rfl, (by omega), (by omega)⟩)

abbrev qX11_hoursOf (h : fz_H) (rd ca : Int) : fz_H → Option fz_V → Prop := fun h' r0 => h' = h ∧ ∃ r : Int, r0 = some (fz_i r) ∧ (0 ≤ r ∧ r ≤ 24)
set_option maxHeartbeats 1000000 in
set_option maxRecDepth 100000 in
theorem sX11_hoursOf (h : fz_H) (hI : fz_Iv h) (rd ca : Int) (hp0 : 0 ≤ rd ∧ rd ≤ 11) : fz_R 0 mX11_hoursOf 0 [(0, fz_r 53), (1, fz_i rd), (2, fz_i ca)] [] h (qX11_hoursOf h rd ca) := by
  refine fz_knowl (fun hk => ?_)
  have hr_rd : -2147483648 ≤ rd ∧ rd < 2147483648 := hk _ (List.Mem.tail _ (List.Mem.head _))
  have hr_ca : -2147483648 ≤ ca ∧ ca < 2147483648 := hk _ (List.Mem.tail _ (List.Mem.tail _ (List.Mem.head _)))
  clear hk
  refine fz_iload_n kX11_hoursOf rfl rfl ?_
  refine fz_if_eq (tgt := 17) kX11_hoursOf rfl (by decide) (fun c1 => ?_) (fun c1 => ?_)
  · refine fz_aload_n kX11_hoursOf rfl rfl ?_
    refine fz_getR (t := 57) kX11_hoursOf rfl rfl ?_
    refine fz_iload_n kX11_hoursOf rfl rfl ?_
    refine fz_ialdV (n := 12) (v := h 57 (rd.toNat)) kX11_hoursOf rfl rfl (by omega) (by omega) rfl ?_
    have b2 : 0 ≤ h 57 (rd.toNat) ∧ h 57 (rd.toNat) ≤ 24 := hI.1 57 _
    exact fz_iret kX11_hoursOf rfl rfl (fun _ => ⟨rfl, _, rfl, (by omega)⟩)
  · refine fz_aload_n kX11_hoursOf rfl rfl ?_
    refine fz_getR (t := 57) kX11_hoursOf rfl rfl ?_
    refine fz_iload_n kX11_hoursOf rfl rfl ?_
    refine fz_ialdV (n := 12) (v := h 57 (rd.toNat)) kX11_hoursOf rfl rfl (by omega) (by omega) rfl ?_
    have b3 : 0 ≤ h 57 (rd.toNat) ∧ h 57 (rd.toNat) ≤ 24 := hI.1 57 _
    refine fz_iconst ⟨by decide, by decide⟩ kX11_hoursOf rfl ?_
    refine fz_iaddN kX11_hoursOf rfl (by omega) ?_
    refine fz_iconst ⟨by decide, by decide⟩ kX11_hoursOf rfl ?_
    refine fz_idivN kX11_hoursOf rfl (by omega) (by omega) (by omega) ?_
    refine fz_goto (tgt := 23) kX11_hoursOf rfl (by decide) ?_
    exact fz_iret kX11_hoursOf rfl rfl (fun _ => ⟨rfl, _, rfl, (by omega)⟩)

abbrev qX11_deedsOf (h : fz_H) (pe : Int) : fz_H → Option fz_V → Prop := fun h' r0 => h' = h ∧ ∃ r : Int, r0 = some (fz_i r) ∧ (0 ≤ r ∧ r ≤ 2047) ∧ (0 ≤ r ∧ r ≤ 2047)
set_option maxHeartbeats 1000000 in
set_option maxRecDepth 100000 in
theorem sX11_deedsOf (h : fz_H) (hI : fz_Iv h) (pe : Int) : fz_R 0 mX11_deedsOf 0 [(0, fz_r 53), (1, fz_i pe)] [] h (qX11_deedsOf h pe) := by
  refine fz_knowl (fun hk => ?_)
  have hr_pe : -2147483648 ≤ pe ∧ pe < 2147483648 := hk _ (List.Mem.tail _ (List.Mem.head _))
  clear hk
  refine fz_iconst ⟨by decide, by decide⟩ kX11_deedsOf rfl ?_
  refine fz_istore_n (ls' := [(2, fz_i 0), (0, fz_r 53), (1, fz_i pe)]) kX11_deedsOf rfl (by decide) rfl ?_
  refine fz_iconst ⟨by decide, by decide⟩ kX11_deedsOf rfl ?_
  refine fz_istore_n (ls' := [(3, fz_i 0), (2, fz_i 0), (0, fz_r 53), (1, fz_i pe)]) kX11_deedsOf rfl (by decide) rfl ?_
  have lp4 : ∀ (n3 : Nat) (x1 : Int) (x2 : Int), (0 ≤ x1 ∧ x1 ≤ 2147483647) → (0 ≤ x2 ∧ x2 ≤ 2047) → ((h 53 10) - x1).toNat < n3 → fz_R 0 mX11_deedsOf 4 [(3, fz_i x1), (2, fz_i x2), (0, fz_r 53), (1, fz_i pe)] [] h (qX11_deedsOf h pe) := by
    intro n3
    induction n3 with
    | zero => intro x1 x2 hv7 hv8 hm6; exact absurd hm6 (by omega)
    | succ n3 ih5 =>
      intro x1 x2 hv7 hv8 hm6
      refine fz_iload_n kX11_deedsOf rfl rfl ?_
      refine fz_aload_n kX11_deedsOf rfl rfl ?_
      refine fz_getV (v := h 53 10) kX11_deedsOf rfl rfl rfl ?_
      have b9 : 0 ≤ h 53 10 ∧ h 53 10 ≤ 11 := hI.1 53 _
      refine fz_icmp_ge (tgt := 34) kX11_deedsOf rfl (by decide) (fun c10 => ?_) (fun c10 => ?_)
      · refine fz_iload_n kX11_deedsOf rfl rfl ?_
        exact fz_iret kX11_deedsOf rfl rfl (fun _ => ⟨rfl, _, rfl, (by omega), (by omega)⟩)
      · refine fz_aload_n kX11_deedsOf rfl rfl ?_
        refine fz_getR (t := 60) kX11_deedsOf rfl rfl ?_
        refine fz_iload_n kX11_deedsOf rfl rfl ?_
        refine fz_ialdV (n := 11) (v := h 60 (x1.toNat)) kX11_deedsOf rfl rfl (by omega) (by omega) rfl ?_
        have b11 : (-2147483648) ≤ h 60 (x1.toNat) ∧ h 60 (x1.toNat) ≤ 2147483647 := hI.1 60 _
        refine fz_iload_n kX11_deedsOf rfl rfl ?_
        refine fz_icmp_ne (tgt := 28) kX11_deedsOf rfl (by decide) (fun c12 => ?_) (fun c12 => ?_)
        · refine fz_iincN (ls' := [(3, fz_i (x1 + 1)), (2, fz_i x2), (0, fz_r 53), (1, fz_i pe)]) kX11_deedsOf rfl (by decide) rfl (by omega) rfl ?_
          refine fz_goto (tgt := 4) kX11_deedsOf rfl (by decide) ?_
          exact ih5 (x1 + 1) x2 (by omega) (by omega) (by omega)
        · refine fz_iload_n kX11_deedsOf rfl rfl ?_
          refine fz_iconst ⟨by decide, by decide⟩ kX11_deedsOf rfl ?_
          refine fz_iload_n kX11_deedsOf rfl rfl ?_
          refine fz_ishl kX11_deedsOf rfl ?_
          have b13 : -2147483648 ≤ (fz_shl 1 x1) ∧ (fz_shl 1 x1) < 2147483648 := fz_b32 _
          have b14 : 0 ≤ (fz_shl 1 x1) ∧ (fz_shl 1 x1) ≤ 2047 := fz_shl_m (by omega)
          refine fz_ior kX11_deedsOf rfl ?_
          have b15 : -2147483648 ≤ (fz_or x2 (fz_shl 1 x1)) ∧ (fz_or x2 (fz_shl 1 x1)) < 2147483648 := fz_b32 _
          have b16 : 0 ≤ (fz_or x2 (fz_shl 1 x1)) ∧ (fz_or x2 (fz_shl 1 x1)) ≤ 2047 := fz_or_m (by omega) (by omega)
          refine fz_istore_n (ls' := [(2, fz_i (fz_or x2 (fz_shl 1 x1))), (3, fz_i x1), (0, fz_r 53), (1, fz_i pe)]) kX11_deedsOf rfl (by decide) rfl ?_
          refine fz_iincN (ls' := [(3, fz_i (x1 + 1)), (2, fz_i (fz_or x2 (fz_shl 1 x1))), (0, fz_r 53), (1, fz_i pe)]) kX11_deedsOf rfl (by decide) rfl (by omega) rfl ?_
          refine fz_goto (tgt := 4) kX11_deedsOf rfl (by decide) ?_
          exact ih5 (x1 + 1) (fz_or x2 (fz_shl 1 x1)) (by omega) (by omega) (by omega)
  exact lp4 _ 0 0 (by omega) (by omega) (Nat.lt_succ_self _)

abbrev qX11_forgets (h : fz_H) (se pe : Int) : fz_H → Option fz_V → Prop := fun h' r0 => fz_Iv h' ∧ fz_fr [(60, 99999)] h h' ∧ r0 = none
set_option maxHeartbeats 1000000 in
set_option maxRecDepth 100000 in
theorem sX11_forgets (h : fz_H) (hI : fz_Iv h) (se pe : Int) : fz_R 0 mX11_forgets 0 [(0, fz_r 53), (1, fz_i se), (2, fz_i pe)] [] h (qX11_forgets h se pe) := by
  refine fz_knowl (fun hk => ?_)
  have hr_se : -2147483648 ≤ se ∧ se < 2147483648 := hk _ (List.Mem.tail _ (List.Mem.head _))
  have hr_pe : -2147483648 ≤ pe ∧ pe < 2147483648 := hk _ (List.Mem.tail _ (List.Mem.tail _ (List.Mem.head _)))
  clear hk
  have hf : fz_fr [(60, 99999)] h h := fz_fr_rf
  refine fz_iconst ⟨by decide, by decide⟩ kX11_forgets rfl ?_
  refine fz_istore_n (ls' := [(3, fz_i 0), (0, fz_r 53), (1, fz_i se), (2, fz_i pe)]) kX11_forgets rfl (by decide) rfl ?_
  have lp6 : ∀ (n5 : Nat) (x1 : Int) (H2 : fz_H), fz_Iv H2 → fz_fr [(60, 99999)] h H2 → (0 ≤ x1 ∧ x1 ≤ 2147483647) → ((h 53 10) - x1).toNat < n5 → fz_R 0 mX11_forgets 2 [(3, fz_i x1), (0, fz_r 53), (1, fz_i se), (2, fz_i pe)] [] H2 (qX11_forgets h se pe) := by
    intro n5
    induction n5 with
    | zero => intro x1 H2 hI3 hf4 hv9 hm8; exact absurd hm8 (by omega)
    | succ n5 ih7 =>
      intro x1 H2 hI3 hf4 hv9 hm8
      refine fz_iload_n kX11_forgets rfl rfl ?_
      refine fz_aload_n kX11_forgets rfl rfl ?_
      refine fz_getV (v := h 53 10) kX11_forgets rfl rfl (hf4 53 10 rfl) ?_
      have b10 : 0 ≤ h 53 10 ∧ h 53 10 ≤ 11 := hI.1 53 _
      refine fz_icmp_ge (tgt := 32) kX11_forgets rfl (by decide) (fun c11 => ?_) (fun c11 => ?_)
      · exact fz_vret kX11_forgets rfl rfl ⟨hI3, hf4, rfl⟩
      · refine fz_iload_n kX11_forgets rfl rfl ?_
        refine fz_iload_n kX11_forgets rfl rfl ?_
        refine fz_ishr kX11_forgets rfl ?_
        have b12 : -2147483648 ≤ (fz_shr se x1) ∧ (fz_shr se x1) < 2147483648 := fz_b32 _
        refine fz_iconst ⟨by decide, by decide⟩ kX11_forgets rfl ?_
        refine fz_iand kX11_forgets rfl ?_
        have b13 : -2147483648 ≤ (fz_and (fz_shr se x1) 1) ∧ (fz_and (fz_shr se x1) 1) < 2147483648 := fz_b32 _
        refine fz_iconst ⟨by decide, by decide⟩ kX11_forgets rfl ?_
        refine fz_icmp_ne (tgt := 26) kX11_forgets rfl (by decide) (fun c14 => ?_) (fun c14 => ?_)
        · refine fz_iincN (ls' := [(3, fz_i (x1 + 1)), (0, fz_r 53), (1, fz_i se), (2, fz_i pe)]) kX11_forgets rfl (by decide) rfl (by omega) rfl ?_
          refine fz_goto (tgt := 2) kX11_forgets rfl (by decide) ?_
          exact ih7 (x1 + 1) H2 hI3 hf4 (by omega) (by omega)
        · refine fz_aload_n kX11_forgets rfl rfl ?_
          refine fz_getR (t := 60) kX11_forgets rfl rfl ?_
          refine fz_iload_n kX11_forgets rfl rfl ?_
          refine fz_iload_n kX11_forgets rfl rfl ?_
          refine fz_iast (n := 11) kX11_forgets rfl rfl (by omega) (by omega) ?_
          refine fz_nmu (S := [(60, 99999)]) (h0 := h) (fz_Iv_up hI3 (by decide) (show (-2147483648) ≤ pe by omega) (show pe ≤ 2147483647 by omega)) (fz_fr_up hf4 rfl) (fun H15 hI16 hf17 e18 => ?_)
          clear e18
          refine fz_iincN (ls' := [(3, fz_i (x1 + 1)), (0, fz_r 53), (1, fz_i se), (2, fz_i pe)]) kX11_forgets rfl (by decide) rfl (by omega) rfl ?_
          refine fz_goto (tgt := 2) kX11_forgets rfl (by decide) ?_
          exact ih7 (x1 + 1) H15 hI16 hf17 (by omega) (by omega)
  exact lp6 _ 0 h hI hf (by omega) (Nat.lt_succ_self _)

abbrev qX11_noRow (h : fz_H) (s : Int) : fz_H → Option fz_V → Prop := fun h' r0 => h' = h ∧ ∃ r : Int, r0 = some (fz_i r) ∧ ((-12) ≤ r ∧ r ≤ 0)
set_option maxHeartbeats 1000000 in
set_option maxRecDepth 100000 in
theorem sX11_noRow (h : fz_H) (hI : fz_Iv h) (s : Int) (hp0 : 0 ≤ s ∧ s ≤ 5) : fz_R 0 mX11_noRow 0 [(0, fz_r 53), (1, fz_i s)] [] h (qX11_noRow h s) := by
  refine fz_knowl (fun hk => ?_)
  have hr_s : -2147483648 ≤ s ∧ s < 2147483648 := hk _ (List.Mem.tail _ (List.Mem.head _))
  clear hk
  refine fz_aload_n kX11_noRow rfl rfl ?_
  refine fz_getR (t := 83) kX11_noRow rfl rfl ?_
  refine fz_iload_n kX11_noRow rfl rfl ?_
  refine fz_ialdV (n := 6) (v := h 83 (s.toNat)) kX11_noRow rfl rfl (by omega) (by omega) rfl ?_
  have b1 : (-1) ≤ h 83 (s.toNat) ∧ h 83 (s.toNat) ≤ 59 := hI.1 83 _
  refine fz_iconst ⟨by decide, by decide⟩ kX11_noRow rfl ?_
  refine fz_icmp_ne (tgt := 15) kX11_noRow rfl (by decide) (fun c2 => ?_) (fun c2 => ?_)
  · refine fz_aload_n kX11_noRow rfl rfl ?_
    refine fz_getR (t := 83) kX11_noRow rfl rfl ?_
    refine fz_iload_n kX11_noRow rfl rfl ?_
    refine fz_ialdV (n := 6) (v := h 83 (s.toNat)) kX11_noRow rfl rfl (by omega) (by omega) rfl ?_
    refine fz_if_eq (tgt := 29) kX11_noRow rfl (by decide) (fun c3 => ?_) (fun c3 => ?_)
    · refine fz_iconst ⟨by decide, by decide⟩ kX11_noRow rfl ?_
      exact fz_iret kX11_noRow rfl rfl (fun _ => ⟨rfl, _, rfl, (by omega)⟩)
    · refine fz_bipush ⟨by decide, by decide⟩ kX11_noRow rfl ?_
      refine fz_goto (tgt := 30) kX11_noRow rfl (by decide) ?_
      exact fz_iret kX11_noRow rfl rfl (fun _ => ⟨rfl, _, rfl, (by omega)⟩)
  · refine fz_bipush ⟨by decide, by decide⟩ kX11_noRow rfl ?_
    refine fz_goto (tgt := 30) kX11_noRow rfl (by decide) ?_
    exact fz_iret kX11_noRow rfl rfl (fun _ => ⟨rfl, _, rfl, (by omega)⟩)

abbrev qX11_led (h : fz_H) (wh : Int) : fz_H → Option fz_V → Prop := fun h' r0 => h' = h ∧ ∃ r : Int, r0 = some (fz_i r) ∧ ((-2147483648) ≤ r ∧ r ≤ 2147483647)
set_option maxHeartbeats 1000000 in
set_option maxRecDepth 100000 in
theorem sX11_led (h : fz_H) (hI : fz_Iv h) (wh : Int) : fz_R 1 mX11_led 0 [(0, fz_r 53), (1, fz_i wh)] [] h (qX11_led h wh) := by
  refine fz_knowl (fun hk => ?_)
  have hr_wh : -2147483648 ≤ wh ∧ wh < 2147483648 := hk _ (List.Mem.tail _ (List.Mem.head _))
  clear hk
  refine fz_iload_n kX11_led rfl rfl ?_
  refine fz_iconst ⟨by decide, by decide⟩ kX11_led rfl ?_
  refine fz_icmp_ne (tgt := 12) kX11_led rfl (by decide) (fun c1 => ?_) (fun c1 => ?_)
  · refine fz_iload_n kX11_led rfl rfl ?_
    refine fz_iconst ⟨by decide, by decide⟩ kX11_led rfl ?_
    refine fz_iconst ⟨by decide, by decide⟩ kX11_led rfl ?_
    refine fz_callS (d' := 0) (M' := mX11_within) (As := [fz_i wh, fz_i 0, fz_i 3]) (st := []) kX11_led rfl rfl vX11_within rfl rfl (Nat.le_of_ble_eq_true rfl) (Nat.le_of_ble_eq_true rfl) (by decide) (sX11_within h hI wh 0 3 ) (fun H2 r3 q4 o5 => ?_)
    obtain ⟨e6, y7, rfl, p8⟩ := q4
    subst H2
    clear o5
    rcases p8 with ⟨rfl, c9⟩ | ⟨rfl, c9⟩
    · refine fz_if_eq (tgt := 30) kX11_led rfl (by decide) (fun c10 => ?_) (fun c10 => ?_)
      · exfalso; omega
      · refine fz_aload_n kX11_led rfl rfl ?_
        refine fz_getR (t := 77) kX11_led rfl rfl ?_
        refine fz_iload_n kX11_led rfl rfl ?_
        refine fz_ialdV (n := 4) (v := h 77 (wh.toNat)) kX11_led rfl rfl (by omega) (by omega) rfl ?_
        have b11 : (-2147483648) ≤ h 77 (wh.toNat) ∧ h 77 (wh.toNat) ≤ 2147483647 := hI.1 77 _
        refine fz_goto (tgt := 31) kX11_led rfl (by decide) ?_
        exact fz_iret kX11_led rfl rfl (fun _ => ⟨rfl, _, rfl, (by omega)⟩)
    · refine fz_if_eq (tgt := 30) kX11_led rfl (by decide) (fun c12 => ?_) (fun c12 => ?_)
      · refine fz_iconst ⟨by decide, by decide⟩ kX11_led rfl ?_
        exact fz_iret kX11_led rfl rfl (fun _ => ⟨rfl, _, rfl, (by omega)⟩)
      · exfalso; omega
  · refine fz_aload_n kX11_led rfl rfl ?_
    refine fz_getV (v := h 53 34) kX11_led rfl rfl rfl ?_
    have b13 : 0 ≤ h 53 34 ∧ h 53 34 ≤ 999 := hI.1 53 _
    refine fz_goto (tgt := 31) kX11_led rfl (by decide) ?_
    exact fz_iret kX11_led rfl rfl (fun _ => ⟨rfl, _, rfl, (by omega)⟩)

abbrev qX11_image (h : fz_H) : fz_H → Option fz_V → Prop := fun h' r0 => fz_Iv h' ∧ fz_fr [(53, 37), (53, 38), (78, 99999), (79, 99999)] h h' ∧ ∃ r : Int, r0 = some (fz_i r) ∧ (0 ≤ r ∧ r ≤ 999)
set_option maxHeartbeats 1000000 in
set_option maxRecDepth 100000 in
theorem sX11_image (h : fz_H) (hI : fz_Iv h) : fz_R 0 mX11_image 0 [(0, fz_r 53)] [] h (qX11_image h) := by
  have hf : fz_fr [(53, 37), (53, 38), (78, 99999), (79, 99999)] h h := fz_fr_rf
  refine fz_aload_n kX11_image rfl rfl ?_
  refine fz_iconst ⟨by decide, by decide⟩ kX11_image rfl ?_
  refine fz_putZ kX11_image rfl rfl rfl (by omega) ?_
  refine fz_nmu (S := [(53, 37), (53, 38), (78, 99999), (79, 99999)]) (h0 := h) (fz_Iv_up hI (by decide) (show 0 ≤ 1 by omega) (show 1 ≤ 1 by omega)) (fz_fr_up hf rfl) (fun H1 hI2 hf3 e4 => ?_)
  have k5 : H1 53 37 = 1 := by rw [e4]; exact fz_up_e
  clear e4
  refine fz_aload_n kX11_image rfl rfl ?_
  refine fz_aload_n kX11_image rfl rfl ?_
  refine fz_getV (v := h 53 34) kX11_image rfl rfl (hf3 53 34 rfl) ?_
  have b6 : 0 ≤ h 53 34 ∧ h 53 34 ≤ 999 := hI.1 53 _
  refine fz_putI kX11_image rfl rfl rfl ?_
  refine fz_nmu (S := [(53, 37), (53, 38), (78, 99999), (79, 99999)]) (h0 := h) (fz_Iv_up hI2 (by decide) (show 0 ≤ (h 53 34) by omega) (show (h 53 34) ≤ 999 by omega)) (fz_fr_up hf3 rfl) (fun H7 hI8 hf9 e10 => ?_)
  have k11 : H7 53 37 = 1 := by rw [e10]; exact (fz_up_s (by decide)).trans k5
  have k12 : H7 53 38 = (h 53 34) := by rw [e10]; exact fz_up_e
  clear e10
  refine fz_iconst ⟨by decide, by decide⟩ kX11_image rfl ?_
  refine fz_istore_n (ls' := [(1, fz_i 0), (0, fz_r 53)]) kX11_image rfl (by decide) rfl ?_
  have lp18 : ∀ (n17 : Nat) (x13 : Int) (H14 : fz_H), fz_Iv H14 → fz_fr [(53, 37), (53, 38), (78, 99999), (79, 99999)] h H14 → (0 ≤ x13 ∧ x13 ≤ 2147483647) → (4 - x13).toNat < n17 → fz_R 0 mX11_image 15 [(1, fz_i x13), (0, fz_r 53)] [] H14 (qX11_image h) := by
    intro n17
    induction n17 with
    | zero => intro x13 H14 hI15 hf16 hv21 hm20; exact absurd hm20 (by omega)
    | succ n17 ih19 =>
      intro x13 H14 hI15 hf16 hv21 hm20
      refine fz_iload_n kX11_image rfl rfl ?_
      refine fz_iconst ⟨by decide, by decide⟩ kX11_image rfl ?_
      refine fz_icmp_ge (tgt := 50) kX11_image rfl (by decide) (fun c22 => ?_) (fun c22 => ?_)
      · refine fz_aload_n kX11_image rfl rfl ?_
        refine fz_getV (v := h 53 34) kX11_image rfl rfl (hf16 53 34 rfl) ?_
        exact fz_iret kX11_image rfl rfl (fun _ => ⟨hI15, hf16, _, rfl, (by omega)⟩)
      · refine fz_aload_n kX11_image rfl rfl ?_
        refine fz_getR (t := 78) kX11_image rfl rfl ?_
        refine fz_iload_n kX11_image rfl rfl ?_
        refine fz_aload_n kX11_image rfl rfl ?_
        refine fz_getR (t := 76) kX11_image rfl rfl ?_
        refine fz_iload_n kX11_image rfl rfl ?_
        refine fz_ialdV (n := 4) (v := h 76 (x13.toNat)) kX11_image rfl rfl (by omega) (by omega) (hf16 76 _ rfl) ?_
        have b23 : 0 ≤ h 76 (x13.toNat) ∧ h 76 (x13.toNat) ≤ 7 := hI.1 76 _
        refine fz_iast (n := 4) kX11_image rfl rfl (by omega) (by omega) ?_
        refine fz_nmu (S := [(53, 37), (53, 38), (78, 99999), (79, 99999)]) (h0 := h) (fz_Iv_up hI15 (by decide) (show 0 ≤ (h 76 (x13.toNat)) by omega) (show (h 76 (x13.toNat)) ≤ 7 by omega)) (fz_fr_up hf16 rfl) (fun H24 hI25 hf26 e27 => ?_)
        clear e27
        refine fz_aload_n kX11_image rfl rfl ?_
        refine fz_getR (t := 79) kX11_image rfl rfl ?_
        refine fz_iload_n kX11_image rfl rfl ?_
        refine fz_aload_n kX11_image rfl rfl ?_
        refine fz_getR (t := 77) kX11_image rfl rfl ?_
        refine fz_iload_n kX11_image rfl rfl ?_
        refine fz_ialdV (n := 4) (v := h 77 (x13.toNat)) kX11_image rfl rfl (by omega) (by omega) (hf26 77 _ rfl) ?_
        have b28 : (-2147483648) ≤ h 77 (x13.toNat) ∧ h 77 (x13.toNat) ≤ 2147483647 := hI.1 77 _
        refine fz_iast (n := 4) kX11_image rfl rfl (by omega) (by omega) ?_
        refine fz_nmu (S := [(53, 37), (53, 38), (78, 99999), (79, 99999)]) (h0 := h) (fz_Iv_up hI25 (by decide) (show (-2147483648) ≤ (h 77 (x13.toNat)) by omega) (show (h 77 (x13.toNat)) ≤ 2147483647 by omega)) (fz_fr_up hf26 rfl) (fun H29 hI30 hf31 e32 => ?_)
        clear e32
        refine fz_iincN (ls' := [(1, fz_i (x13 + 1)), (0, fz_r 53)]) kX11_image rfl (by decide) rfl (by omega) rfl ?_
        refine fz_goto (tgt := 15) kX11_image rfl (by decide) ?_
        exact ih19 (x13 + 1) H29 hI30 hf31 (by omega) (by omega)
  exact lp18 _ 0 H7 hI8 hf9 (by omega) (Nat.lt_succ_self _)

abbrev qX11_back (h : fz_H) : fz_H → Option fz_V → Prop := fun h' r0 => fz_Iv h' ∧ fz_fr [(53, 34), (76, 99999), (77, 99999)] h h' ∧ ∃ r : Int, r0 = some (fz_i r) ∧ ((-5) ≤ r ∧ r ≤ 999)
set_option maxHeartbeats 1000000 in
set_option maxRecDepth 100000 in
theorem sX11_back (h : fz_H) (hI : fz_Iv h) : fz_R 0 mX11_back 0 [(0, fz_r 53)] [] h (qX11_back h) := by
  have hf : fz_fr [(53, 34), (76, 99999), (77, 99999)] h h := fz_fr_rf
  refine fz_aload_n kX11_back rfl rfl ?_
  refine fz_getV (v := h 53 37) kX11_back rfl rfl rfl ?_
  have b1 : 0 ≤ h 53 37 ∧ h 53 37 ≤ 1 := hI.1 53 _
  refine fz_if_ne (tgt := 10) kX11_back rfl (by decide) (fun c2 => ?_) (fun c2 => ?_)
  · refine fz_aload_n kX11_back rfl rfl ?_
    refine fz_aload_n kX11_back rfl rfl ?_
    refine fz_getV (v := h 53 38) kX11_back rfl rfl rfl ?_
    have b3 : 0 ≤ h 53 38 ∧ h 53 38 ≤ 999 := hI.1 53 _
    refine fz_putI kX11_back rfl rfl rfl ?_
    refine fz_nmu (S := [(53, 34), (76, 99999), (77, 99999)]) (h0 := h) (fz_Iv_up hI (by decide) (show 0 ≤ (h 53 38) by omega) (show (h 53 38) ≤ 999 by omega)) (fz_fr_up hf rfl) (fun H4 hI5 hf6 e7 => ?_)
    have k8 : H4 53 34 = (h 53 38) := by rw [e7]; exact fz_up_e
    clear e7
    refine fz_iconst ⟨by decide, by decide⟩ kX11_back rfl ?_
    refine fz_istore_n (ls' := [(1, fz_i 0), (0, fz_r 53)]) kX11_back rfl (by decide) rfl ?_
    have lp14 : ∀ (n13 : Nat) (x9 : Int) (H10 : fz_H), fz_Iv H10 → fz_fr [(53, 34), (76, 99999), (77, 99999)] h H10 → (0 ≤ x9 ∧ x9 ≤ 2147483647) → (4 - x9).toNat < n13 → fz_R 0 mX11_back 20 [(1, fz_i x9), (0, fz_r 53)] [] H10 (qX11_back h) := by
      intro n13
      induction n13 with
      | zero => intro x9 H10 hI11 hf12 hv17 hm16; exact absurd hm16 (by omega)
      | succ n13 ih15 =>
        intro x9 H10 hI11 hf12 hv17 hm16
        refine fz_iload_n kX11_back rfl rfl ?_
        refine fz_iconst ⟨by decide, by decide⟩ kX11_back rfl ?_
        refine fz_icmp_ge (tgt := 55) kX11_back rfl (by decide) (fun c18 => ?_) (fun c18 => ?_)
        · refine fz_aload_n kX11_back rfl rfl ?_
          obtain ⟨v19, e20⟩ : ∃ z, H10 53 (34) = z := ⟨_, rfl⟩
          refine fz_getV (v := v19) kX11_back rfl rfl e20 ?_
          have b21 : 0 ≤ v19 ∧ v19 ≤ 999 := by rw [← e20]; exact hI11.1 53 _
          exact fz_iret kX11_back rfl rfl (fun _ => ⟨hI11, hf12, _, rfl, (by omega)⟩)
        · refine fz_aload_n kX11_back rfl rfl ?_
          refine fz_getR (t := 76) kX11_back rfl rfl ?_
          refine fz_iload_n kX11_back rfl rfl ?_
          refine fz_aload_n kX11_back rfl rfl ?_
          refine fz_getR (t := 78) kX11_back rfl rfl ?_
          refine fz_iload_n kX11_back rfl rfl ?_
          refine fz_ialdV (n := 4) (v := h 78 (x9.toNat)) kX11_back rfl rfl (by omega) (by omega) (hf12 78 _ rfl) ?_
          have b22 : 0 ≤ h 78 (x9.toNat) ∧ h 78 (x9.toNat) ≤ 7 := hI.1 78 _
          refine fz_iast (n := 4) kX11_back rfl rfl (by omega) (by omega) ?_
          refine fz_nmu (S := [(53, 34), (76, 99999), (77, 99999)]) (h0 := h) (fz_Iv_up hI11 (by decide) (show 0 ≤ (h 78 (x9.toNat)) by omega) (show (h 78 (x9.toNat)) ≤ 7 by omega)) (fz_fr_up hf12 rfl) (fun H23 hI24 hf25 e26 => ?_)
          clear e26
          refine fz_aload_n kX11_back rfl rfl ?_
          refine fz_getR (t := 77) kX11_back rfl rfl ?_
          refine fz_iload_n kX11_back rfl rfl ?_
          refine fz_aload_n kX11_back rfl rfl ?_
          refine fz_getR (t := 79) kX11_back rfl rfl ?_
          refine fz_iload_n kX11_back rfl rfl ?_
          refine fz_ialdV (n := 4) (v := h 79 (x9.toNat)) kX11_back rfl rfl (by omega) (by omega) (hf25 79 _ rfl) ?_
          have b27 : (-2147483648) ≤ h 79 (x9.toNat) ∧ h 79 (x9.toNat) ≤ 2147483647 := hI.1 79 _
          refine fz_iast (n := 4) kX11_back rfl rfl (by omega) (by omega) ?_
          refine fz_nmu (S := [(53, 34), (76, 99999), (77, 99999)]) (h0 := h) (fz_Iv_up hI24 (by decide) (show (-2147483648) ≤ (h 79 (x9.toNat)) by omega) (show (h 79 (x9.toNat)) ≤ 2147483647 by omega)) (fz_fr_up hf25 rfl) (fun H28 hI29 hf30 e31 => ?_)
          clear e31
          refine fz_iincN (ls' := [(1, fz_i (x9 + 1)), (0, fz_r 53)]) kX11_back rfl (by decide) rfl (by omega) rfl ?_
          refine fz_goto (tgt := 20) kX11_back rfl (by decide) ?_
          exact ih15 (x9 + 1) H28 hI29 hf30 (by omega) (by omega)
    exact lp14 _ 0 H4 hI5 hf6 (by omega) (Nat.lt_succ_self _)
  · refine fz_bipush ⟨by decide, by decide⟩ kX11_back rfl ?_
    exact fz_iret kX11_back rfl rfl (fun _ => ⟨hI, hf, _, rfl, (by omega)⟩)

abbrev qX11_above (h : fz_H) (k : Int) : fz_H → Option fz_V → Prop := fun h' r0 => h' = h ∧ ∃ r : Int, r0 = some (fz_i r) ∧ (0 ≤ r ∧ r ≤ 4) ∧ (1 ≤ k → r < k)
set_option maxHeartbeats 1000000 in
set_option maxRecDepth 100000 in
theorem sX11_above (h : fz_H) (hI : fz_Iv h) (k : Int) : fz_R 0 mX11_above 0 [(0, fz_i k)] [] h (qX11_above h k) := by
  refine fz_knowl (fun hk => ?_)
  have hr_k : -2147483648 ≤ k ∧ k < 2147483648 := hk _ (List.Mem.head _)
  clear hk
  refine fz_iload_n kX11_above rfl rfl ?_
  rcases (show k = 3 ∨ k = 4 ∨ k = 5 ∨ k = 6 ∨ k = 7 ∨ (k < 3 ∨ 7 < k) by omega) with c1 | c1 | c1 | c1 | c1 | c1
  · refine fz_tswC (j := 3) (tgt := 36) kX11_above rfl c1 (by decide) (by decide) rfl (by decide) ?_
    refine fz_iconst ⟨by decide, by decide⟩ kX11_above rfl ?_
    exact fz_iret kX11_above rfl rfl (fun _ => ⟨rfl, _, rfl, (by omega), (by omega)⟩)
  · refine fz_tswC (j := 4) (tgt := 38) kX11_above rfl c1 (by decide) (by decide) rfl (by decide) ?_
    refine fz_iconst ⟨by decide, by decide⟩ kX11_above rfl ?_
    exact fz_iret kX11_above rfl rfl (fun _ => ⟨rfl, _, rfl, (by omega), (by omega)⟩)
  · refine fz_tswC (j := 5) (tgt := 40) kX11_above rfl c1 (by decide) (by decide) rfl (by decide) ?_
    refine fz_iconst ⟨by decide, by decide⟩ kX11_above rfl ?_
    exact fz_iret kX11_above rfl rfl (fun _ => ⟨rfl, _, rfl, (by omega), (by omega)⟩)
  · refine fz_tswC (j := 6) (tgt := 44) kX11_above rfl c1 (by decide) (by decide) rfl (by decide) ?_
    refine fz_iconst ⟨by decide, by decide⟩ kX11_above rfl ?_
    exact fz_iret kX11_above rfl rfl (fun _ => ⟨rfl, _, rfl, (by omega), (by omega)⟩)
  · refine fz_tswC (j := 7) (tgt := 42) kX11_above rfl c1 (by decide) (by decide) rfl (by decide) ?_
    refine fz_iconst ⟨by decide, by decide⟩ kX11_above rfl ?_
    exact fz_iret kX11_above rfl rfl (fun _ => ⟨rfl, _, rfl, (by omega), (by omega)⟩)
  · refine fz_tswO (tgt := 44) kX11_above rfl c1 (by decide) ?_
    refine fz_iconst ⟨by decide, by decide⟩ kX11_above rfl ?_
    exact fz_iret kX11_above rfl rfl (fun _ => ⟨rfl, _, rfl, (by omega), (by omega)⟩)

abbrev qX11_body (h : fz_H) (k : Int) : fz_H → Option fz_V → Prop := fun h' r0 => fz_Iv h' ∧ fz_fr [(53, 44), (81, 99999)] h h' ∧ ∃ r : Int, r0 = some (fz_i r) ∧ ((-3) ≤ r ∧ r ≤ 49) ∧ (((0 ≤ k ∧ k ≤ 7) ∧ h 53 44 < 50 ∧ r = h 53 44 ∧ h' 53 44 = h 53 44 + 1) ∨ ((0 ≤ k ∧ k ≤ 7) ∧ 50 ≤ h 53 44 ∧ r = -3 ∧ h' 53 44 = h 53 44) ∨ (¬ (0 ≤ k ∧ k ≤ 7) ∧ r = -1 ∧ h' 53 44 = h 53 44))
set_option maxHeartbeats 1000000 in
set_option maxRecDepth 100000 in
theorem sX11_body (h : fz_H) (hI : fz_Iv h) (k : Int) : fz_R 1 mX11_body 0 [(0, fz_r 53), (1, fz_i k)] [] h (qX11_body h k) := by
  refine fz_knowl (fun hk => ?_)
  have hr_k : -2147483648 ≤ k ∧ k < 2147483648 := hk _ (List.Mem.tail _ (List.Mem.head _))
  clear hk
  have hf : fz_fr [(53, 44), (81, 99999)] h h := fz_fr_rf
  have b1 : 0 ≤ h 53 44 ∧ h 53 44 ≤ 50 := hI.1 53 _
  refine fz_iload_n kX11_body rfl rfl ?_
  refine fz_iconst ⟨by decide, by decide⟩ kX11_body rfl ?_
  refine fz_bipush ⟨by decide, by decide⟩ kX11_body rfl ?_
  refine fz_callS (d' := 0) (M' := mX11_within) (As := [fz_i k, fz_i 0, fz_i 7]) (st := []) kX11_body rfl rfl vX11_within rfl rfl (Nat.le_of_ble_eq_true rfl) (Nat.le_of_ble_eq_true rfl) (by decide) (sX11_within h hI k 0 7 ) (fun H2 r3 q4 o5 => ?_)
  obtain ⟨e6, y7, rfl, p8⟩ := q4
  subst H2
  clear o5
  rcases p8 with ⟨rfl, c9⟩ | ⟨rfl, c9⟩
  · refine fz_if_ne (tgt := 12) kX11_body rfl (by decide) (fun c10 => ?_) (fun c10 => ?_)
    · refine fz_aload_n kX11_body rfl rfl ?_
      refine fz_getV (v := h 53 44) kX11_body rfl rfl rfl ?_
      have b11 : 0 ≤ h 53 44 ∧ h 53 44 ≤ 50 := hI.1 53 _
      refine fz_bipush ⟨by decide, by decide⟩ kX11_body rfl ?_
      refine fz_icmp_ne (tgt := 24) kX11_body rfl (by decide) (fun c12 => ?_) (fun c12 => ?_)
      · refine fz_aload_n kX11_body rfl rfl ?_
        refine fz_getR (t := 81) kX11_body rfl rfl ?_
        refine fz_aload_n kX11_body rfl rfl ?_
        refine fz_getV (v := h 53 44) kX11_body rfl rfl rfl ?_
        refine fz_iload_n kX11_body rfl rfl ?_
        refine fz_iast (n := 50) kX11_body rfl rfl (by omega) (by omega) ?_
        refine fz_nmu (S := [(53, 44), (81, 99999)]) (h0 := h) (fz_Iv_up hI (by decide) (show 0 ≤ k by omega) (show k ≤ 7 by omega)) (fz_fr_up hf rfl) (fun H13 hI14 hf15 e16 => ?_)
        have k17 : H13 53 44 = (h 53 44) := by rw [e16]; exact (fz_up_o (by decide)).trans rfl
        have t18 : H13 53 44 = h 53 44 := by rw [e16]; exact fz_up_o (by decide)
        clear e16
        refine fz_aload_n kX11_body rfl rfl ?_
        refine fz_dup rfl kX11_body rfl ?_
        refine fz_getV (v := (h 53 44)) kX11_body rfl rfl k17 ?_
        refine fz_dup_x1 rfl rfl kX11_body rfl ?_
        refine fz_iconst ⟨by decide, by decide⟩ kX11_body rfl ?_
        refine fz_iaddN kX11_body rfl (by omega) ?_
        refine fz_putI kX11_body rfl rfl rfl ?_
        refine fz_nmu (S := [(53, 44), (81, 99999)]) (h0 := h) (fz_Iv_up hI14 (by decide) (show 0 ≤ ((h 53 44) + 1) by omega) (show ((h 53 44) + 1) ≤ 50 by omega)) (fz_fr_up hf15 rfl) (fun H19 hI20 hf21 e22 => ?_)
        have k23 : H19 53 44 = ((h 53 44) + 1) := by rw [e22]; exact fz_up_e
        clear e22
        exact fz_iret kX11_body rfl rfl (fun _ => ⟨hI20, hf21, _, rfl, (by omega), (by omega)⟩)
      · refine fz_bipush ⟨by decide, by decide⟩ kX11_body rfl ?_
        exact fz_iret kX11_body rfl rfl (fun _ => ⟨hI, hf, _, rfl, (by omega), (by omega)⟩)
    · exfalso; omega
  · refine fz_if_ne (tgt := 12) kX11_body rfl (by decide) (fun c24 => ?_) (fun c24 => ?_)
    · exfalso; omega
    · refine fz_iconst ⟨by decide, by decide⟩ kX11_body rfl ?_
      exact fz_iret kX11_body rfl rfl (fun _ => ⟨hI, hf, _, rfl, (by omega), (by omega)⟩)

abbrev qX11_trace (h : fz_H) (i : Int) : fz_H → Option fz_V → Prop := fun h' r0 => h' = h ∧ ∃ r : Int, r0 = some (fz_i r) ∧ ((-2147483648) ≤ r ∧ r ≤ 2147483647)
set_option maxHeartbeats 1000000 in
set_option maxRecDepth 100000 in
theorem sX11_trace (h : fz_H) (hI : fz_Iv h) (i : Int) : fz_R 1 mX11_trace 0 [(0, fz_r 53), (1, fz_i i)] [] h (qX11_trace h i) := by
  refine fz_knowl (fun hk => ?_)
  have hr_i : -2147483648 ≤ i ∧ i < 2147483648 := hk _ (List.Mem.tail _ (List.Mem.head _))
  clear hk
  refine fz_iload_n kX11_trace rfl rfl ?_
  refine fz_iconst ⟨by decide, by decide⟩ kX11_trace rfl ?_
  refine fz_bipush ⟨by decide, by decide⟩ kX11_trace rfl ?_
  refine fz_aload_n kX11_trace rfl rfl ?_
  refine fz_getV (v := h 53 46) kX11_trace rfl rfl rfl ?_
  have b1 : 0 ≤ h 53 46 ∧ h 53 46 ≤ 1000 := hI.1 53 _
  refine fz_min kX11_trace rfl rfl fz_sMn fz_iMm fz_cMn (by decide) (Nat.le_of_ble_eq_true rfl) ?_
  refine fz_iconst ⟨by decide, by decide⟩ kX11_trace rfl ?_
  refine fz_isubN kX11_trace rfl (by omega) ?_
  refine fz_callS (d' := 0) (M' := mX11_within) (As := [fz_i i, fz_i 0, fz_i ((min 24 (h 53 46)) - 1)]) (st := []) kX11_trace rfl rfl vX11_within rfl rfl (Nat.le_of_ble_eq_true rfl) (Nat.le_of_ble_eq_true rfl) (by decide) (sX11_within h hI i 0 ((min 24 (h 53 46)) - 1) ) (fun H2 r3 q4 o5 => ?_)
  obtain ⟨e6, y7, rfl, p8⟩ := q4
  subst H2
  clear o5
  rcases p8 with ⟨rfl, c9⟩ | ⟨rfl, c9⟩
  · refine fz_if_eq (tgt := 28) kX11_trace rfl (by decide) (fun c10 => ?_) (fun c10 => ?_)
    · exfalso; omega
    · refine fz_aload_n kX11_trace rfl rfl ?_
      refine fz_getR (t := 82) kX11_trace rfl rfl ?_
      refine fz_iload_n kX11_trace rfl rfl ?_
      refine fz_ialdV (n := 24) (v := h 82 (i.toNat)) kX11_trace rfl rfl (by omega) (by omega) rfl ?_
      have b11 : (-2147483648) ≤ h 82 (i.toNat) ∧ h 82 (i.toNat) ≤ 2147483647 := hI.1 82 _
      refine fz_goto (tgt := 29) kX11_trace rfl (by decide) ?_
      exact fz_iret kX11_trace rfl rfl (fun _ => ⟨rfl, _, rfl, (by omega)⟩)
  · refine fz_if_eq (tgt := 28) kX11_trace rfl (by decide) (fun c12 => ?_) (fun c12 => ?_)
    · refine fz_iconst ⟨by decide, by decide⟩ kX11_trace rfl ?_
      exact fz_iret kX11_trace rfl rfl (fun _ => ⟨rfl, _, rfl, (by omega)⟩)
    · exfalso; omega

abbrev qX11_keep (h : fz_H) (s b : Int) : fz_H → Option fz_V → Prop := fun h' r0 => fz_Iv h' ∧ fz_fr [(83, 99999), (84, 99999)] h h' ∧ fz_Xh h' ∧ ∃ r : Int, r0 = some (fz_i r) ∧ ((-1) ≤ r ∧ r ≤ 1) ∧ ((0 ≤ s ∧ s ≤ 5 ∧ -1 ≤ b ∧ b < h 53 44 ∧ r = 1) ∨ (¬ (0 ≤ s ∧ s ≤ 5 ∧ -1 ≤ b ∧ b < h 53 44) ∧ r = -1))
set_option maxHeartbeats 1000000 in
set_option maxRecDepth 100000 in
theorem sX11_keep (h : fz_H) (hI : fz_Iv h) (s b : Int) (hXh : fz_Xh h) : fz_R 2 mX11_keep 0 [(0, fz_r 53), (1, fz_i s), (2, fz_i b)] [] h (qX11_keep h s b) := by
  refine fz_knowl (fun hk => ?_)
  have hr_s : -2147483648 ≤ s ∧ s < 2147483648 := hk _ (List.Mem.tail _ (List.Mem.head _))
  have hr_b : -2147483648 ≤ b ∧ b < 2147483648 := hk _ (List.Mem.tail _ (List.Mem.tail _ (List.Mem.head _)))
  clear hk
  have hf : fz_fr [(83, 99999), (84, 99999)] h h := fz_fr_rf
  have b1 : 0 ≤ h 53 44 ∧ h 53 44 ≤ 50 := hI.1 53 _
  refine fz_iload_n kX11_keep rfl rfl ?_
  refine fz_callS (d' := 1) (M' := mX11_isShelf) (As := [fz_i s]) (st := []) kX11_keep rfl rfl vX11_isShelf rfl rfl (Nat.le_of_ble_eq_true rfl) (Nat.le_of_ble_eq_true rfl) (by decide) (sX11_isShelf h hI s ) (fun H2 r3 q4 o5 => ?_)
  obtain ⟨e6, y7, rfl, p8⟩ := q4
  subst H2
  clear o5
  rcases p8 with ⟨rfl, c9⟩ | ⟨rfl, c9⟩
  · refine fz_if_eq (tgt := 21) kX11_keep rfl (by decide) (fun c10 => ?_) (fun c10 => ?_)
    · exfalso; omega
    · refine fz_iload_n kX11_keep rfl rfl ?_
      refine fz_iconst ⟨by decide, by decide⟩ kX11_keep rfl ?_
      refine fz_aload_n kX11_keep rfl rfl ?_
      refine fz_getV (v := h 53 44) kX11_keep rfl rfl rfl ?_
      have b11 : 0 ≤ h 53 44 ∧ h 53 44 ≤ 50 := hI.1 53 _
      refine fz_iconst ⟨by decide, by decide⟩ kX11_keep rfl ?_
      refine fz_isubN kX11_keep rfl (by omega) ?_
      refine fz_callS (d' := 0) (M' := mX11_within) (As := [fz_i b, fz_i (-1), fz_i ((h 53 44) - 1)]) (st := []) kX11_keep rfl rfl vX11_within rfl rfl (Nat.le_of_ble_eq_true rfl) (Nat.le_of_ble_eq_true rfl) (by decide) (sX11_within h hI b (-1) ((h 53 44) - 1) ) (fun H12 r13 q14 o15 => ?_)
      obtain ⟨e16, y17, rfl, p18⟩ := q14
      subst H12
      clear o15
      rcases p18 with ⟨rfl, c19⟩ | ⟨rfl, c19⟩
      · refine fz_if_ne (tgt := 23) kX11_keep rfl (by decide) (fun c20 => ?_) (fun c20 => ?_)
        · refine fz_aload_n kX11_keep rfl rfl ?_
          refine fz_getR (t := 83) kX11_keep rfl rfl ?_
          refine fz_iload_n kX11_keep rfl rfl ?_
          refine fz_iload_n kX11_keep rfl rfl ?_
          refine fz_if_ge (tgt := 36) kX11_keep rfl (by decide) (fun c21 => ?_) (fun c21 => ?_)
          · refine fz_bipush ⟨by decide, by decide⟩ kX11_keep rfl ?_
            refine fz_iload_n kX11_keep rfl rfl ?_
            refine fz_iaddN kX11_keep rfl (by omega) ?_
            refine fz_iast (n := 6) kX11_keep rfl rfl (by omega) (by omega) ?_
            refine fz_nmu (S := [(83, 99999), (84, 99999)]) (h0 := h) (fz_Iv_up hI (by decide) (show (-1) ≤ (10 + b) by omega) (show (10 + b) ≤ 59 by omega)) (fz_fr_up hf rfl) (fun H22 hI23 hf24 e25 => ?_)
            have hXh26 : fz_Xh H22 := by rw [e25]; exact fz_Xh_st hXh (by omega)
            clear e25
            refine fz_aload_n kX11_keep rfl rfl ?_
            refine fz_getR (t := 84) kX11_keep rfl rfl ?_
            refine fz_iload_n kX11_keep rfl rfl ?_
            refine fz_iconst ⟨by decide, by decide⟩ kX11_keep rfl ?_
            refine fz_iast (n := 6) kX11_keep rfl rfl (by omega) (by omega) ?_
            refine fz_nmu (S := [(83, 99999), (84, 99999)]) (h0 := h) (fz_Iv_up hI23 (by decide) (show 0 ≤ 0 by omega) (show 0 ≤ 60 by omega)) (fz_fr_up hf24 rfl) (fun H28 hI29 hf30 e31 => ?_)
            have hXh32 : fz_Xh H28 := fz_Xh_eq (by rw [e31]; exact fz_up_ne (by decide)) hXh26
            clear e31
            refine fz_iconst ⟨by decide, by decide⟩ kX11_keep rfl ?_
            exact fz_iret kX11_keep rfl rfl (fun _ => ⟨hI29, hf30, hXh32, _, rfl, (by omega), (by omega)⟩)
          · refine fz_iconst ⟨by decide, by decide⟩ kX11_keep rfl ?_
            refine fz_goto (tgt := 40) kX11_keep rfl (by decide) ?_
            refine fz_iast (n := 6) kX11_keep rfl rfl (by omega) (by omega) ?_
            refine fz_nmu (S := [(83, 99999), (84, 99999)]) (h0 := h) (fz_Iv_up hI (by decide) (show (-1) ≤ (-1) by omega) (show (-1) ≤ 59 by omega)) (fz_fr_up hf rfl) (fun H33 hI34 hf35 e36 => ?_)
            have hXh37 : fz_Xh H33 := by rw [e36]; exact fz_Xh_st hXh (by omega)
            clear e36
            refine fz_aload_n kX11_keep rfl rfl ?_
            refine fz_getR (t := 84) kX11_keep rfl rfl ?_
            refine fz_iload_n kX11_keep rfl rfl ?_
            refine fz_iconst ⟨by decide, by decide⟩ kX11_keep rfl ?_
            refine fz_iast (n := 6) kX11_keep rfl rfl (by omega) (by omega) ?_
            refine fz_nmu (S := [(83, 99999), (84, 99999)]) (h0 := h) (fz_Iv_up hI34 (by decide) (show 0 ≤ 0 by omega) (show 0 ≤ 60 by omega)) (fz_fr_up hf35 rfl) (fun H39 hI40 hf41 e42 => ?_)
            have hXh43 : fz_Xh H39 := fz_Xh_eq (by rw [e42]; exact fz_up_ne (by decide)) hXh37
            clear e42
            refine fz_iconst ⟨by decide, by decide⟩ kX11_keep rfl ?_
            exact fz_iret kX11_keep rfl rfl (fun _ => ⟨hI40, hf41, hXh43, _, rfl, (by omega), (by omega)⟩)
        · exfalso; omega
      · refine fz_if_ne (tgt := 23) kX11_keep rfl (by decide) (fun c44 => ?_) (fun c44 => ?_)
        · exfalso; omega
        · refine fz_iconst ⟨by decide, by decide⟩ kX11_keep rfl ?_
          exact fz_iret kX11_keep rfl rfl (fun _ => ⟨hI, hf, hXh, _, rfl, (by omega), (by omega)⟩)
  · refine fz_if_eq (tgt := 21) kX11_keep rfl (by decide) (fun c45 => ?_) (fun c45 => ?_)
    · refine fz_iconst ⟨by decide, by decide⟩ kX11_keep rfl ?_
      exact fz_iret kX11_keep rfl rfl (fun _ => ⟨hI, hf, hXh, _, rfl, (by omega), (by omega)⟩)
    · exfalso; omega

abbrev qX11_row (h : fz_H) (s so n : Int) : fz_H → Option fz_V → Prop := fun h' r0 => fz_Iv h' ∧ fz_fr [(83, 99999), (84, 99999), (85, 99999)] h h' ∧ fz_Xh h' ∧ ∃ r : Int, r0 = some (fz_i r) ∧ ((-14) ≤ r ∧ r ≤ 1) ∧ ((0 ≤ s ∧ s ≤ 5 ∧ 0 ≤ so ∧ so ≤ 4 ∧ n ≤ 60 ∧ n < 0 ∧ r = -14) ∨ (0 ≤ s ∧ s ≤ 5 ∧ 0 ≤ so ∧ so ≤ 4 ∧ n ≤ 60 ∧ 0 ≤ n ∧ r = 1) ∨ (¬ (0 ≤ s ∧ s ≤ 5 ∧ 0 ≤ so ∧ so ≤ 4 ∧ n ≤ 60) ∧ r = -1))
set_option maxHeartbeats 1000000 in
set_option maxRecDepth 100000 in
theorem sX11_row (h : fz_H) (hI : fz_Iv h) (s so n : Int) (hXh : fz_Xh h) : fz_R 2 mX11_row 0 [(0, fz_r 53), (1, fz_i s), (2, fz_i so), (3, fz_i n)] [] h (qX11_row h s so n) := by
  refine fz_knowl (fun hk => ?_)
  have hr_s : -2147483648 ≤ s ∧ s < 2147483648 := hk _ (List.Mem.tail _ (List.Mem.head _))
  have hr_so : -2147483648 ≤ so ∧ so < 2147483648 := hk _ (List.Mem.tail _ (List.Mem.tail _ (List.Mem.head _)))
  have hr_n : -2147483648 ≤ n ∧ n < 2147483648 := hk _ (List.Mem.tail _ (List.Mem.tail _ (List.Mem.tail _ (List.Mem.head _))))
  clear hk
  have hf : fz_fr [(83, 99999), (84, 99999), (85, 99999)] h h := fz_fr_rf
  refine fz_iload_n kX11_row rfl rfl ?_
  refine fz_callS (d' := 1) (M' := mX11_isShelf) (As := [fz_i s]) (st := []) kX11_row rfl rfl vX11_isShelf rfl rfl (Nat.le_of_ble_eq_true rfl) (Nat.le_of_ble_eq_true rfl) (by decide) (sX11_isShelf h hI s ) (fun H1 r2 q3 o4 => ?_)
  obtain ⟨e5, y6, rfl, p7⟩ := q3
  subst H1
  clear o4
  rcases p7 with ⟨rfl, c8⟩ | ⟨rfl, c8⟩
  · refine fz_if_eq (tgt := 22) kX11_row rfl (by decide) (fun c9 => ?_) (fun c9 => ?_)
    · exfalso; omega
    · refine fz_iload_n kX11_row rfl rfl ?_
      refine fz_iconst ⟨by decide, by decide⟩ kX11_row rfl ?_
      refine fz_iconst ⟨by decide, by decide⟩ kX11_row rfl ?_
      refine fz_callS (d' := 0) (M' := mX11_within) (As := [fz_i so, fz_i 0, fz_i 4]) (st := []) kX11_row rfl rfl vX11_within rfl rfl (Nat.le_of_ble_eq_true rfl) (Nat.le_of_ble_eq_true rfl) (by decide) (sX11_within h hI so 0 4 ) (fun H10 r11 q12 o13 => ?_)
      obtain ⟨e14, y15, rfl, p16⟩ := q12
      subst H10
      clear o13
      rcases p16 with ⟨rfl, c17⟩ | ⟨rfl, c17⟩
      · refine fz_if_eq (tgt := 22) kX11_row rfl (by decide) (fun c18 => ?_) (fun c18 => ?_)
        · exfalso; omega
        · refine fz_iload_n kX11_row rfl rfl ?_
          refine fz_bipush ⟨by decide, by decide⟩ kX11_row rfl ?_
          refine fz_icmp_le (tgt := 24) kX11_row rfl (by decide) (fun c19 => ?_) (fun c19 => ?_)
          · refine fz_iload_n kX11_row rfl rfl ?_
            refine fz_if_ge (tgt := 31) kX11_row rfl (by decide) (fun c20 => ?_) (fun c20 => ?_)
            · refine fz_aload_n kX11_row rfl rfl ?_
              refine fz_getR (t := 83) kX11_row rfl rfl ?_
              refine fz_iload_n kX11_row rfl rfl ?_
              refine fz_iload_n kX11_row rfl rfl ?_
              refine fz_iast (n := 6) kX11_row rfl rfl (by omega) (by omega) ?_
              refine fz_nmu (S := [(83, 99999), (84, 99999), (85, 99999)]) (h0 := h) (fz_Iv_up hI (by decide) (show (-1) ≤ so by omega) (show so ≤ 59 by omega)) (fz_fr_up hf rfl) (fun H21 hI22 hf23 e24 => ?_)
              have hXh25 : fz_Xh H21 := by rw [e24]; exact fz_Xh_st hXh (by omega)
              clear e24
              refine fz_aload_n kX11_row rfl rfl ?_
              refine fz_getR (t := 84) kX11_row rfl rfl ?_
              refine fz_iload_n kX11_row rfl rfl ?_
              refine fz_iload_n kX11_row rfl rfl ?_
              refine fz_iast (n := 6) kX11_row rfl rfl (by omega) (by omega) ?_
              refine fz_nmu (S := [(83, 99999), (84, 99999), (85, 99999)]) (h0 := h) (fz_Iv_up hI22 (by decide) (show 0 ≤ n by omega) (show n ≤ 60 by omega)) (fz_fr_up hf23 rfl) (fun H27 hI28 hf29 e30 => ?_)
              have hXh31 : fz_Xh H27 := fz_Xh_eq (by rw [e30]; exact fz_up_ne (by decide)) hXh25
              clear e30
              refine fz_iconst ⟨by decide, by decide⟩ kX11_row rfl ?_
              refine fz_istore (ls' := [(4, fz_i 0), (0, fz_r 53), (1, fz_i s), (2, fz_i so), (3, fz_i n)]) kX11_row rfl (by decide) rfl ?_
              have lp38 : ∀ (n37 : Nat) (x32 : Int) (H34 : fz_H), fz_Iv H34 → fz_fr [(83, 99999), (84, 99999), (85, 99999)] h H34 → fz_Xh H34 → (0 ≤ x32 ∧ x32 ≤ 2147483647) → (60 - x32).toNat < n37 → fz_R 2 mX11_row 48 [(4, fz_i x32), (0, fz_r 53), (1, fz_i s), (2, fz_i so), (3, fz_i n)] [] H34 (qX11_row h s so n) := by
                intro n37
                induction n37 with
                | zero => intro x32 H34 hI35 hf36 hXh33 hv41 hm40; exact absurd hm40 (by omega)
                | succ n37 ih39 =>
                  intro x32 H34 hI35 hf36 hXh33 hv41 hm40
                  refine fz_iload kX11_row rfl rfl ?_
                  refine fz_bipush ⟨by decide, by decide⟩ kX11_row rfl ?_
                  refine fz_icmp_ge (tgt := 74) kX11_row rfl (by decide) (fun c42 => ?_) (fun c42 => ?_)
                  · refine fz_iconst ⟨by decide, by decide⟩ kX11_row rfl ?_
                    exact fz_iret kX11_row rfl rfl (fun _ => ⟨hI35, hf36, hXh33, _, rfl, (by omega), (by omega)⟩)
                  · refine fz_aload_n kX11_row rfl rfl ?_
                    refine fz_getR (t := 85) kX11_row rfl rfl ?_
                    refine fz_bipush ⟨by decide, by decide⟩ kX11_row rfl ?_
                    refine fz_iload_n kX11_row rfl rfl ?_
                    refine fz_imulN kX11_row rfl (by omega) ?_
                    refine fz_iload kX11_row rfl rfl ?_
                    refine fz_iaddN kX11_row rfl (by omega) ?_
                    refine fz_lconst (x := 0) ⟨by decide, by decide⟩ rfl kX11_row rfl ?_
                    refine fz_last (n := 360) kX11_row rfl rfl (by omega) (by omega) ?_
                    refine fz_nmu (S := [(83, 99999), (84, 99999), (85, 99999)]) (h0 := h) (fz_Iv_up hI35 (by decide) (show (-9223372036854775808) ≤ 0 by omega) (show 0 ≤ 9223372036854775807 by omega)) (fz_fr_up hf36 rfl) (fun H43 hI44 hf45 e46 => ?_)
                    have hXh47 : fz_Xh H43 := fz_Xh_eq (by rw [e46]; exact fz_up_ne (by decide)) hXh33
                    clear e46
                    refine fz_iincN (ls' := [(4, fz_i (x32 + 1)), (0, fz_r 53), (1, fz_i s), (2, fz_i so), (3, fz_i n)]) kX11_row rfl (by decide) rfl (by omega) rfl ?_
                    refine fz_goto (tgt := 48) kX11_row rfl (by decide) ?_
                    exact ih39 (x32 + 1) H43 hI44 hf45 hXh47 (by omega) (by omega)
              exact lp38 _ 0 H27 hI28 hf29 hXh31 (by omega) (Nat.lt_succ_self _)
            · refine fz_bipush ⟨by decide, by decide⟩ kX11_row rfl ?_
              exact fz_iret kX11_row rfl rfl (fun _ => ⟨hI, hf, hXh, _, rfl, (by omega), (by omega)⟩)
          · refine fz_iconst ⟨by decide, by decide⟩ kX11_row rfl ?_
            exact fz_iret kX11_row rfl rfl (fun _ => ⟨hI, hf, hXh, _, rfl, (by omega), (by omega)⟩)
      · refine fz_if_eq (tgt := 22) kX11_row rfl (by decide) (fun c48 => ?_) (fun c48 => ?_)
        · refine fz_iconst ⟨by decide, by decide⟩ kX11_row rfl ?_
          exact fz_iret kX11_row rfl rfl (fun _ => ⟨hI, hf, hXh, _, rfl, (by omega), (by omega)⟩)
        · exfalso; omega
  · refine fz_if_eq (tgt := 22) kX11_row rfl (by decide) (fun c49 => ?_) (fun c49 => ?_)
    · refine fz_iconst ⟨by decide, by decide⟩ kX11_row rfl ?_
      exact fz_iret kX11_row rfl rfl (fun _ => ⟨hI, hf, hXh, _, rfl, (by omega), (by omega)⟩)
    · exfalso; omega

abbrev qX11_isRow (h : fz_H) (s : Int) : fz_H → Option fz_V → Prop := fun h' r0 => h' = h ∧ ∃ r : Int, r0 = some (fz_i r) ∧ ((r = 1 ∧ (0 ≤ h 83 s.toNat ∧ h 83 s.toNat ≤ 4)) ∨ (r = 0 ∧ ¬ (0 ≤ h 83 s.toNat ∧ h 83 s.toNat ≤ 4)))
set_option maxHeartbeats 1000000 in
set_option maxRecDepth 100000 in
theorem sX11_isRow (h : fz_H) (hI : fz_Iv h) (s : Int) (hp0 : 0 ≤ s ∧ s ≤ 5) : fz_R 1 mX11_isRow 0 [(0, fz_r 53), (1, fz_i s)] [] h (qX11_isRow h s) := by
  refine fz_knowl (fun hk => ?_)
  have hr_s : -2147483648 ≤ s ∧ s < 2147483648 := hk _ (List.Mem.tail _ (List.Mem.head _))
  clear hk
  refine fz_aload_n kX11_isRow rfl rfl ?_
  refine fz_getR (t := 83) kX11_isRow rfl rfl ?_
  refine fz_iload_n kX11_isRow rfl rfl ?_
  refine fz_ialdV (n := 6) (v := h 83 (s.toNat)) kX11_isRow rfl rfl (by omega) (by omega) rfl ?_
  have b1 : (-1) ≤ h 83 (s.toNat) ∧ h 83 (s.toNat) ≤ 59 := hI.1 83 _
  refine fz_iconst ⟨by decide, by decide⟩ kX11_isRow rfl ?_
  refine fz_iconst ⟨by decide, by decide⟩ kX11_isRow rfl ?_
  refine fz_callS (d' := 0) (M' := mX11_within) (As := [fz_i (h 83 (s.toNat)), fz_i 0, fz_i 4]) (st := []) kX11_isRow rfl rfl vX11_within rfl rfl (Nat.le_of_ble_eq_true rfl) (Nat.le_of_ble_eq_true rfl) (by decide) (sX11_within h hI (h 83 (s.toNat)) 0 4 ) (fun H2 r3 q4 o5 => ?_)
  obtain ⟨e6, y7, rfl, p8⟩ := q4
  subst H2
  clear o5
  rcases p8 with ⟨rfl, c9⟩ | ⟨rfl, c9⟩
  · exact fz_zret kX11_isRow rfl rfl (by omega) ⟨rfl, _, rfl, Or.inl ⟨rfl, by omega⟩⟩
  · exact fz_zret kX11_isRow rfl rfl (by omega) ⟨rfl, _, rfl, Or.inr ⟨rfl, by omega⟩⟩

abbrev qX11_kept (h : fz_H) (so v : Int) : fz_H → Option fz_V → Prop := fun h' r0 => h' = h ∧ ∃ r : Int, r0 = some (fz_l r) ∧ ((-9223372036854775808) ≤ r ∧ r ≤ 9223372036854775807)
set_option maxHeartbeats 1000000 in
set_option maxRecDepth 100000 in
theorem sX11_kept (h : fz_H) (hI : fz_Iv h) (so v : Int) : fz_R 0 mX11_kept 0 [(0, fz_i so), (1, fz_l v)] [] h (qX11_kept h so v) := by
  refine fz_knowl (fun hk => ?_)
  have hr_so : -2147483648 ≤ so ∧ so < 2147483648 := hk _ (List.Mem.head _)
  have hr_v : -9223372036854775808 ≤ v ∧ v < 9223372036854775808 := hk _ (List.Mem.tail _ (List.Mem.head _))
  clear hk
  refine fz_iload_n kX11_kept rfl rfl ?_
  rcases (show so = 0 ∨ so = 1 ∨ so = 2 ∨ so = 3 ∨ (so < 0 ∨ 3 < so) by omega) with c1 | c1 | c1 | c1 | c1
  · refine fz_tswC (j := 0) (tgt := 32) kX11_kept rfl c1 (by decide) (by decide) rfl (by decide) ?_
    refine fz_lload_n kX11_kept rfl rfl ?_
    refine fz_l2i kX11_kept rfl ?_
    have b2 : -2147483648 ≤ (fz_w v) ∧ (fz_w v) < 2147483648 := fz_w_b _
    refine fz_ci2b kX11_kept rfl ?_
    refine fz_nmw (fun z3 e4 => ?_)
    refine fz_i2l kX11_kept rfl ?_
    exact fz_lret kX11_kept rfl rfl (fun _ => ⟨rfl, _, rfl, (by omega)⟩)
  · refine fz_tswC (j := 1) (tgt := 37) kX11_kept rfl c1 (by decide) (by decide) rfl (by decide) ?_
    refine fz_lload_n kX11_kept rfl rfl ?_
    refine fz_l2i kX11_kept rfl ?_
    have b5 : -2147483648 ≤ (fz_w v) ∧ (fz_w v) < 2147483648 := fz_w_b _
    refine fz_ci2s kX11_kept rfl ?_
    refine fz_nmw (fun z6 e7 => ?_)
    refine fz_i2l kX11_kept rfl ?_
    exact fz_lret kX11_kept rfl rfl (fun _ => ⟨rfl, _, rfl, (by omega)⟩)
  · refine fz_tswC (j := 2) (tgt := 42) kX11_kept rfl c1 (by decide) (by decide) rfl (by decide) ?_
    refine fz_lload_n kX11_kept rfl rfl ?_
    refine fz_l2i kX11_kept rfl ?_
    have b8 : -2147483648 ≤ (fz_w v) ∧ (fz_w v) < 2147483648 := fz_w_b _
    refine fz_i2l kX11_kept rfl ?_
    exact fz_lret kX11_kept rfl rfl (fun _ => ⟨rfl, _, rfl, (by omega)⟩)
  · refine fz_tswC (j := 3) (tgt := 46) kX11_kept rfl c1 (by decide) (by decide) rfl (by decide) ?_
    refine fz_lload_n kX11_kept rfl rfl ?_
    exact fz_lret kX11_kept rfl rfl (fun _ => ⟨rfl, _, rfl, (by omega)⟩)
  · refine fz_tswO (tgt := 48) kX11_kept rfl c1 (by decide) ?_
    refine fz_lload_n kX11_kept rfl rfl ?_
    refine fz_lconst (x := 0) ⟨by decide, by decide⟩ rfl kX11_kept rfl ?_
    refine fz_lcmp kX11_kept rfl ?_
    have b9 := fz_cmp_c v 0
    refine fz_if_eq (tgt := 58) kX11_kept rfl (by decide) (fun c10 => ?_) (fun c10 => ?_)
    · refine fz_lconst (x := 0) ⟨by decide, by decide⟩ rfl kX11_kept rfl ?_
      exact fz_lret kX11_kept rfl rfl (fun _ => ⟨rfl, _, rfl, (by omega)⟩)
    · refine fz_lconst (x := 1) ⟨by decide, by decide⟩ rfl kX11_kept rfl ?_
      refine fz_goto (tgt := 59) kX11_kept rfl (by decide) ?_
      exact fz_lret kX11_kept rfl rfl (fun _ => ⟨rfl, _, rfl, (by omega)⟩)

abbrev qX11_put (h : fz_H) (s i v : Int) : fz_H → Option fz_V → Prop := fun h' r0 => fz_Iv h' ∧ fz_fr [(85, 99999)] h h' ∧ ∃ r : Int, r0 = some (fz_i r) ∧ ((-13) ≤ r ∧ r ≤ 1)
set_option maxHeartbeats 1000000 in
set_option maxRecDepth 100000 in
theorem sX11_put (h : fz_H) (hI : fz_Iv h) (s i v : Int) : fz_R 2 mX11_put 0 [(0, fz_r 53), (1, fz_i s), (2, fz_i i), (3, fz_l v)] [] h (qX11_put h s i v) := by
  refine fz_knowl (fun hk => ?_)
  have hr_s : -2147483648 ≤ s ∧ s < 2147483648 := hk _ (List.Mem.tail _ (List.Mem.head _))
  have hr_i : -2147483648 ≤ i ∧ i < 2147483648 := hk _ (List.Mem.tail _ (List.Mem.tail _ (List.Mem.head _)))
  have hr_v : -9223372036854775808 ≤ v ∧ v < 9223372036854775808 := hk _ (List.Mem.tail _ (List.Mem.tail _ (List.Mem.tail _ (List.Mem.head _))))
  clear hk
  have hf : fz_fr [(85, 99999)] h h := fz_fr_rf
  refine fz_iload_n kX11_put rfl rfl ?_
  refine fz_callS (d' := 1) (M' := mX11_isShelf) (As := [fz_i s]) (st := []) kX11_put rfl rfl vX11_isShelf rfl rfl (Nat.le_of_ble_eq_true rfl) (Nat.le_of_ble_eq_true rfl) (by decide) (sX11_isShelf h hI s ) (fun H1 r2 q3 o4 => ?_)
  obtain ⟨e5, y6, rfl, p7⟩ := q3
  subst H1
  clear o4
  rcases p7 with ⟨rfl, c8⟩ | ⟨rfl, c8⟩
  · refine fz_if_ne (tgt := 9) kX11_put rfl (by decide) (fun c9 => ?_) (fun c9 => ?_)
    · refine fz_aload_n kX11_put rfl rfl ?_
      refine fz_getR (t := 83) kX11_put rfl rfl ?_
      refine fz_iload_n kX11_put rfl rfl ?_
      refine fz_ialdV (n := 6) (v := h 83 (s.toNat)) kX11_put rfl rfl (by omega) (by omega) rfl ?_
      have b10 : (-1) ≤ h 83 (s.toNat) ∧ h 83 (s.toNat) ≤ 59 := hI.1 83 _
      refine fz_iconst ⟨by decide, by decide⟩ kX11_put rfl ?_
      refine fz_icmp_ne (tgt := 22) kX11_put rfl (by decide) (fun c11 => ?_) (fun c11 => ?_)
      · refine fz_aload_n kX11_put rfl rfl ?_
        refine fz_iload_n kX11_put rfl rfl ?_
        refine fz_callV (d' := 1) (M' := mX11_isRow) (As := [fz_i s]) (st := []) kX11_put rfl rfl vX11_isRow rfl rfl rfl rfl (Nat.le_of_ble_eq_true rfl) (Nat.le_of_ble_eq_true rfl) (by decide) (sX11_isRow h hI s (by omega)) (fun H12 r13 q14 o15 => ?_)
        obtain ⟨e16, y17, rfl, p18⟩ := q14
        subst H12
        clear o15
        rcases p18 with ⟨rfl, c19⟩ | ⟨rfl, c19⟩
        · refine fz_if_ne (tgt := 33) kX11_put rfl (by decide) (fun c20 => ?_) (fun c20 => ?_)
          · refine fz_iload_n kX11_put rfl rfl ?_
            refine fz_iconst ⟨by decide, by decide⟩ kX11_put rfl ?_
            refine fz_aload_n kX11_put rfl rfl ?_
            refine fz_getR (t := 84) kX11_put rfl rfl ?_
            refine fz_iload_n kX11_put rfl rfl ?_
            refine fz_ialdV (n := 6) (v := h 84 (s.toNat)) kX11_put rfl rfl (by omega) (by omega) rfl ?_
            have b21 : 0 ≤ h 84 (s.toNat) ∧ h 84 (s.toNat) ≤ 60 := hI.1 84 _
            refine fz_iconst ⟨by decide, by decide⟩ kX11_put rfl ?_
            refine fz_isubN kX11_put rfl (by omega) ?_
            refine fz_callS (d' := 0) (M' := mX11_within) (As := [fz_i i, fz_i 0, fz_i ((h 84 (s.toNat)) - 1)]) (st := []) kX11_put rfl rfl vX11_within rfl rfl (Nat.le_of_ble_eq_true rfl) (Nat.le_of_ble_eq_true rfl) (by decide) (sX11_within h hI i 0 ((h 84 (s.toNat)) - 1) ) (fun H22 r23 q24 o25 => ?_)
            obtain ⟨e26, y27, rfl, p28⟩ := q24
            subst H22
            clear o25
            rcases p28 with ⟨rfl, c29⟩ | ⟨rfl, c29⟩
            · refine fz_if_ne (tgt := 52) kX11_put rfl (by decide) (fun c30 => ?_) (fun c30 => ?_)
              · refine fz_aload_n kX11_put rfl rfl ?_
                refine fz_getR (t := 85) kX11_put rfl rfl ?_
                refine fz_bipush ⟨by decide, by decide⟩ kX11_put rfl ?_
                refine fz_iload_n kX11_put rfl rfl ?_
                refine fz_imulN kX11_put rfl (by omega) ?_
                refine fz_iload_n kX11_put rfl rfl ?_
                refine fz_iaddN kX11_put rfl (by omega) ?_
                refine fz_aload_n kX11_put rfl rfl ?_
                refine fz_getR (t := 83) kX11_put rfl rfl ?_
                refine fz_iload_n kX11_put rfl rfl ?_
                refine fz_ialdV (n := 6) (v := h 83 (s.toNat)) kX11_put rfl rfl (by omega) (by omega) rfl ?_
                refine fz_lload_n kX11_put rfl rfl ?_
                refine fz_callS (d' := 0) (M' := mX11_kept) (As := [fz_i (h 83 (s.toNat)), fz_l v]) (st := [fz_i ((60 * s) + i), fz_r 85]) kX11_put rfl rfl vX11_kept rfl rfl (Nat.le_of_ble_eq_true rfl) (Nat.le_of_ble_eq_true rfl) (by decide) (sX11_kept h hI (h 83 (s.toNat)) v ) (fun H31 r32 q33 o34 => ?_)
                obtain ⟨e35, y37, rfl, f36⟩ := q33
                subst H31
                clear o34
                refine fz_last (n := 360) kX11_put rfl rfl (by omega) (by omega) ?_
                refine fz_nmu (S := [(85, 99999)]) (h0 := h) (fz_Iv_up hI (by decide) (show (-9223372036854775808) ≤ y37 by omega) (show y37 ≤ 9223372036854775807 by omega)) (fz_fr_up hf rfl) (fun H38 hI39 hf40 e41 => ?_)
                clear e41
                refine fz_iconst ⟨by decide, by decide⟩ kX11_put rfl ?_
                exact fz_iret kX11_put rfl rfl (fun _ => ⟨hI39, hf40, _, rfl, (by omega)⟩)
              · exfalso; omega
            · refine fz_if_ne (tgt := 52) kX11_put rfl (by decide) (fun c42 => ?_) (fun c42 => ?_)
              · exfalso; omega
              · refine fz_bipush ⟨by decide, by decide⟩ kX11_put rfl ?_
                exact fz_iret kX11_put rfl rfl (fun _ => ⟨hI, hf, _, rfl, (by omega)⟩)
          · exfalso; omega
        · refine fz_if_ne (tgt := 33) kX11_put rfl (by decide) (fun c43 => ?_) (fun c43 => ?_)
          · exfalso; omega
          · refine fz_bipush ⟨by decide, by decide⟩ kX11_put rfl ?_
            exact fz_iret kX11_put rfl rfl (fun _ => ⟨hI, hf, _, rfl, (by omega)⟩)
      · refine fz_bipush ⟨by decide, by decide⟩ kX11_put rfl ?_
        exact fz_iret kX11_put rfl rfl (fun _ => ⟨hI, hf, _, rfl, (by omega)⟩)
    · exfalso; omega
  · refine fz_if_ne (tgt := 9) kX11_put rfl (by decide) (fun c44 => ?_) (fun c44 => ?_)
    · exfalso; omega
    · refine fz_iconst ⟨by decide, by decide⟩ kX11_put rfl ?_
      exact fz_iret kX11_put rfl rfl (fun _ => ⟨hI, hf, _, rfl, (by omega)⟩)

abbrev qX11_element (h : fz_H) (s i : Int) : fz_H → Option fz_V → Prop := fun h' r0 => h' = h ∧ ∃ r : Int, r0 = some (fz_l r) ∧ ((-9223372036854775808) ≤ r ∧ r ≤ 9223372036854775807)
set_option maxHeartbeats 1000000 in
set_option maxRecDepth 100000 in
theorem sX11_element (h : fz_H) (hI : fz_Iv h) (s i : Int) : fz_R 2 mX11_element 0 [(0, fz_r 53), (1, fz_i s), (2, fz_i i)] [] h (qX11_element h s i) := by
  refine fz_knowl (fun hk => ?_)
  have hr_s : -2147483648 ≤ s ∧ s < 2147483648 := hk _ (List.Mem.tail _ (List.Mem.head _))
  have hr_i : -2147483648 ≤ i ∧ i < 2147483648 := hk _ (List.Mem.tail _ (List.Mem.tail _ (List.Mem.head _)))
  clear hk
  refine fz_iload_n kX11_element rfl rfl ?_
  refine fz_callS (d' := 1) (M' := mX11_isShelf) (As := [fz_i s]) (st := []) kX11_element rfl rfl vX11_isShelf rfl rfl (Nat.le_of_ble_eq_true rfl) (Nat.le_of_ble_eq_true rfl) (by decide) (sX11_isShelf h hI s ) (fun H1 r2 q3 o4 => ?_)
  obtain ⟨e5, y6, rfl, p7⟩ := q3
  subst H1
  clear o4
  rcases p7 with ⟨rfl, c8⟩ | ⟨rfl, c8⟩
  · refine fz_if_eq (tgt := 45) kX11_element rfl (by decide) (fun c9 => ?_) (fun c9 => ?_)
    · exfalso; omega
    · refine fz_aload_n kX11_element rfl rfl ?_
      refine fz_iload_n kX11_element rfl rfl ?_
      refine fz_callV (d' := 1) (M' := mX11_isRow) (As := [fz_i s]) (st := []) kX11_element rfl rfl vX11_isRow rfl rfl rfl rfl (Nat.le_of_ble_eq_true rfl) (Nat.le_of_ble_eq_true rfl) (by decide) (sX11_isRow h hI s (by omega)) (fun H10 r11 q12 o13 => ?_)
      obtain ⟨e14, y15, rfl, p16⟩ := q12
      subst H10
      clear o13
      rcases p16 with ⟨rfl, c17⟩ | ⟨rfl, c17⟩
      · refine fz_if_eq (tgt := 45) kX11_element rfl (by decide) (fun c18 => ?_) (fun c18 => ?_)
        · exfalso; omega
        · refine fz_iload_n kX11_element rfl rfl ?_
          refine fz_iconst ⟨by decide, by decide⟩ kX11_element rfl ?_
          refine fz_aload_n kX11_element rfl rfl ?_
          refine fz_getR (t := 84) kX11_element rfl rfl ?_
          refine fz_iload_n kX11_element rfl rfl ?_
          refine fz_ialdV (n := 6) (v := h 84 (s.toNat)) kX11_element rfl rfl (by omega) (by omega) rfl ?_
          have b19 : 0 ≤ h 84 (s.toNat) ∧ h 84 (s.toNat) ≤ 60 := hI.1 84 _
          refine fz_iconst ⟨by decide, by decide⟩ kX11_element rfl ?_
          refine fz_isubN kX11_element rfl (by omega) ?_
          refine fz_callS (d' := 0) (M' := mX11_within) (As := [fz_i i, fz_i 0, fz_i ((h 84 (s.toNat)) - 1)]) (st := []) kX11_element rfl rfl vX11_within rfl rfl (Nat.le_of_ble_eq_true rfl) (Nat.le_of_ble_eq_true rfl) (by decide) (sX11_within h hI i 0 ((h 84 (s.toNat)) - 1) ) (fun H20 r21 q22 o23 => ?_)
          obtain ⟨e24, y25, rfl, p26⟩ := q22
          subst H20
          clear o23
          rcases p26 with ⟨rfl, c27⟩ | ⟨rfl, c27⟩
          · refine fz_if_eq (tgt := 45) kX11_element rfl (by decide) (fun c28 => ?_) (fun c28 => ?_)
            · exfalso; omega
            · refine fz_aload_n kX11_element rfl rfl ?_
              refine fz_getR (t := 85) kX11_element rfl rfl ?_
              refine fz_bipush ⟨by decide, by decide⟩ kX11_element rfl ?_
              refine fz_iload_n kX11_element rfl rfl ?_
              refine fz_imulN kX11_element rfl (by omega) ?_
              refine fz_iload_n kX11_element rfl rfl ?_
              refine fz_iaddN kX11_element rfl (by omega) ?_
              refine fz_laldV (n := 360) (v := h 85 (((60 * s) + i).toNat)) kX11_element rfl rfl (by omega) (by omega) rfl ?_
              have b29 : (-9223372036854775808) ≤ h 85 (((60 * s) + i).toNat) ∧ h 85 (((60 * s) + i).toNat) ≤ 9223372036854775807 := hI.1 85 _
              refine fz_goto (tgt := 48) kX11_element rfl (by decide) ?_
              exact fz_lret kX11_element rfl rfl (fun _ => ⟨rfl, _, rfl, (by omega)⟩)
          · refine fz_if_eq (tgt := 45) kX11_element rfl (by decide) (fun c30 => ?_) (fun c30 => ?_)
            · refine fz_ldc2 (x := (-9223372036854775808)) kX11_element rfl rfl rfl ?_
              exact fz_lret kX11_element rfl rfl (fun _ => ⟨rfl, _, rfl, (by omega)⟩)
            · exfalso; omega
      · refine fz_if_eq (tgt := 45) kX11_element rfl (by decide) (fun c31 => ?_) (fun c31 => ?_)
        · refine fz_ldc2 (x := (-9223372036854775808)) kX11_element rfl rfl rfl ?_
          exact fz_lret kX11_element rfl rfl (fun _ => ⟨rfl, _, rfl, (by omega)⟩)
        · exfalso; omega
  · refine fz_if_eq (tgt := 45) kX11_element rfl (by decide) (fun c32 => ?_) (fun c32 => ?_)
    · refine fz_ldc2 (x := (-9223372036854775808)) kX11_element rfl rfl rfl ?_
      exact fz_lret kX11_element rfl rfl (fun _ => ⟨rfl, _, rfl, (by omega)⟩)
    · exfalso; omega

abbrev qX11_shift (h : fz_H) (s i o j n : Int) : fz_H → Option fz_V → Prop := fun h' r0 => fz_Iv h' ∧ fz_fr [(85, 99999)] h h' ∧ ∃ r : Int, r0 = some (fz_i r) ∧ ((-13) ≤ r ∧ r ≤ 60)
set_option maxHeartbeats 1000000 in
set_option maxRecDepth 100000 in
theorem sX11_shift (h : fz_H) (hI : fz_Iv h) (s i o j n : Int) : fz_R 2 mX11_shift 0 [(0, fz_r 53), (1, fz_i s), (2, fz_i i), (3, fz_i o), (4, fz_i j), (5, fz_i n)] [] h (qX11_shift h s i o j n) := by
  refine fz_knowl (fun hk => ?_)
  have hr_s : -2147483648 ≤ s ∧ s < 2147483648 := hk _ (List.Mem.tail _ (List.Mem.head _))
  have hr_i : -2147483648 ≤ i ∧ i < 2147483648 := hk _ (List.Mem.tail _ (List.Mem.tail _ (List.Mem.head _)))
  have hr_o : -2147483648 ≤ o ∧ o < 2147483648 := hk _ (List.Mem.tail _ (List.Mem.tail _ (List.Mem.tail _ (List.Mem.head _))))
  have hr_j : -2147483648 ≤ j ∧ j < 2147483648 := hk _ (List.Mem.tail _ (List.Mem.tail _ (List.Mem.tail _ (List.Mem.tail _ (List.Mem.head _)))))
  have hr_n : -2147483648 ≤ n ∧ n < 2147483648 := hk _ (List.Mem.tail _ (List.Mem.tail _ (List.Mem.tail _ (List.Mem.tail _ (List.Mem.tail _ (List.Mem.head _))))))
  clear hk
  have hf : fz_fr [(85, 99999)] h h := fz_fr_rf
  refine fz_iload_n kX11_shift rfl rfl ?_
  refine fz_callS (d' := 1) (M' := mX11_isShelf) (As := [fz_i s]) (st := []) kX11_shift rfl rfl vX11_isShelf rfl rfl (Nat.le_of_ble_eq_true rfl) (Nat.le_of_ble_eq_true rfl) (by decide) (sX11_isShelf h hI s ) (fun H1 r2 q3 o4 => ?_)
  obtain ⟨e5, y6, rfl, p7⟩ := q3
  subst H1
  clear o4
  rcases p7 with ⟨rfl, c8⟩ | ⟨rfl, c8⟩
  · refine fz_if_eq (tgt := 14) kX11_shift rfl (by decide) (fun c9 => ?_) (fun c9 => ?_)
    · exfalso; omega
    · refine fz_iload_n kX11_shift rfl rfl ?_
      refine fz_callS (d' := 1) (M' := mX11_isShelf) (As := [fz_i o]) (st := []) kX11_shift rfl rfl vX11_isShelf rfl rfl (Nat.le_of_ble_eq_true rfl) (Nat.le_of_ble_eq_true rfl) (by decide) (sX11_isShelf h hI o ) (fun H10 r11 q12 o13 => ?_)
      obtain ⟨e14, y15, rfl, p16⟩ := q12
      subst H10
      clear o13
      rcases p16 with ⟨rfl, c17⟩ | ⟨rfl, c17⟩
      · refine fz_if_ne (tgt := 16) kX11_shift rfl (by decide) (fun c18 => ?_) (fun c18 => ?_)
        · refine fz_aload_n kX11_shift rfl rfl ?_
          refine fz_getR (t := 83) kX11_shift rfl rfl ?_
          refine fz_iload_n kX11_shift rfl rfl ?_
          refine fz_ialdV (n := 6) (v := h 83 (s.toNat)) kX11_shift rfl rfl (by omega) (by omega) rfl ?_
          have b19 : (-1) ≤ h 83 (s.toNat) ∧ h 83 (s.toNat) ≤ 59 := hI.1 83 _
          refine fz_iconst ⟨by decide, by decide⟩ kX11_shift rfl ?_
          refine fz_icmp_eq (tgt := 36) kX11_shift rfl (by decide) (fun c20 => ?_) (fun c20 => ?_)
          · refine fz_bipush ⟨by decide, by decide⟩ kX11_shift rfl ?_
            exact fz_iret kX11_shift rfl rfl (fun _ => ⟨hI, hf, _, rfl, (by omega)⟩)
          · refine fz_aload_n kX11_shift rfl rfl ?_
            refine fz_getR (t := 83) kX11_shift rfl rfl ?_
            refine fz_iload_n kX11_shift rfl rfl ?_
            refine fz_ialdV (n := 6) (v := h 83 (o.toNat)) kX11_shift rfl rfl (by omega) (by omega) rfl ?_
            have b21 : (-1) ≤ h 83 (o.toNat) ∧ h 83 (o.toNat) ≤ 59 := hI.1 83 _
            refine fz_iconst ⟨by decide, by decide⟩ kX11_shift rfl ?_
            refine fz_icmp_ne (tgt := 39) kX11_shift rfl (by decide) (fun c22 => ?_) (fun c22 => ?_)
            · refine fz_aload_n kX11_shift rfl rfl ?_
              refine fz_iload_n kX11_shift rfl rfl ?_
              refine fz_callV (d' := 1) (M' := mX11_isRow) (As := [fz_i s]) (st := []) kX11_shift rfl rfl vX11_isRow rfl rfl rfl rfl (Nat.le_of_ble_eq_true rfl) (Nat.le_of_ble_eq_true rfl) (by decide) (sX11_isRow h hI s (by omega)) (fun H23 r24 q25 o26 => ?_)
              obtain ⟨e27, y28, rfl, p29⟩ := q25
              subst H23
              clear o26
              rcases p29 with ⟨rfl, c30⟩ | ⟨rfl, c30⟩
              · refine fz_if_eq (tgt := 70) kX11_shift rfl (by decide) (fun c31 => ?_) (fun c31 => ?_)
                · exfalso; omega
                · refine fz_aload_n kX11_shift rfl rfl ?_
                  refine fz_iload_n kX11_shift rfl rfl ?_
                  refine fz_callV (d' := 1) (M' := mX11_isRow) (As := [fz_i o]) (st := []) kX11_shift rfl rfl vX11_isRow rfl rfl rfl rfl (Nat.le_of_ble_eq_true rfl) (Nat.le_of_ble_eq_true rfl) (by decide) (sX11_isRow h hI o (by omega)) (fun H32 r33 q34 o35 => ?_)
                  obtain ⟨e36, y37, rfl, p38⟩ := q34
                  subst H32
                  clear o35
                  rcases p38 with ⟨rfl, c39⟩ | ⟨rfl, c39⟩
                  · refine fz_if_eq (tgt := 70) kX11_shift rfl (by decide) (fun c40 => ?_) (fun c40 => ?_)
                    · exfalso; omega
                    · refine fz_aload_n kX11_shift rfl rfl ?_
                      refine fz_getR (t := 83) kX11_shift rfl rfl ?_
                      refine fz_iload_n kX11_shift rfl rfl ?_
                      refine fz_ialdV (n := 6) (v := h 83 (s.toNat)) kX11_shift rfl rfl (by omega) (by omega) rfl ?_
                      refine fz_aload_n kX11_shift rfl rfl ?_
                      refine fz_getR (t := 83) kX11_shift rfl rfl ?_
                      refine fz_iload_n kX11_shift rfl rfl ?_
                      refine fz_ialdV (n := 6) (v := h 83 (o.toNat)) kX11_shift rfl rfl (by omega) (by omega) rfl ?_
                      refine fz_icmp_eq (tgt := 73) kX11_shift rfl (by decide) (fun c41 => ?_) (fun c41 => ?_)
                      · refine fz_iload kX11_shift rfl rfl ?_
                        refine fz_if_lt (tgt := 122) kX11_shift rfl (by decide) (fun c42 => ?_) (fun c42 => ?_)
                        · refine fz_bipush ⟨by decide, by decide⟩ kX11_shift rfl ?_
                          exact fz_iret kX11_shift rfl rfl (fun _ => ⟨hI, hf, _, rfl, (by omega)⟩)
                        · refine fz_iload_n kX11_shift rfl rfl ?_
                          refine fz_if_lt (tgt := 122) kX11_shift rfl (by decide) (fun c43 => ?_) (fun c43 => ?_)
                          · refine fz_bipush ⟨by decide, by decide⟩ kX11_shift rfl ?_
                            exact fz_iret kX11_shift rfl rfl (fun _ => ⟨hI, hf, _, rfl, (by omega)⟩)
                          · refine fz_iload kX11_shift rfl rfl ?_
                            refine fz_if_lt (tgt := 122) kX11_shift rfl (by decide) (fun c44 => ?_) (fun c44 => ?_)
                            · refine fz_bipush ⟨by decide, by decide⟩ kX11_shift rfl ?_
                              exact fz_iret kX11_shift rfl rfl (fun _ => ⟨hI, hf, _, rfl, (by omega)⟩)
                            · refine fz_iload_n kX11_shift rfl rfl ?_
                              refine fz_i2l kX11_shift rfl ?_
                              refine fz_iload kX11_shift rfl rfl ?_
                              refine fz_i2l kX11_shift rfl ?_
                              refine fz_laddN kX11_shift rfl (by omega) ?_
                              refine fz_aload_n kX11_shift rfl rfl ?_
                              refine fz_getR (t := 84) kX11_shift rfl rfl ?_
                              refine fz_iload_n kX11_shift rfl rfl ?_
                              refine fz_ialdV (n := 6) (v := h 84 (s.toNat)) kX11_shift rfl rfl (by omega) (by omega) rfl ?_
                              have b45 : 0 ≤ h 84 (s.toNat) ∧ h 84 (s.toNat) ≤ 60 := hI.1 84 _
                              refine fz_i2l kX11_shift rfl ?_
                              refine fz_lcmp kX11_shift rfl ?_
                              have b46 := fz_cmp_c (i + n) (h 84 (s.toNat))
                              refine fz_if_gt (tgt := 122) kX11_shift rfl (by decide) (fun c47 => ?_) (fun c47 => ?_)
                              · refine fz_bipush ⟨by decide, by decide⟩ kX11_shift rfl ?_
                                exact fz_iret kX11_shift rfl rfl (fun _ => ⟨hI, hf, _, rfl, (by omega)⟩)
                              · refine fz_iload kX11_shift rfl rfl ?_
                                refine fz_i2l kX11_shift rfl ?_
                                refine fz_iload kX11_shift rfl rfl ?_
                                refine fz_i2l kX11_shift rfl ?_
                                refine fz_laddN kX11_shift rfl (by omega) ?_
                                refine fz_aload_n kX11_shift rfl rfl ?_
                                refine fz_getR (t := 84) kX11_shift rfl rfl ?_
                                refine fz_iload_n kX11_shift rfl rfl ?_
                                refine fz_ialdV (n := 6) (v := h 84 (o.toNat)) kX11_shift rfl rfl (by omega) (by omega) rfl ?_
                                have b48 : 0 ≤ h 84 (o.toNat) ∧ h 84 (o.toNat) ≤ 60 := hI.1 84 _
                                refine fz_i2l kX11_shift rfl ?_
                                refine fz_lcmp kX11_shift rfl ?_
                                have b49 := fz_cmp_c (j + n) (h 84 (o.toNat))
                                refine fz_if_le (tgt := 125) kX11_shift rfl (by decide) (fun c50 => ?_) (fun c50 => ?_)
                                · have k52 : i ≤ 60 := by omega
                                  have k54 : j ≤ 60 := by omega
                                  have k56 : n ≤ 60 := by omega
                                  refine fz_iload_n kX11_shift rfl rfl ?_
                                  refine fz_iload_n kX11_shift rfl rfl ?_
                                  refine fz_icmp_ne (tgt := 185) kX11_shift rfl (by decide) (fun c57 => ?_) (fun c57 => ?_)
                                  · refine fz_iconst ⟨by decide, by decide⟩ kX11_shift rfl ?_
                                    refine fz_istore (ls' := [(6, fz_i 0), (0, fz_r 53), (1, fz_i s), (2, fz_i i), (3, fz_i o), (4, fz_i j), (5, fz_i n)]) kX11_shift rfl (by decide) rfl ?_
                                    have lp63 : ∀ (n62 : Nat) (x58 : Int) (H59 : fz_H), fz_Iv H59 → fz_fr [(85, 99999)] h H59 → (0 ≤ x58 ∧ x58 ≤ 2147483647) → (n - x58).toNat < n62 → fz_R 2 mX11_shift 188 [(6, fz_i x58), (0, fz_r 53), (1, fz_i s), (2, fz_i i), (3, fz_i o), (4, fz_i j), (5, fz_i n)] [] H59 (qX11_shift h s i o j n) := by
                                      intro n62
                                      induction n62 with
                                      | zero => intro x58 H59 hI60 hf61 hv66 hm65; exact absurd hm65 (by omega)
                                      | succ n62 ih64 =>
                                        intro x58 H59 hI60 hf61 hv66 hm65
                                        refine fz_iload kX11_shift rfl rfl ?_
                                        refine fz_iload kX11_shift rfl rfl ?_
                                        refine fz_icmp_ge (tgt := 230) kX11_shift rfl (by decide) (fun c67 => ?_) (fun c67 => ?_)
                                        · refine fz_iload kX11_shift rfl rfl ?_
                                          exact fz_iret kX11_shift rfl rfl (fun _ => ⟨hI60, hf61, _, rfl, (by omega)⟩)
                                        · refine fz_aload_n kX11_shift rfl rfl ?_
                                          refine fz_getR (t := 85) kX11_shift rfl rfl ?_
                                          refine fz_bipush ⟨by decide, by decide⟩ kX11_shift rfl ?_
                                          refine fz_iload_n kX11_shift rfl rfl ?_
                                          refine fz_imulN kX11_shift rfl (by omega) ?_
                                          refine fz_iload kX11_shift rfl rfl ?_
                                          refine fz_iaddN kX11_shift rfl (by omega) ?_
                                          refine fz_iload kX11_shift rfl rfl ?_
                                          refine fz_iaddN kX11_shift rfl (by omega) ?_
                                          refine fz_aload_n kX11_shift rfl rfl ?_
                                          refine fz_getR (t := 85) kX11_shift rfl rfl ?_
                                          refine fz_bipush ⟨by decide, by decide⟩ kX11_shift rfl ?_
                                          refine fz_iload_n kX11_shift rfl rfl ?_
                                          refine fz_imulN kX11_shift rfl (by omega) ?_
                                          refine fz_iload_n kX11_shift rfl rfl ?_
                                          refine fz_iaddN kX11_shift rfl (by omega) ?_
                                          refine fz_iload kX11_shift rfl rfl ?_
                                          refine fz_iaddN kX11_shift rfl (by omega) ?_
                                          obtain ⟨v68, e69⟩ : ∃ z, H59 85 ((((60 * s) + i) + x58).toNat) = z := ⟨_, rfl⟩
                                          refine fz_laldV (n := 360) (v := v68) kX11_shift rfl rfl (by omega) (by omega) e69 ?_
                                          have b70 : (-9223372036854775808) ≤ v68 ∧ v68 ≤ 9223372036854775807 := by rw [← e69]; exact hI60.1 85 _
                                          refine fz_last (n := 360) kX11_shift rfl rfl (by omega) (by omega) ?_
                                          refine fz_nmu (S := [(85, 99999)]) (h0 := h) (fz_Iv_up hI60 (by decide) (show (-9223372036854775808) ≤ v68 by omega) (show v68 ≤ 9223372036854775807 by omega)) (fz_fr_up hf61 rfl) (fun H71 hI72 hf73 e74 => ?_)
                                          clear e74
                                          refine fz_iincN (ls' := [(6, fz_i (x58 + 1)), (0, fz_r 53), (1, fz_i s), (2, fz_i i), (3, fz_i o), (4, fz_i j), (5, fz_i n)]) kX11_shift rfl (by decide) rfl (by omega) rfl ?_
                                          refine fz_goto (tgt := 188) kX11_shift rfl (by decide) ?_
                                          exact ih64 (x58 + 1) H71 hI72 hf73 (by omega) (by omega)
                                    exact lp63 _ 0 h hI hf (by omega) (Nat.lt_succ_self _)
                                  · refine fz_iload_n kX11_shift rfl rfl ?_
                                    refine fz_iload kX11_shift rfl rfl ?_
                                    refine fz_icmp_ge (tgt := 185) kX11_shift rfl (by decide) (fun c75 => ?_) (fun c75 => ?_)
                                    · refine fz_iconst ⟨by decide, by decide⟩ kX11_shift rfl ?_
                                      refine fz_istore (ls' := [(6, fz_i 0), (0, fz_r 53), (1, fz_i s), (2, fz_i i), (3, fz_i o), (4, fz_i j), (5, fz_i n)]) kX11_shift rfl (by decide) rfl ?_
                                      have lp81 : ∀ (n80 : Nat) (x76 : Int) (H77 : fz_H), fz_Iv H77 → fz_fr [(85, 99999)] h H77 → (0 ≤ x76 ∧ x76 ≤ 2147483647) → (n - x76).toNat < n80 → fz_R 2 mX11_shift 188 [(6, fz_i x76), (0, fz_r 53), (1, fz_i s), (2, fz_i i), (3, fz_i o), (4, fz_i j), (5, fz_i n)] [] H77 (qX11_shift h s i o j n) := by
                                        intro n80
                                        induction n80 with
                                        | zero => intro x76 H77 hI78 hf79 hv84 hm83; exact absurd hm83 (by omega)
                                        | succ n80 ih82 =>
                                          intro x76 H77 hI78 hf79 hv84 hm83
                                          refine fz_iload kX11_shift rfl rfl ?_
                                          refine fz_iload kX11_shift rfl rfl ?_
                                          refine fz_icmp_ge (tgt := 230) kX11_shift rfl (by decide) (fun c85 => ?_) (fun c85 => ?_)
                                          · refine fz_iload kX11_shift rfl rfl ?_
                                            exact fz_iret kX11_shift rfl rfl (fun _ => ⟨hI78, hf79, _, rfl, (by omega)⟩)
                                          · refine fz_aload_n kX11_shift rfl rfl ?_
                                            refine fz_getR (t := 85) kX11_shift rfl rfl ?_
                                            refine fz_bipush ⟨by decide, by decide⟩ kX11_shift rfl ?_
                                            refine fz_iload_n kX11_shift rfl rfl ?_
                                            refine fz_imulN kX11_shift rfl (by omega) ?_
                                            refine fz_iload kX11_shift rfl rfl ?_
                                            refine fz_iaddN kX11_shift rfl (by omega) ?_
                                            refine fz_iload kX11_shift rfl rfl ?_
                                            refine fz_iaddN kX11_shift rfl (by omega) ?_
                                            refine fz_aload_n kX11_shift rfl rfl ?_
                                            refine fz_getR (t := 85) kX11_shift rfl rfl ?_
                                            refine fz_bipush ⟨by decide, by decide⟩ kX11_shift rfl ?_
                                            refine fz_iload_n kX11_shift rfl rfl ?_
                                            refine fz_imulN kX11_shift rfl (by omega) ?_
                                            refine fz_iload_n kX11_shift rfl rfl ?_
                                            refine fz_iaddN kX11_shift rfl (by omega) ?_
                                            refine fz_iload kX11_shift rfl rfl ?_
                                            refine fz_iaddN kX11_shift rfl (by omega) ?_
                                            obtain ⟨v86, e87⟩ : ∃ z, H77 85 ((((60 * s) + i) + x76).toNat) = z := ⟨_, rfl⟩
                                            refine fz_laldV (n := 360) (v := v86) kX11_shift rfl rfl (by omega) (by omega) e87 ?_
                                            have b88 : (-9223372036854775808) ≤ v86 ∧ v86 ≤ 9223372036854775807 := by rw [← e87]; exact hI78.1 85 _
                                            refine fz_last (n := 360) kX11_shift rfl rfl (by omega) (by omega) ?_
                                            refine fz_nmu (S := [(85, 99999)]) (h0 := h) (fz_Iv_up hI78 (by decide) (show (-9223372036854775808) ≤ v86 by omega) (show v86 ≤ 9223372036854775807 by omega)) (fz_fr_up hf79 rfl) (fun H89 hI90 hf91 e92 => ?_)
                                            clear e92
                                            refine fz_iincN (ls' := [(6, fz_i (x76 + 1)), (0, fz_r 53), (1, fz_i s), (2, fz_i i), (3, fz_i o), (4, fz_i j), (5, fz_i n)]) kX11_shift rfl (by decide) rfl (by omega) rfl ?_
                                            refine fz_goto (tgt := 188) kX11_shift rfl (by decide) ?_
                                            exact ih82 (x76 + 1) H89 hI90 hf91 (by omega) (by omega)
                                      exact lp81 _ 0 h hI hf (by omega) (Nat.lt_succ_self _)
                                    · refine fz_iload kX11_shift rfl rfl ?_
                                      refine fz_iconst ⟨by decide, by decide⟩ kX11_shift rfl ?_
                                      refine fz_isubN kX11_shift rfl (by omega) ?_
                                      refine fz_istore (ls' := [(6, fz_i (n - 1)), (0, fz_r 53), (1, fz_i s), (2, fz_i i), (3, fz_i o), (4, fz_i j), (5, fz_i n)]) kX11_shift rfl (by decide) rfl ?_
                                      have lp98 : ∀ (n97 : Nat) (x93 : Int) (H94 : fz_H), fz_Iv H94 → fz_fr [(85, 99999)] h H94 → ((-2147483648) ≤ x93 ∧ x93 ≤ 59) → (x93 < n) → (x93 + 1 - 0).toNat < n97 → fz_R 2 mX11_shift 142 [(6, fz_i x93), (0, fz_r 53), (1, fz_i s), (2, fz_i i), (3, fz_i o), (4, fz_i j), (5, fz_i n)] [] H94 (qX11_shift h s i o j n) := by
                                        intro n97
                                        induction n97 with
                                        | zero => intro x93 H94 hI95 hf96 hv101 hv102 hm100; exact absurd hm100 (by omega)
                                        | succ n97 ih99 =>
                                          intro x93 H94 hI95 hf96 hv101 hv102 hm100
                                          refine fz_iload kX11_shift rfl rfl ?_
                                          refine fz_if_lt (tgt := 182) kX11_shift rfl (by decide) (fun c103 => ?_) (fun c103 => ?_)
                                          · refine fz_goto (tgt := 230) kX11_shift rfl (by decide) ?_
                                            refine fz_iload kX11_shift rfl rfl ?_
                                            exact fz_iret kX11_shift rfl rfl (fun _ => ⟨hI95, hf96, _, rfl, (by omega)⟩)
                                          · refine fz_aload_n kX11_shift rfl rfl ?_
                                            refine fz_getR (t := 85) kX11_shift rfl rfl ?_
                                            refine fz_bipush ⟨by decide, by decide⟩ kX11_shift rfl ?_
                                            refine fz_iload_n kX11_shift rfl rfl ?_
                                            refine fz_imulN kX11_shift rfl (by omega) ?_
                                            refine fz_iload kX11_shift rfl rfl ?_
                                            refine fz_iaddN kX11_shift rfl (by omega) ?_
                                            refine fz_iload kX11_shift rfl rfl ?_
                                            refine fz_iaddN kX11_shift rfl (by omega) ?_
                                            refine fz_aload_n kX11_shift rfl rfl ?_
                                            refine fz_getR (t := 85) kX11_shift rfl rfl ?_
                                            refine fz_bipush ⟨by decide, by decide⟩ kX11_shift rfl ?_
                                            refine fz_iload_n kX11_shift rfl rfl ?_
                                            refine fz_imulN kX11_shift rfl (by omega) ?_
                                            refine fz_iload_n kX11_shift rfl rfl ?_
                                            refine fz_iaddN kX11_shift rfl (by omega) ?_
                                            refine fz_iload kX11_shift rfl rfl ?_
                                            refine fz_iaddN kX11_shift rfl (by omega) ?_
                                            obtain ⟨v104, e105⟩ : ∃ z, H94 85 ((((60 * s) + i) + x93).toNat) = z := ⟨_, rfl⟩
                                            refine fz_laldV (n := 360) (v := v104) kX11_shift rfl rfl (by omega) (by omega) e105 ?_
                                            have b106 : (-9223372036854775808) ≤ v104 ∧ v104 ≤ 9223372036854775807 := by rw [← e105]; exact hI95.1 85 _
                                            refine fz_last (n := 360) kX11_shift rfl rfl (by omega) (by omega) ?_
                                            refine fz_nmu (S := [(85, 99999)]) (h0 := h) (fz_Iv_up hI95 (by decide) (show (-9223372036854775808) ≤ v104 by omega) (show v104 ≤ 9223372036854775807 by omega)) (fz_fr_up hf96 rfl) (fun H107 hI108 hf109 e110 => ?_)
                                            clear e110
                                            refine fz_iincN (ls' := [(6, fz_i (x93 + (-1))), (0, fz_r 53), (1, fz_i s), (2, fz_i i), (3, fz_i o), (4, fz_i j), (5, fz_i n)]) kX11_shift rfl (by decide) rfl (by omega) rfl ?_
                                            refine fz_goto (tgt := 142) kX11_shift rfl (by decide) ?_
                                            exact ih99 (x93 + (-1)) H107 hI108 hf109 (by omega) (by omega) (by omega)
                                      exact lp98 _ (n - 1) h hI hf (by omega) (by omega) (Nat.lt_succ_self _)
                                · refine fz_bipush ⟨by decide, by decide⟩ kX11_shift rfl ?_
                                  exact fz_iret kX11_shift rfl rfl (fun _ => ⟨hI, hf, _, rfl, (by omega)⟩)
                      · refine fz_bipush ⟨by decide, by decide⟩ kX11_shift rfl ?_
                        exact fz_iret kX11_shift rfl rfl (fun _ => ⟨hI, hf, _, rfl, (by omega)⟩)
                  · refine fz_if_eq (tgt := 70) kX11_shift rfl (by decide) (fun c111 => ?_) (fun c111 => ?_)
                    · refine fz_bipush ⟨by decide, by decide⟩ kX11_shift rfl ?_
                      exact fz_iret kX11_shift rfl rfl (fun _ => ⟨hI, hf, _, rfl, (by omega)⟩)
                    · exfalso; omega
              · refine fz_if_eq (tgt := 70) kX11_shift rfl (by decide) (fun c112 => ?_) (fun c112 => ?_)
                · refine fz_bipush ⟨by decide, by decide⟩ kX11_shift rfl ?_
                  exact fz_iret kX11_shift rfl rfl (fun _ => ⟨hI, hf, _, rfl, (by omega)⟩)
                · exfalso; omega
            · refine fz_bipush ⟨by decide, by decide⟩ kX11_shift rfl ?_
              exact fz_iret kX11_shift rfl rfl (fun _ => ⟨hI, hf, _, rfl, (by omega)⟩)
        · exfalso; omega
      · refine fz_if_ne (tgt := 16) kX11_shift rfl (by decide) (fun c113 => ?_) (fun c113 => ?_)
        · exfalso; omega
        · refine fz_iconst ⟨by decide, by decide⟩ kX11_shift rfl ?_
          exact fz_iret kX11_shift rfl rfl (fun _ => ⟨hI, hf, _, rfl, (by omega)⟩)
  · refine fz_if_eq (tgt := 14) kX11_shift rfl (by decide) (fun c114 => ?_) (fun c114 => ?_)
    · refine fz_iconst ⟨by decide, by decide⟩ kX11_shift rfl ?_
      exact fz_iret kX11_shift rfl rfl (fun _ => ⟨hI, hf, _, rfl, (by omega)⟩)
    · exfalso; omega

abbrev qX11_taken (h : fz_H) (s k : Int) : fz_H → Option fz_V → Prop := fun h' r0 => h' = h ∧ ∃ r : Int, r0 = some (fz_i r) ∧ ((-12) ≤ r ∧ r ≤ 7)
set_option maxHeartbeats 1000000 in
set_option maxRecDepth 100000 in
theorem sX11_taken (h : fz_H) (hI : fz_Iv h) (s k : Int) (hXh : fz_Xh h) : fz_R 2 mX11_taken 0 [(0, fz_r 53), (1, fz_i s), (2, fz_i k)] [] h (qX11_taken h s k) := by
  refine fz_knowl (fun hk => ?_)
  have hr_s : -2147483648 ≤ s ∧ s < 2147483648 := hk _ (List.Mem.tail _ (List.Mem.head _))
  have hr_k : -2147483648 ≤ k ∧ k < 2147483648 := hk _ (List.Mem.tail _ (List.Mem.tail _ (List.Mem.head _)))
  clear hk
  refine fz_iload_n kX11_taken rfl rfl ?_
  refine fz_callS (d' := 1) (M' := mX11_isShelf) (As := [fz_i s]) (st := []) kX11_taken rfl rfl vX11_isShelf rfl rfl (Nat.le_of_ble_eq_true rfl) (Nat.le_of_ble_eq_true rfl) (by decide) (sX11_isShelf h hI s ) (fun H1 r2 q3 o4 => ?_)
  obtain ⟨e5, y6, rfl, p7⟩ := q3
  subst H1
  clear o4
  rcases p7 with ⟨rfl, c8⟩ | ⟨rfl, c8⟩
  · refine fz_if_eq (tgt := 17) kX11_taken rfl (by decide) (fun c9 => ?_) (fun c9 => ?_)
    · exfalso; omega
    · refine fz_iload_n kX11_taken rfl rfl ?_
      refine fz_iconst ⟨by decide, by decide⟩ kX11_taken rfl ?_
      refine fz_bipush ⟨by decide, by decide⟩ kX11_taken rfl ?_
      refine fz_callS (d' := 0) (M' := mX11_within) (As := [fz_i k, fz_i 0, fz_i 7]) (st := []) kX11_taken rfl rfl vX11_within rfl rfl (Nat.le_of_ble_eq_true rfl) (Nat.le_of_ble_eq_true rfl) (by decide) (sX11_within h hI k 0 7 ) (fun H10 r11 q12 o13 => ?_)
      obtain ⟨e14, y15, rfl, p16⟩ := q12
      subst H10
      clear o13
      rcases p16 with ⟨rfl, c17⟩ | ⟨rfl, c17⟩
      · refine fz_if_ne (tgt := 19) kX11_taken rfl (by decide) (fun c18 => ?_) (fun c18 => ?_)
        · refine fz_aload_n kX11_taken rfl rfl ?_
          refine fz_getR (t := 83) kX11_taken rfl rfl ?_
          refine fz_iload_n kX11_taken rfl rfl ?_
          refine fz_ialdV (n := 6) (v := h 83 (s.toNat)) kX11_taken rfl rfl (by omega) (by omega) rfl ?_
          have b19 : (-1) ≤ h 83 (s.toNat) ∧ h 83 (s.toNat) ≤ 59 := hI.1 83 _
          refine fz_iconst ⟨by decide, by decide⟩ kX11_taken rfl ?_
          refine fz_icmp_ne (tgt := 32) kX11_taken rfl (by decide) (fun c20 => ?_) (fun c20 => ?_)
          · refine fz_aload_n kX11_taken rfl rfl ?_
            refine fz_iload_n kX11_taken rfl rfl ?_
            refine fz_callV (d' := 1) (M' := mX11_isRow) (As := [fz_i s]) (st := []) kX11_taken rfl rfl vX11_isRow rfl rfl rfl rfl (Nat.le_of_ble_eq_true rfl) (Nat.le_of_ble_eq_true rfl) (by decide) (sX11_isRow h hI s (by omega)) (fun H21 r22 q23 o24 => ?_)
            obtain ⟨e25, y26, rfl, p27⟩ := q23
            subst H21
            clear o24
            rcases p27 with ⟨rfl, c28⟩ | ⟨rfl, c28⟩
            · refine fz_if_eq (tgt := 43) kX11_taken rfl (by decide) (fun c29 => ?_) (fun c29 => ?_)
              · exfalso; omega
              · refine fz_bipush ⟨by decide, by decide⟩ kX11_taken rfl ?_
                exact fz_iret kX11_taken rfl rfl (fun _ => ⟨rfl, _, rfl, (by omega)⟩)
            · refine fz_if_eq (tgt := 43) kX11_taken rfl (by decide) (fun c30 => ?_) (fun c30 => ?_)
              · have k31 := hXh s.toNat
                refine fz_aload_n kX11_taken rfl rfl ?_
                refine fz_getR (t := 81) kX11_taken rfl rfl ?_
                refine fz_aload_n kX11_taken rfl rfl ?_
                refine fz_getR (t := 83) kX11_taken rfl rfl ?_
                refine fz_iload_n kX11_taken rfl rfl ?_
                refine fz_ialdV (n := 6) (v := h 83 (s.toNat)) kX11_taken rfl rfl (by omega) (by omega) rfl ?_
                refine fz_bipush ⟨by decide, by decide⟩ kX11_taken rfl ?_
                refine fz_isubN kX11_taken rfl (by omega) ?_
                refine fz_ialdV (n := 50) (v := h 81 (((h 83 (s.toNat)) - 10).toNat)) kX11_taken rfl rfl (by omega) (by omega) rfl ?_
                have b32 : 0 ≤ h 81 (((h 83 (s.toNat)) - 10).toNat) ∧ h 81 (((h 83 (s.toNat)) - 10).toNat) ≤ 7 := hI.1 81 _
                refine fz_istore_n (ls' := [(3, fz_i (h 81 (((h 83 (s.toNat)) - 10).toNat))), (0, fz_r 53), (1, fz_i s), (2, fz_i k)]) kX11_taken rfl (by decide) rfl ?_
                refine fz_iload_n kX11_taken rfl rfl ?_
                refine fz_istore (ls' := [(4, fz_i (h 81 (((h 83 (s.toNat)) - 10).toNat))), (3, fz_i (h 81 (((h 83 (s.toNat)) - 10).toNat))), (0, fz_r 53), (1, fz_i s), (2, fz_i k)]) kX11_taken rfl (by decide) rfl ?_
                have lp35 : ∀ (n34 : Nat) (x33 : Int), ((-2147483648) ≤ x33 ∧ x33 ≤ 2147483647) → (x33).toNat < n34 → fz_R 2 mX11_taken 61 [(4, fz_i x33), (3, fz_i (h 81 (((h 83 (s.toNat)) - 10).toNat))), (0, fz_r 53), (1, fz_i s), (2, fz_i k)] [] h (qX11_taken h s k) := by
                  intro n34
                  induction n34 with
                  | zero => intro x33 hv38 hm37; exact absurd hm37 (by omega)
                  | succ n34 ih36 =>
                    intro x33 hv38 hm37
                    refine fz_iload kX11_taken rfl rfl ?_
                    refine fz_iload_n kX11_taken rfl rfl ?_
                    refine fz_icmp_eq (tgt := 82) kX11_taken rfl (by decide) (fun c39 => ?_) (fun c39 => ?_)
                    · refine fz_iload kX11_taken rfl rfl ?_
                      refine fz_iload_n kX11_taken rfl rfl ?_
                      refine fz_icmp_ne (tgt := 92) kX11_taken rfl (by decide) (fun c40 => ?_) (fun c40 => ?_)
                      · refine fz_bipush ⟨by decide, by decide⟩ kX11_taken rfl ?_
                        exact fz_iret kX11_taken rfl rfl (fun _ => ⟨rfl, _, rfl, (by omega)⟩)
                      · refine fz_iload_n kX11_taken rfl rfl ?_
                        refine fz_goto (tgt := 94) kX11_taken rfl (by decide) ?_
                        exact fz_iret kX11_taken rfl rfl (fun _ => ⟨rfl, _, rfl, (by omega)⟩)
                    · refine fz_iload kX11_taken rfl rfl ?_
                      refine fz_if_le (tgt := 82) kX11_taken rfl (by decide) (fun c41 => ?_) (fun c41 => ?_)
                      · refine fz_iload kX11_taken rfl rfl ?_
                        refine fz_iload_n kX11_taken rfl rfl ?_
                        refine fz_icmp_ne (tgt := 92) kX11_taken rfl (by decide) (fun c42 => ?_) (fun c42 => ?_)
                        · refine fz_bipush ⟨by decide, by decide⟩ kX11_taken rfl ?_
                          exact fz_iret kX11_taken rfl rfl (fun _ => ⟨rfl, _, rfl, (by omega)⟩)
                        · refine fz_iload_n kX11_taken rfl rfl ?_
                          refine fz_goto (tgt := 94) kX11_taken rfl (by decide) ?_
                          exact fz_iret kX11_taken rfl rfl (fun _ => ⟨rfl, _, rfl, (by omega)⟩)
                      · refine fz_iload kX11_taken rfl rfl ?_
                        refine fz_callS (d' := 0) (M' := mX11_above) (As := [fz_i x33]) (st := []) kX11_taken rfl rfl vX11_above rfl rfl (Nat.le_of_ble_eq_true rfl) (Nat.le_of_ble_eq_true rfl) (by decide) (sX11_above h hI x33 ) (fun H43 r44 q45 o46 => ?_)
                        obtain ⟨e47, y50, rfl, f48, f49⟩ := q45
                        subst H43
                        clear o46
                        refine fz_istore (ls' := [(4, fz_i y50), (3, fz_i (h 81 (((h 83 (s.toNat)) - 10).toNat))), (0, fz_r 53), (1, fz_i s), (2, fz_i k)]) kX11_taken rfl (by decide) rfl ?_
                        refine fz_goto (tgt := 61) kX11_taken rfl (by decide) ?_
                        exact ih36 y50 (by omega) (by omega)
                exact lp35 _ (h 81 (((h 83 (s.toNat)) - 10).toNat)) (by omega) (Nat.lt_succ_self _)
              · exfalso; omega
          · refine fz_bipush ⟨by decide, by decide⟩ kX11_taken rfl ?_
            exact fz_iret kX11_taken rfl rfl (fun _ => ⟨rfl, _, rfl, (by omega)⟩)
        · exfalso; omega
      · refine fz_if_ne (tgt := 19) kX11_taken rfl (by decide) (fun c51 => ?_) (fun c51 => ?_)
        · exfalso; omega
        · refine fz_iconst ⟨by decide, by decide⟩ kX11_taken rfl ?_
          exact fz_iret kX11_taken rfl rfl (fun _ => ⟨rfl, _, rfl, (by omega)⟩)
  · refine fz_if_eq (tgt := 17) kX11_taken rfl (by decide) (fun c52 => ?_) (fun c52 => ?_)
    · refine fz_iconst ⟨by decide, by decide⟩ kX11_taken rfl ?_
      exact fz_iret kX11_taken rfl rfl (fun _ => ⟨rfl, _, rfl, (by omega)⟩)
    · exfalso; omega

abbrev qX11_count (h : fz_H) (wh : Int) : fz_H → Option fz_V → Prop := fun h' r0 => h' = h ∧ ∃ r : Int, r0 = some (fz_i r) ∧ ((-1) ≤ r ∧ r ≤ 1000)
set_option maxHeartbeats 1000000 in
set_option maxRecDepth 100000 in
theorem sX11_count (h : fz_H) (hI : fz_Iv h) (wh : Int) : fz_R 0 mX11_count 0 [(0, fz_r 53), (1, fz_i wh)] [] h (qX11_count h wh) := by
  refine fz_knowl (fun hk => ?_)
  have hr_wh : -2147483648 ≤ wh ∧ wh < 2147483648 := hk _ (List.Mem.tail _ (List.Mem.head _))
  clear hk
  refine fz_iload_n kX11_count rfl rfl ?_
  rcases (show wh = 0 ∨ wh = 1 ∨ wh = 2 ∨ wh = 3 ∨ wh = 4 ∨ wh = 5 ∨ wh = 6 ∨ (wh < 0 ∨ 6 < wh) by omega) with c1 | c1 | c1 | c1 | c1 | c1 | c1 | c1
  · refine fz_tswC (j := 0) (tgt := 44) kX11_count rfl c1 (by decide) (by decide) rfl (by decide) ?_
    refine fz_aload_n kX11_count rfl rfl ?_
    refine fz_getV (v := h 53 0) kX11_count rfl rfl rfl ?_
    have b2 : 0 ≤ h 53 0 ∧ h 53 0 ≤ 8 := hI.1 53 _
    exact fz_iret kX11_count rfl rfl (fun _ => ⟨rfl, _, rfl, (by omega)⟩)
  · refine fz_tswC (j := 1) (tgt := 49) kX11_count rfl c1 (by decide) (by decide) rfl (by decide) ?_
    refine fz_aload_n kX11_count rfl rfl ?_
    refine fz_getV (v := h 53 2) kX11_count rfl rfl rfl ?_
    have b3 : 0 ≤ h 53 2 ∧ h 53 2 ≤ 12 := hI.1 53 _
    exact fz_iret kX11_count rfl rfl (fun _ => ⟨rfl, _, rfl, (by omega)⟩)
  · refine fz_tswC (j := 2) (tgt := 54) kX11_count rfl c1 (by decide) (by decide) rfl (by decide) ?_
    refine fz_aload_n kX11_count rfl rfl ?_
    refine fz_getV (v := h 53 10) kX11_count rfl rfl rfl ?_
    have b4 : 0 ≤ h 53 10 ∧ h 53 10 ≤ 11 := hI.1 53 _
    exact fz_iret kX11_count rfl rfl (fun _ => ⟨rfl, _, rfl, (by omega)⟩)
  · refine fz_tswC (j := 3) (tgt := 59) kX11_count rfl c1 (by decide) (by decide) rfl (by decide) ?_
    refine fz_aload_n kX11_count rfl rfl ?_
    refine fz_getV (v := h 53 16) kX11_count rfl rfl rfl ?_
    have b5 : 0 ≤ h 53 16 ∧ h 53 16 ≤ 120 := hI.1 53 _
    exact fz_iret kX11_count rfl rfl (fun _ => ⟨rfl, _, rfl, (by omega)⟩)
  · refine fz_tswC (j := 4) (tgt := 64) kX11_count rfl c1 (by decide) (by decide) rfl (by decide) ?_
    refine fz_aload_n kX11_count rfl rfl ?_
    refine fz_getV (v := h 53 42) kX11_count rfl rfl rfl ?_
    have b6 : 0 ≤ h 53 42 ∧ h 53 42 ≤ 40 := hI.1 53 _
    exact fz_iret kX11_count rfl rfl (fun _ => ⟨rfl, _, rfl, (by omega)⟩)
  · refine fz_tswC (j := 5) (tgt := 69) kX11_count rfl c1 (by decide) (by decide) rfl (by decide) ?_
    refine fz_aload_n kX11_count rfl rfl ?_
    refine fz_getV (v := h 53 44) kX11_count rfl rfl rfl ?_
    have b7 : 0 ≤ h 53 44 ∧ h 53 44 ≤ 50 := hI.1 53 _
    exact fz_iret kX11_count rfl rfl (fun _ => ⟨rfl, _, rfl, (by omega)⟩)
  · refine fz_tswC (j := 6) (tgt := 74) kX11_count rfl c1 (by decide) (by decide) rfl (by decide) ?_
    refine fz_aload_n kX11_count rfl rfl ?_
    refine fz_getV (v := h 53 46) kX11_count rfl rfl rfl ?_
    have b8 : 0 ≤ h 53 46 ∧ h 53 46 ≤ 1000 := hI.1 53 _
    exact fz_iret kX11_count rfl rfl (fun _ => ⟨rfl, _, rfl, (by omega)⟩)
  · refine fz_tswO (tgt := 79) kX11_count rfl c1 (by decide) ?_
    refine fz_iconst ⟨by decide, by decide⟩ kX11_count rfl ?_
    exact fz_iret kX11_count rfl rfl (fun _ => ⟨rfl, _, rfl, (by omega)⟩)

abbrev qX11_deeds (h : fz_H) (s i n : Int) : fz_H → Option fz_V → Prop := fun h' r0 => fz_Iv h' ∧ fz_fr [(53, 10), (60, 99999), (61, 99999), (62, 99999), (63, 99999), (64, 99999)] h h' ∧ ∃ r : Int, r0 = some (fz_i r) ∧ ((-12) ≤ r ∧ r ≤ 10) ∧ (h' 53 10 ≤ 10)
set_option maxHeartbeats 1000000 in
set_option maxRecDepth 100000 in
theorem sX11_deeds (h : fz_H) (hI : fz_Iv h) (s i n : Int) (hp0 : h 53 10 ≤ 10) : fz_R 2 mX11_deeds 0 [(0, fz_r 53), (1, fz_i s), (2, fz_i i), (3, fz_i n)] [] h (qX11_deeds h s i n) := by
  refine fz_knowl (fun hk => ?_)
  have hr_s : -2147483648 ≤ s ∧ s < 2147483648 := hk _ (List.Mem.tail _ (List.Mem.head _))
  have hr_i : -2147483648 ≤ i ∧ i < 2147483648 := hk _ (List.Mem.tail _ (List.Mem.tail _ (List.Mem.head _)))
  have hr_n : -2147483648 ≤ n ∧ n < 2147483648 := hk _ (List.Mem.tail _ (List.Mem.tail _ (List.Mem.tail _ (List.Mem.head _))))
  clear hk
  have hf : fz_fr [(53, 10), (60, 99999), (61, 99999), (62, 99999), (63, 99999), (64, 99999)] h h := fz_fr_rf
  have b1 : 0 ≤ h 53 10 ∧ h 53 10 ≤ 11 := hI.1 53 _
  refine fz_iload_n kX11_deeds rfl rfl ?_
  refine fz_callS (d' := 1) (M' := mX11_isShelf) (As := [fz_i s]) (st := []) kX11_deeds rfl rfl vX11_isShelf rfl rfl (Nat.le_of_ble_eq_true rfl) (Nat.le_of_ble_eq_true rfl) (by decide) (sX11_isShelf h hI s ) (fun H2 r3 q4 o5 => ?_)
  obtain ⟨e6, y7, rfl, p8⟩ := q4
  subst H2
  clear o5
  rcases p8 with ⟨rfl, c9⟩ | ⟨rfl, c9⟩
  · refine fz_if_eq (tgt := 17) kX11_deeds rfl (by decide) (fun c10 => ?_) (fun c10 => ?_)
    · exfalso; omega
    · refine fz_iload_n kX11_deeds rfl rfl ?_
      refine fz_iconst ⟨by decide, by decide⟩ kX11_deeds rfl ?_
      refine fz_bipush ⟨by decide, by decide⟩ kX11_deeds rfl ?_
      refine fz_callS (d' := 0) (M' := mX11_within) (As := [fz_i n, fz_i 1, fz_i 10]) (st := []) kX11_deeds rfl rfl vX11_within rfl rfl (Nat.le_of_ble_eq_true rfl) (Nat.le_of_ble_eq_true rfl) (by decide) (sX11_within h hI n 1 10 ) (fun H11 r12 q13 o14 => ?_)
      obtain ⟨e15, y16, rfl, p17⟩ := q13
      subst H11
      clear o14
      rcases p17 with ⟨rfl, c18⟩ | ⟨rfl, c18⟩
      · refine fz_if_ne (tgt := 19) kX11_deeds rfl (by decide) (fun c19 => ?_) (fun c19 => ?_)
        · refine fz_aload_n kX11_deeds rfl rfl ?_
          refine fz_getR (t := 83) kX11_deeds rfl rfl ?_
          refine fz_iload_n kX11_deeds rfl rfl ?_
          refine fz_ialdV (n := 6) (v := h 83 (s.toNat)) kX11_deeds rfl rfl (by omega) (by omega) rfl ?_
          have b20 : (-1) ≤ h 83 (s.toNat) ∧ h 83 (s.toNat) ≤ 59 := hI.1 83 _
          refine fz_iconst ⟨by decide, by decide⟩ kX11_deeds rfl ?_
          refine fz_icmp_ne (tgt := 31) kX11_deeds rfl (by decide) (fun c21 => ?_) (fun c21 => ?_)
          · refine fz_aload_n kX11_deeds rfl rfl ?_
            refine fz_getR (t := 83) kX11_deeds rfl rfl ?_
            refine fz_iload_n kX11_deeds rfl rfl ?_
            refine fz_ialdV (n := 6) (v := h 83 (s.toNat)) kX11_deeds rfl rfl (by omega) (by omega) rfl ?_
            refine fz_iconst ⟨by decide, by decide⟩ kX11_deeds rfl ?_
            refine fz_icmp_eq (tgt := 44) kX11_deeds rfl (by decide) (fun c22 => ?_) (fun c22 => ?_)
            · refine fz_iconst ⟨by decide, by decide⟩ kX11_deeds rfl ?_
              refine fz_istore (ls' := [(4, fz_i 0), (0, fz_r 53), (1, fz_i s), (2, fz_i i), (3, fz_i n)]) kX11_deeds rfl (by decide) rfl ?_
              refine fz_iconst ⟨by decide, by decide⟩ kX11_deeds rfl ?_
              refine fz_istore (ls' := [(5, fz_i 0), (4, fz_i 0), (0, fz_r 53), (1, fz_i s), (2, fz_i i), (3, fz_i n)]) kX11_deeds rfl (by decide) rfl ?_
              have lp29 : ∀ (n28 : Nat) (x23 : Int) (x24 : Int) (H25 : fz_H), fz_Iv H25 → fz_fr [(53, 10), (60, 99999), (61, 99999), (62, 99999), (63, 99999), (64, 99999)] h H25 → (0 ≤ x23 ∧ x23 ≤ 2147483647) → (0 ≤ x24 ∧ x24 ≤ 10) → (H25 53 10 ≤ 10) → (x24 ≤ x23) → (n - x23).toNat < n28 → fz_R 2 mX11_deeds 50 [(5, fz_i x23), (4, fz_i x24), (0, fz_r 53), (1, fz_i s), (2, fz_i i), (3, fz_i n)] [] H25 (qX11_deeds h s i n) := by
                intro n28
                induction n28 with
                | zero => intro x23 x24 H25 hI26 hf27 hv32 hv33 hv34 hv35 hm31; exact absurd hm31 (by omega)
                | succ n28 ih30 =>
                  intro x23 x24 H25 hI26 hf27 hv32 hv33 hv34 hv35 hm31
                  refine fz_iload kX11_deeds rfl rfl ?_
                  refine fz_iload_n kX11_deeds rfl rfl ?_
                  refine fz_icmp_ge (tgt := 261) kX11_deeds rfl (by decide) (fun c36 => ?_) (fun c36 => ?_)
                  · refine fz_iload kX11_deeds rfl rfl ?_
                    exact fz_iret kX11_deeds rfl rfl (fun _ => ⟨hI26, hf27, _, rfl, (by omega), (by omega)⟩)
                  · refine fz_iload_n kX11_deeds rfl rfl ?_
                    refine fz_i2l kX11_deeds rfl ?_
                    refine fz_ldc2 (x := 5) kX11_deeds rfl rfl rfl ?_
                    refine fz_iload kX11_deeds rfl rfl ?_
                    refine fz_i2l kX11_deeds rfl ?_
                    refine fz_lmulN kX11_deeds rfl (by omega) ?_
                    refine fz_laddN kX11_deeds rfl (by omega) ?_
                    refine fz_lstore (ls' := [(6, fz_l (i + (5 * x23))), (5, fz_i x23), (4, fz_i x24), (0, fz_r 53), (1, fz_i s), (2, fz_i i), (3, fz_i n)]) kX11_deeds rfl (by decide) rfl ?_
                    refine fz_lload kX11_deeds rfl rfl ?_
                    refine fz_lconst (x := 0) ⟨by decide, by decide⟩ rfl kX11_deeds rfl ?_
                    refine fz_lcmp kX11_deeds rfl ?_
                    have b37 := fz_cmp_c (i + (5 * x23)) 0
                    refine fz_if_lt (tgt := 101) kX11_deeds rfl (by decide) (fun c38 => ?_) (fun c38 => ?_)
                    · refine fz_iload kX11_deeds rfl rfl ?_
                      exact fz_iret kX11_deeds rfl rfl (fun _ => ⟨hI26, hf27, _, rfl, (by omega), (by omega)⟩)
                    · refine fz_lload kX11_deeds rfl rfl ?_
                      refine fz_ldc2 (x := 5) kX11_deeds rfl rfl rfl ?_
                      refine fz_laddN kX11_deeds rfl (by omega) ?_
                      refine fz_aload_n kX11_deeds rfl rfl ?_
                      refine fz_getR (t := 84) kX11_deeds rfl rfl ?_
                      refine fz_iload_n kX11_deeds rfl rfl ?_
                      refine fz_ialdV (n := 6) (v := h 84 (s.toNat)) kX11_deeds rfl rfl (by omega) (by omega) (hf27 84 _ rfl) ?_
                      have b39 : 0 ≤ h 84 (s.toNat) ∧ h 84 (s.toNat) ≤ 60 := hI.1 84 _
                      refine fz_i2l kX11_deeds rfl ?_
                      refine fz_lcmp kX11_deeds rfl ?_
                      have b40 := fz_cmp_c ((i + (5 * x23)) + 5) (h 84 (s.toNat))
                      refine fz_if_gt (tgt := 101) kX11_deeds rfl (by decide) (fun c41 => ?_) (fun c41 => ?_)
                      · refine fz_iload kX11_deeds rfl rfl ?_
                        exact fz_iret kX11_deeds rfl rfl (fun _ => ⟨hI26, hf27, _, rfl, (by omega), (by omega)⟩)
                      · refine fz_aload_n kX11_deeds rfl rfl ?_
                        obtain ⟨v42, e43⟩ : ∃ z, H25 53 (10) = z := ⟨_, rfl⟩
                        refine fz_getV (v := v42) kX11_deeds rfl rfl e43 ?_
                        have b44 : 0 ≤ v42 ∧ v42 ≤ 11 := by rw [← e43]; exact hI26.1 53 _
                        refine fz_bipush ⟨by decide, by decide⟩ kX11_deeds rfl ?_
                        refine fz_icmp_ne (tgt := 104) kX11_deeds rfl (by decide) (fun c45 => ?_) (fun c45 => ?_)
                        · refine fz_bipush ⟨by decide, by decide⟩ kX11_deeds rfl ?_
                          refine fz_iload_n kX11_deeds rfl rfl ?_
                          refine fz_imulN kX11_deeds rfl (by omega) ?_
                          refine fz_lload kX11_deeds rfl rfl ?_
                          refine fz_l2i kX11_deeds rfl ?_
                          refine fz_eqi (fz_w_id (by omega) (by omega)) ?_
                          refine fz_iaddN kX11_deeds rfl (by omega) ?_
                          refine fz_istore (ls' := [(8, fz_i ((60 * s) + (i + (5 * x23)))), (6, fz_l (i + (5 * x23))), (5, fz_i x23), (4, fz_i x24), (0, fz_r 53), (1, fz_i s), (2, fz_i i), (3, fz_i n)]) kX11_deeds rfl (by decide) rfl ?_
                          refine fz_aload_n kX11_deeds rfl rfl ?_
                          refine fz_getR (t := 85) kX11_deeds rfl rfl ?_
                          refine fz_iload kX11_deeds rfl rfl ?_
                          refine fz_laldV (n := 360) (v := h 85 (((60 * s) + (i + (5 * x23))).toNat)) kX11_deeds rfl rfl (by omega) (by omega) (hf27 85 _ rfl) ?_
                          have b46 : (-9223372036854775808) ≤ h 85 (((60 * s) + (i + (5 * x23))).toNat) ∧ h 85 (((60 * s) + (i + (5 * x23))).toNat) ≤ 9223372036854775807 := hI.1 85 _
                          refine fz_l2i kX11_deeds rfl ?_
                          have b47 : -2147483648 ≤ (fz_w (h 85 (((60 * s) + (i + (5 * x23))).toNat))) ∧ (fz_w (h 85 (((60 * s) + (i + (5 * x23))).toNat))) < 2147483648 := fz_w_b _
                          refine fz_callS (d' := 1) (M' := mX11_isPerson) (As := [fz_i (fz_w (h 85 (((60 * s) + (i + (5 * x23))).toNat)))]) (st := []) kX11_deeds rfl rfl vX11_isPerson rfl rfl (Nat.le_of_ble_eq_true rfl) (Nat.le_of_ble_eq_true rfl) (by decide) (sX11_isPerson H25 hI26 (fz_w (h 85 (((60 * s) + (i + (5 * x23))).toNat))) ) (fun H48 r49 q50 o51 => ?_)
                          obtain ⟨e52, y53, rfl, p54⟩ := q50
                          subst H48
                          clear o51
                          rcases p54 with ⟨rfl, c55⟩ | ⟨rfl, c55⟩
                          · refine fz_if_eq (tgt := 196) kX11_deeds rfl (by decide) (fun c56 => ?_) (fun c56 => ?_)
                            · exfalso; omega
                            · refine fz_aload_n kX11_deeds rfl rfl ?_
                              refine fz_aload_n kX11_deeds rfl rfl ?_
                              refine fz_getR (t := 85) kX11_deeds rfl rfl ?_
                              refine fz_iload kX11_deeds rfl rfl ?_
                              refine fz_iconst ⟨by decide, by decide⟩ kX11_deeds rfl ?_
                              refine fz_iaddN kX11_deeds rfl (by omega) ?_
                              refine fz_laldV (n := 360) (v := h 85 ((((60 * s) + (i + (5 * x23))) + 1).toNat)) kX11_deeds rfl rfl (by omega) (by omega) (hf27 85 _ rfl) ?_
                              have b57 : (-9223372036854775808) ≤ h 85 ((((60 * s) + (i + (5 * x23))) + 1).toNat) ∧ h 85 ((((60 * s) + (i + (5 * x23))) + 1).toNat) ≤ 9223372036854775807 := hI.1 85 _
                              refine fz_l2i kX11_deeds rfl ?_
                              have b58 : -2147483648 ≤ (fz_w (h 85 ((((60 * s) + (i + (5 * x23))) + 1).toNat))) ∧ (fz_w (h 85 ((((60 * s) + (i + (5 * x23))) + 1).toNat))) < 2147483648 := fz_w_b _
                              have b59 : 0 ≤ h 53 0 ∧ h 53 0 ≤ 8 := hI.1 53 _
                              have e60 : H25 53 0 = h 53 0 := hf27 53 0 rfl
                              refine fz_callV (d' := 1) (M' := mX11_isTown) (As := [fz_i (fz_w (h 85 ((((60 * s) + (i + (5 * x23))) + 1).toNat)))]) (st := []) kX11_deeds rfl rfl vX11_isTown rfl rfl rfl rfl (Nat.le_of_ble_eq_true rfl) (Nat.le_of_ble_eq_true rfl) (by decide) (sX11_isTown H25 hI26 (fz_w (h 85 ((((60 * s) + (i + (5 * x23))) + 1).toNat))) ) (fun H61 r62 q63 o64 => ?_)
                              obtain ⟨e65, y66, rfl, p67⟩ := q63
                              subst H61
                              clear o64
                              rcases p67 with ⟨rfl, c68⟩ | ⟨rfl, c68⟩
                              · refine fz_if_eq (tgt := 196) kX11_deeds rfl (by decide) (fun c69 => ?_) (fun c69 => ?_)
                                · exfalso; omega
                                · refine fz_aload_n kX11_deeds rfl rfl ?_
                                  refine fz_getR (t := 85) kX11_deeds rfl rfl ?_
                                  refine fz_iload kX11_deeds rfl rfl ?_
                                  refine fz_iconst ⟨by decide, by decide⟩ kX11_deeds rfl ?_
                                  refine fz_iaddN kX11_deeds rfl (by omega) ?_
                                  refine fz_laldV (n := 360) (v := h 85 ((((60 * s) + (i + (5 * x23))) + 2).toNat)) kX11_deeds rfl rfl (by omega) (by omega) (hf27 85 _ rfl) ?_
                                  have b70 : (-9223372036854775808) ≤ h 85 ((((60 * s) + (i + (5 * x23))) + 2).toNat) ∧ h 85 ((((60 * s) + (i + (5 * x23))) + 2).toNat) ≤ 9223372036854775807 := hI.1 85 _
                                  refine fz_l2i kX11_deeds rfl ?_
                                  have b71 : -2147483648 ≤ (fz_w (h 85 ((((60 * s) + (i + (5 * x23))) + 2).toNat))) ∧ (fz_w (h 85 ((((60 * s) + (i + (5 * x23))) + 2).toNat))) < 2147483648 := fz_w_b _
                                  refine fz_callS (d' := 1) (M' := mX11_isHour) (As := [fz_i (fz_w (h 85 ((((60 * s) + (i + (5 * x23))) + 2).toNat)))]) (st := []) kX11_deeds rfl rfl vX11_isHour rfl rfl (Nat.le_of_ble_eq_true rfl) (Nat.le_of_ble_eq_true rfl) (by decide) (sX11_isHour H25 hI26 (fz_w (h 85 ((((60 * s) + (i + (5 * x23))) + 2).toNat))) ) (fun H72 r73 q74 o75 => ?_)
                                  obtain ⟨e76, y77, rfl, p78⟩ := q74
                                  subst H72
                                  clear o75
                                  rcases p78 with ⟨rfl, c79⟩ | ⟨rfl, c79⟩
                                  · refine fz_if_eq (tgt := 196) kX11_deeds rfl (by decide) (fun c80 => ?_) (fun c80 => ?_)
                                    · exfalso; omega
                                    · refine fz_aload_n kX11_deeds rfl rfl ?_
                                      refine fz_getR (t := 85) kX11_deeds rfl rfl ?_
                                      refine fz_iload kX11_deeds rfl rfl ?_
                                      refine fz_iconst ⟨by decide, by decide⟩ kX11_deeds rfl ?_
                                      refine fz_iaddN kX11_deeds rfl (by omega) ?_
                                      refine fz_laldV (n := 360) (v := h 85 ((((60 * s) + (i + (5 * x23))) + 3).toNat)) kX11_deeds rfl rfl (by omega) (by omega) (hf27 85 _ rfl) ?_
                                      have b81 : (-9223372036854775808) ≤ h 85 ((((60 * s) + (i + (5 * x23))) + 3).toNat) ∧ h 85 ((((60 * s) + (i + (5 * x23))) + 3).toNat) ≤ 9223372036854775807 := hI.1 85 _
                                      refine fz_l2i kX11_deeds rfl ?_
                                      have b82 : -2147483648 ≤ (fz_w (h 85 ((((60 * s) + (i + (5 * x23))) + 3).toNat))) ∧ (fz_w (h 85 ((((60 * s) + (i + (5 * x23))) + 3).toNat))) < 2147483648 := fz_w_b _
                                      refine fz_callS (d' := 1) (M' := mX11_isMark) (As := [fz_i (fz_w (h 85 ((((60 * s) + (i + (5 * x23))) + 3).toNat)))]) (st := []) kX11_deeds rfl rfl vX11_isMark rfl rfl (Nat.le_of_ble_eq_true rfl) (Nat.le_of_ble_eq_true rfl) (by decide) (sX11_isMark H25 hI26 (fz_w (h 85 ((((60 * s) + (i + (5 * x23))) + 3).toNat))) ) (fun H83 r84 q85 o86 => ?_)
                                      obtain ⟨e87, y88, rfl, p89⟩ := q85
                                      subst H83
                                      clear o86
                                      rcases p89 with ⟨rfl, c90⟩ | ⟨rfl, c90⟩
                                      · refine fz_if_eq (tgt := 196) kX11_deeds rfl (by decide) (fun c91 => ?_) (fun c91 => ?_)
                                        · exfalso; omega
                                        · refine fz_aload_n kX11_deeds rfl rfl ?_
                                          refine fz_getR (t := 85) kX11_deeds rfl rfl ?_
                                          refine fz_iload kX11_deeds rfl rfl ?_
                                          refine fz_iconst ⟨by decide, by decide⟩ kX11_deeds rfl ?_
                                          refine fz_iaddN kX11_deeds rfl (by omega) ?_
                                          refine fz_laldV (n := 360) (v := h 85 ((((60 * s) + (i + (5 * x23))) + 4).toNat)) kX11_deeds rfl rfl (by omega) (by omega) (hf27 85 _ rfl) ?_
                                          have b92 : (-9223372036854775808) ≤ h 85 ((((60 * s) + (i + (5 * x23))) + 4).toNat) ∧ h 85 ((((60 * s) + (i + (5 * x23))) + 4).toNat) ≤ 9223372036854775807 := hI.1 85 _
                                          refine fz_l2i kX11_deeds rfl ?_
                                          have b93 : -2147483648 ≤ (fz_w (h 85 ((((60 * s) + (i + (5 * x23))) + 4).toNat))) ∧ (fz_w (h 85 ((((60 * s) + (i + (5 * x23))) + 4).toNat))) < 2147483648 := fz_w_b _
                                          refine fz_iconst ⟨by decide, by decide⟩ kX11_deeds rfl ?_
                                          refine fz_bipush ⟨by decide, by decide⟩ kX11_deeds rfl ?_
                                          refine fz_callS (d' := 0) (M' := mX11_within) (As := [fz_i (fz_w (h 85 ((((60 * s) + (i + (5 * x23))) + 4).toNat))), fz_i 1, fz_i 9]) (st := []) kX11_deeds rfl rfl vX11_within rfl rfl (Nat.le_of_ble_eq_true rfl) (Nat.le_of_ble_eq_true rfl) (by decide) (sX11_within H25 hI26 (fz_w (h 85 ((((60 * s) + (i + (5 * x23))) + 4).toNat))) 1 9 ) (fun H94 r95 q96 o97 => ?_)
                                          obtain ⟨e98, y99, rfl, p100⟩ := q96
                                          subst H94
                                          clear o97
                                          rcases p100 with ⟨rfl, c101⟩ | ⟨rfl, c101⟩
                                          · refine fz_if_ne (tgt := 199) kX11_deeds rfl (by decide) (fun c102 => ?_) (fun c102 => ?_)
                                            · refine fz_aload_n kX11_deeds rfl rfl ?_
                                              refine fz_aload_n kX11_deeds rfl rfl ?_
                                              refine fz_getR (t := 85) kX11_deeds rfl rfl ?_
                                              refine fz_iload kX11_deeds rfl rfl ?_
                                              refine fz_laldV (n := 360) (v := h 85 (((60 * s) + (i + (5 * x23))).toNat)) kX11_deeds rfl rfl (by omega) (by omega) (hf27 85 _ rfl) ?_
                                              refine fz_l2i kX11_deeds rfl ?_
                                              refine fz_aload_n kX11_deeds rfl rfl ?_
                                              refine fz_getR (t := 85) kX11_deeds rfl rfl ?_
                                              refine fz_iload kX11_deeds rfl rfl ?_
                                              refine fz_iconst ⟨by decide, by decide⟩ kX11_deeds rfl ?_
                                              refine fz_iaddN kX11_deeds rfl (by omega) ?_
                                              refine fz_laldV (n := 360) (v := h 85 ((((60 * s) + (i + (5 * x23))) + 1).toNat)) kX11_deeds rfl rfl (by omega) (by omega) (hf27 85 _ rfl) ?_
                                              refine fz_l2i kX11_deeds rfl ?_
                                              refine fz_aload_n kX11_deeds rfl rfl ?_
                                              refine fz_getR (t := 85) kX11_deeds rfl rfl ?_
                                              refine fz_iload kX11_deeds rfl rfl ?_
                                              refine fz_iconst ⟨by decide, by decide⟩ kX11_deeds rfl ?_
                                              refine fz_iaddN kX11_deeds rfl (by omega) ?_
                                              refine fz_laldV (n := 360) (v := h 85 ((((60 * s) + (i + (5 * x23))) + 2).toNat)) kX11_deeds rfl rfl (by omega) (by omega) (hf27 85 _ rfl) ?_
                                              refine fz_l2i kX11_deeds rfl ?_
                                              refine fz_aload_n kX11_deeds rfl rfl ?_
                                              refine fz_getR (t := 85) kX11_deeds rfl rfl ?_
                                              refine fz_iload kX11_deeds rfl rfl ?_
                                              refine fz_iconst ⟨by decide, by decide⟩ kX11_deeds rfl ?_
                                              refine fz_iaddN kX11_deeds rfl (by omega) ?_
                                              refine fz_laldV (n := 360) (v := h 85 ((((60 * s) + (i + (5 * x23))) + 3).toNat)) kX11_deeds rfl rfl (by omega) (by omega) (hf27 85 _ rfl) ?_
                                              refine fz_l2i kX11_deeds rfl ?_
                                              refine fz_aload_n kX11_deeds rfl rfl ?_
                                              refine fz_getR (t := 85) kX11_deeds rfl rfl ?_
                                              refine fz_iload kX11_deeds rfl rfl ?_
                                              refine fz_iconst ⟨by decide, by decide⟩ kX11_deeds rfl ?_
                                              refine fz_iaddN kX11_deeds rfl (by omega) ?_
                                              refine fz_laldV (n := 360) (v := h 85 ((((60 * s) + (i + (5 * x23))) + 4).toNat)) kX11_deeds rfl rfl (by omega) (by omega) (hf27 85 _ rfl) ?_
                                              refine fz_l2i kX11_deeds rfl ?_
                                              have b103 : 0 ≤ H25 53 10 ∧ H25 53 10 ≤ 11 := hI26.1 53 _
                                              refine fz_callV (d' := 0) (M' := mX11_newDeed) (As := [fz_i (fz_w (h 85 (((60 * s) + (i + (5 * x23))).toNat))), fz_i (fz_w (h 85 ((((60 * s) + (i + (5 * x23))) + 1).toNat))), fz_i (fz_w (h 85 ((((60 * s) + (i + (5 * x23))) + 2).toNat))), fz_i (fz_w (h 85 ((((60 * s) + (i + (5 * x23))) + 3).toNat))), fz_i (fz_w (h 85 ((((60 * s) + (i + (5 * x23))) + 4).toNat)))]) (st := []) kX11_deeds rfl rfl vX11_newDeed rfl rfl rfl rfl (Nat.le_of_ble_eq_true rfl) (Nat.le_of_ble_eq_true rfl) (by decide) (sX11_newDeed H25 hI26 (fz_w (h 85 (((60 * s) + (i + (5 * x23))).toNat))) (fz_w (h 85 ((((60 * s) + (i + (5 * x23))) + 1).toNat))) (fz_w (h 85 ((((60 * s) + (i + (5 * x23))) + 2).toNat))) (fz_w (h 85 ((((60 * s) + (i + (5 * x23))) + 3).toNat))) (fz_w (h 85 ((((60 * s) + (i + (5 * x23))) + 4).toNat))) (by omega) (by omega) (by omega) (by omega) (by omega)) (fun H104 r105 q106 o107 => ?_)
                                              obtain ⟨hI108, hf109, y112, rfl, f110, f111⟩ := q106
                                              clear o107
                                              have hf113 := fz_fr_tr hf27 hf109 (show fz_su [(53, 10), (60, 99999), (61, 99999), (62, 99999), (63, 99999), (64, 99999)] [(53, 10), (60, 99999), (61, 99999), (62, 99999), (63, 99999), (64, 99999)] = true from rfl)
                                              refine fz_pop rfl kX11_deeds rfl ?_
                                              refine fz_iincN (ls' := [(4, fz_i (x24 + 1)), (8, fz_i ((60 * s) + (i + (5 * x23)))), (6, fz_l (i + (5 * x23))), (5, fz_i x23), (0, fz_r 53), (1, fz_i s), (2, fz_i i), (3, fz_i n)]) kX11_deeds rfl (by decide) rfl (by omega) rfl ?_
                                              refine fz_iincN (ls' := [(5, fz_i (x23 + 1)), (4, fz_i (x24 + 1)), (8, fz_i ((60 * s) + (i + (5 * x23)))), (6, fz_l (i + (5 * x23))), (0, fz_r 53), (1, fz_i s), (2, fz_i i), (3, fz_i n)]) kX11_deeds rfl (by decide) rfl (by omega) rfl ?_
                                              refine fz_goto (tgt := 50) kX11_deeds rfl (by decide) ?_
                                              refine fz_sub (fz_pk_sub (ls' := [(5, fz_i (x23 + 1)), (4, fz_i (x24 + 1)), (0, fz_r 53), (1, fz_i s), (2, fz_i i), (3, fz_i n)]) [0, 1, 4, 5, 6, 7] rfl) ?_
                                              exact ih30 (x23 + 1) (x24 + 1) H104 hI108 hf113 (by omega) (by omega) (by omega) (by omega) (by omega)
                                            · exfalso; omega
                                          · refine fz_if_ne (tgt := 199) kX11_deeds rfl (by decide) (fun c114 => ?_) (fun c114 => ?_)
                                            · exfalso; omega
                                            · refine fz_iload kX11_deeds rfl rfl ?_
                                              exact fz_iret kX11_deeds rfl rfl (fun _ => ⟨hI26, hf27, _, rfl, (by omega), (by omega)⟩)
                                      · refine fz_if_eq (tgt := 196) kX11_deeds rfl (by decide) (fun c115 => ?_) (fun c115 => ?_)
                                        · refine fz_iload kX11_deeds rfl rfl ?_
                                          exact fz_iret kX11_deeds rfl rfl (fun _ => ⟨hI26, hf27, _, rfl, (by omega), (by omega)⟩)
                                        · exfalso; omega
                                  · refine fz_if_eq (tgt := 196) kX11_deeds rfl (by decide) (fun c116 => ?_) (fun c116 => ?_)
                                    · refine fz_iload kX11_deeds rfl rfl ?_
                                      exact fz_iret kX11_deeds rfl rfl (fun _ => ⟨hI26, hf27, _, rfl, (by omega), (by omega)⟩)
                                    · exfalso; omega
                              · refine fz_if_eq (tgt := 196) kX11_deeds rfl (by decide) (fun c117 => ?_) (fun c117 => ?_)
                                · refine fz_iload kX11_deeds rfl rfl ?_
                                  exact fz_iret kX11_deeds rfl rfl (fun _ => ⟨hI26, hf27, _, rfl, (by omega), (by omega)⟩)
                                · exfalso; omega
                          · refine fz_if_eq (tgt := 196) kX11_deeds rfl (by decide) (fun c118 => ?_) (fun c118 => ?_)
                            · refine fz_iload kX11_deeds rfl rfl ?_
                              exact fz_iret kX11_deeds rfl rfl (fun _ => ⟨hI26, hf27, _, rfl, (by omega), (by omega)⟩)
                            · exfalso; omega
                        · refine fz_iload kX11_deeds rfl rfl ?_
                          exact fz_iret kX11_deeds rfl rfl (fun _ => ⟨hI26, hf27, _, rfl, (by omega), (by omega)⟩)
              exact lp29 _ 0 0 h hI hf (by omega) (by omega) (by omega) (by omega) (Nat.lt_succ_self _)
            · refine fz_bipush ⟨by decide, by decide⟩ kX11_deeds rfl ?_
              exact fz_iret kX11_deeds rfl rfl (fun _ => ⟨hI, hf, _, rfl, (by omega), (by omega)⟩)
          · refine fz_iconst ⟨by decide, by decide⟩ kX11_deeds rfl ?_
            exact fz_iret kX11_deeds rfl rfl (fun _ => ⟨hI, hf, _, rfl, (by omega), (by omega)⟩)
        · exfalso; omega
      · refine fz_if_ne (tgt := 19) kX11_deeds rfl (by decide) (fun c119 => ?_) (fun c119 => ?_)
        · exfalso; omega
        · refine fz_iconst ⟨by decide, by decide⟩ kX11_deeds rfl ?_
          exact fz_iret kX11_deeds rfl rfl (fun _ => ⟨hI, hf, _, rfl, (by omega), (by omega)⟩)
  · refine fz_if_eq (tgt := 17) kX11_deeds rfl (by decide) (fun c120 => ?_) (fun c120 => ?_)
    · refine fz_iconst ⟨by decide, by decide⟩ kX11_deeds rfl ?_
      exact fz_iret kX11_deeds rfl rfl (fun _ => ⟨hI, hf, _, rfl, (by omega), (by omega)⟩)
    · exfalso; omega
