/-! ===== what the methods keep ===== -/
abbrev qX3_clear (h : fz_H) : fz_H → Option fz_V → Prop := fun h' r0 => fz_Iv h' ∧ fz_fr [(21, 4)] h h' ∧ r0 = none ∧ h' 21 4 = 0
set_option maxHeartbeats 1000000 in
set_option maxRecDepth 100000 in
theorem sX3_clear (h : fz_H) (hI : fz_Iv h) : fz_R 0 mX3_clear 0 [(0, fz_r 21)] [] h (qX3_clear h) := by
  have hf : fz_fr [(21, 4)] h h := fz_fr_rf
  refine fz_aload_n kX3_clear rfl rfl ?_
  refine fz_iconst ⟨by decide, by decide⟩ kX3_clear rfl ?_
  refine fz_putI kX3_clear rfl rfl rfl ?_
  refine fz_nmu (S := [(21, 4)]) (h0 := h) (fz_Iv_up hI (by decide) (show (0 : Int) ≤ 0 by decide) (show (0 : Int) ≤ 128 by decide)) (fz_fr_up hf rfl) (fun H1 hI2 hf3 e4 => ?_)
  have k5 : H1 21 4 = 0 := by rw [e4]; exact fz_up_e
  clear e4
  exact fz_vret kX3_clear rfl rfl ⟨hI2, hf3, rfl, (by omega)⟩

abbrev qX3_add (h : fz_H) (sp op : Int) : fz_H → Option fz_V → Prop := fun h' r0 => fz_Iv h' ∧ fz_fr [(21, 4), (22, 99999), (23, 99999)] h h' ∧ ∃ r : Int, r0 = some (fz_i r) ∧ ((-1) ≤ r ∧ r ≤ 127) ∧ ((h 21 4 < 128 ∧ h' 21 4 = h 21 4 + 1 ∧ r = h 21 4) ∨ (128 ≤ h 21 4 ∧ h' 21 4 = h 21 4 ∧ r = -1)) ∧ (fl_ad h h' sp op r)
set_option maxHeartbeats 1000000 in
set_option maxRecDepth 100000 in
theorem sX3_add (h : fz_H) (hI : fz_Iv h) (sp op : Int) : fz_R 0 mX3_add 0 [(0, fz_r 21), (1, fz_i sp), (2, fz_i op)] [] h (qX3_add h sp op) := by
  refine fz_knowl (fun hk => ?_)
  have hr_sp : -2147483648 ≤ sp ∧ sp < 2147483648 := hk _ (List.Mem.tail _ (List.Mem.head _))
  have hr_op : -2147483648 ≤ op ∧ op < 2147483648 := hk _ (List.Mem.tail _ (List.Mem.tail _ (List.Mem.head _)))
  clear hk
  have hf : fz_fr [(21, 4), (22, 99999), (23, 99999)] h h := fz_fr_rf
  have b1 : 0 ≤ h 21 4 ∧ h 21 4 ≤ 128 := hI.1 21 _
  refine fz_aload_n kX3_add rfl rfl ?_
  refine fz_getV (v := h 21 4) kX3_add rfl rfl rfl ?_
  have b2 : 0 ≤ h 21 4 ∧ h 21 4 ≤ 128 := hI.1 21 _
  refine fz_sipush ⟨by decide, by decide⟩ kX3_add rfl ?_
  refine fz_icmp_lt (tgt := 12) kX3_add rfl (by decide) (fun c3 => ?_) (fun c3 => ?_)
  · refine fz_aload_n kX3_add rfl rfl ?_
    refine fz_getR (t := 22) kX3_add rfl rfl ?_
    refine fz_aload_n kX3_add rfl rfl ?_
    refine fz_getV (v := h 21 4) kX3_add rfl rfl rfl ?_
    refine fz_iload_n kX3_add rfl rfl ?_
    refine fz_iast (n := 128) kX3_add rfl rfl (by omega) (by omega) ?_
    refine fz_nmu (S := [(21, 4), (22, 99999), (23, 99999)]) (h0 := h) (fz_Iv_up hI (by decide) (show ((-2147483648) : Int) ≤ sp by omega) (show (sp : Int) ≤ 2147483647 by omega)) (fz_fr_up hf rfl) (fun H4 hI5 hf6 e7 => ?_)
    have k8 : H4 21 4 = (h 21 4) := by rw [e7]; exact (fz_up_o (by decide)).trans rfl
    refine fz_aload_n kX3_add rfl rfl ?_
    refine fz_getR (t := 23) kX3_add rfl rfl ?_
    refine fz_aload_n kX3_add rfl rfl ?_
    refine fz_getV (v := (h 21 4)) kX3_add rfl rfl k8 ?_
    refine fz_iload_n kX3_add rfl rfl ?_
    refine fz_iast (n := 128) kX3_add rfl rfl (by omega) (by omega) ?_
    refine fz_nmu (S := [(21, 4), (22, 99999), (23, 99999)]) (h0 := h) (fz_Iv_up hI5 (by decide) (show ((-2147483648) : Int) ≤ op by omega) (show (op : Int) ≤ 2147483647 by omega)) (fz_fr_up hf6 rfl) (fun H9 hI10 hf11 e12 => ?_)
    have k13 : H9 21 4 = (h 21 4) := by rw [e12]; exact (fz_up_o (by decide)).trans k8
    refine fz_aload_n kX3_add rfl rfl ?_
    refine fz_dup rfl kX3_add rfl ?_
    refine fz_getV (v := (h 21 4)) kX3_add rfl rfl k13 ?_
    refine fz_iconst ⟨by decide, by decide⟩ kX3_add rfl ?_
    refine fz_iaddN kX3_add rfl (by omega) ?_
    refine fz_putI kX3_add rfl rfl rfl ?_
    refine fz_nmu (S := [(21, 4), (22, 99999), (23, 99999)]) (h0 := h) (fz_Iv_up hI10 (by decide) (show (0 : Int) ≤ ((h 21 4) + 1) by omega) (show (((h 21 4) + 1) : Int) ≤ 128 by omega)) (fz_fr_up hf11 rfl) (fun H14 hI15 hf16 e17 => ?_)
    have k18 : H14 21 4 = ((h 21 4) + 1) := by rw [e17]; exact fz_up_e
    refine fz_aload_n kX3_add rfl rfl ?_
    refine fz_getV (v := ((h 21 4) + 1)) kX3_add rfl rfl k18 ?_
    refine fz_iconst ⟨by decide, by decide⟩ kX3_add rfl ?_
    refine fz_isubN kX3_add rfl (by omega) ?_
    exact fz_iret kX3_add rfl rfl (fun _ => ⟨hI15, hf16, _, rfl, (by omega), (by omega), (by first | exact fl_ad_in (by omega) (by omega) e7 e12 e17 (by omega) (by omega) (by omega) (by omega) | exact Or.inr ⟨by omega, rfl⟩)⟩)
  · refine fz_iconst ⟨by decide, by decide⟩ kX3_add rfl ?_
    exact fz_iret kX3_add rfl rfl (fun _ => ⟨hI, hf, _, rfl, (by omega), (by omega), (by first | exact fl_ad_in (by omega) (by omega) lost lost lost (by omega) (by omega) (by omega) (by omega) | exact Or.inr ⟨by omega, rfl⟩)⟩)

abbrev qX3_leadHere (h : fz_H) (sp : Int) : fz_H → Option fz_V → Prop := fun h' r0 => fz_Iv h' ∧ fz_fr [(23, 99999)] h h' ∧ r0 = none ∧ fl_ldh h h' sp
set_option maxHeartbeats 1000000 in
set_option maxRecDepth 100000 in
theorem sX3_leadHere (h : fz_H) (hI : fz_Iv h) (sp : Int) : fz_R 0 mX3_leadHere 0 [(0, fz_r 21), (1, fz_i sp)] [] h (qX3_leadHere h sp) := by
  refine fz_knowl (fun hk => ?_)
  have hr_sp : -2147483648 ≤ sp ∧ sp < 2147483648 := hk _ (List.Mem.tail _ (List.Mem.head _))
  clear hk
  have hf : fz_fr [(23, 99999)] h h := fz_fr_rf
  refine fz_iload_n kX3_leadHere rfl rfl ?_
  refine fz_if_lt (tgt := 22) kX3_leadHere rfl (by decide) (fun c1 => ?_) (fun c1 => ?_)
  · exact fz_vret kX3_leadHere rfl rfl ⟨hI, hf, rfl, (by first | exact Or.inl ⟨by omega, by omega, lost⟩ | exact Or.inr ⟨by omega, rfl⟩)⟩
  · refine fz_iload_n kX3_leadHere rfl rfl ?_
    refine fz_aload_n kX3_leadHere rfl rfl ?_
    refine fz_getV (v := h 21 4) kX3_leadHere rfl rfl rfl ?_
    have b3 : 0 ≤ h 21 4 ∧ h 21 4 ≤ 128 := hI.1 21 _
    refine fz_icmp_ge (tgt := 22) kX3_leadHere rfl (by decide) (fun c4 => ?_) (fun c4 => ?_)
    · exact fz_vret kX3_leadHere rfl rfl ⟨hI, hf, rfl, (by first | exact Or.inl ⟨by omega, by omega, lost⟩ | exact Or.inr ⟨by omega, rfl⟩)⟩
    · refine fz_aload_n kX3_leadHere rfl rfl ?_
      refine fz_getR (t := 23) kX3_leadHere rfl rfl ?_
      refine fz_iload_n kX3_leadHere rfl rfl ?_
      refine fz_aload_n kX3_leadHere rfl rfl ?_
      refine fz_getV (v := h 21 4) kX3_leadHere rfl rfl rfl ?_
      refine fz_iast (n := 128) kX3_leadHere rfl rfl (by omega) (by omega) ?_
      refine fz_nmu (S := [(23, 99999)]) (h0 := h) (fz_Iv_up hI (by decide) (show ((-2147483648) : Int) ≤ (h 21 4) by omega) (show ((h 21 4) : Int) ≤ 2147483647 by omega)) (fz_fr_up hf rfl) (fun H6 hI7 hf8 e9 => ?_)
      exact fz_vret kX3_leadHere rfl rfl ⟨hI7, hf8, rfl, (by first | exact Or.inl ⟨by omega, by omega, e9⟩ | exact Or.inr ⟨by omega, rfl⟩)⟩

abbrev qX3_become (h : fz_H) : fz_H → Option fz_V → Prop := fun h' r0 => fz_Iv h' ∧ fz_fr [(15, 4), (16, 99999), (17, 99999)] h h' ∧ r0 = none ∧ fl_beC h h'
set_option maxHeartbeats 1000000 in
set_option maxRecDepth 100000 in
theorem sX3_become (h : fz_H) (hI : fz_Iv h) : fz_R 1 mX3_become 0 [(0, fz_r 15), (1, fz_r 21)] [] h (qX3_become h) := by
  have hf : fz_fr [(15, 4), (16, 99999), (17, 99999)] h h := fz_fr_rf
  refine fz_aload_n kX3_become rfl rfl ?_
  refine fz_getR (t := 22) kX3_become rfl rfl ?_
  refine fz_iconst ⟨by decide, by decide⟩ kX3_become rfl ?_
  refine fz_aload_n kX3_become rfl rfl ?_
  refine fz_getR (t := 16) kX3_become rfl rfl ?_
  refine fz_iconst ⟨by decide, by decide⟩ kX3_become rfl ?_
  refine fz_sipush ⟨by decide, by decide⟩ kX3_become rfl ?_
  refine fz_copyi (n1 := 128) (n2 := 128) kX3_become rfl rfl rfl rfl (by omega) (by omega) (by omega) (by omega) (by omega) (by decide) (Nat.le_of_ble_eq_true rfl) ?_
  refine fz_nmu (S := [(15, 4), (16, 99999), (17, 99999)]) (h0 := h) (fz_Iv_cp hI (by decide) (fun k l _ _ _ => hI.1 22 k)) (fz_fr_cp hf (fun _ => rfl)) (fun H1 hI2 hf3 e4 => ?_)
  refine fz_aload_n kX3_become rfl rfl ?_
  refine fz_getR (t := 23) kX3_become rfl rfl ?_
  refine fz_iconst ⟨by decide, by decide⟩ kX3_become rfl ?_
  refine fz_aload_n kX3_become rfl rfl ?_
  refine fz_getR (t := 17) kX3_become rfl rfl ?_
  refine fz_iconst ⟨by decide, by decide⟩ kX3_become rfl ?_
  refine fz_sipush ⟨by decide, by decide⟩ kX3_become rfl ?_
  refine fz_copyi (n1 := 128) (n2 := 128) kX3_become rfl rfl rfl rfl (by omega) (by omega) (by omega) (by omega) (by omega) (by decide) (Nat.le_of_ble_eq_true rfl) ?_
  refine fz_nmu (S := [(15, 4), (16, 99999), (17, 99999)]) (h0 := h) (fz_Iv_cp hI2 (by decide) (fun k l _ _ _ => hI2.1 23 k)) (fz_fr_cp hf3 (fun _ => rfl)) (fun H5 hI6 hf7 e8 => ?_)
  refine fz_aload_n kX3_become rfl rfl ?_
  refine fz_aload_n kX3_become rfl rfl ?_
  refine fz_getV (v := h 21 4) kX3_become rfl rfl (hf7 21 4 rfl) ?_
  have b9 : 0 ≤ h 21 4 ∧ h 21 4 ≤ 128 := hI.1 21 _
  refine fz_putI kX3_become rfl rfl rfl ?_
  refine fz_nmu (S := [(15, 4), (16, 99999), (17, 99999)]) (h0 := h) (fz_Iv_up hI6 (by decide) (show (0 : Int) ≤ (h 21 4) by omega) (show ((h 21 4) : Int) ≤ 128 by omega)) (fz_fr_up hf7 rfl) (fun H10 hI11 hf12 e13 => ?_)
  have k14 : H10 15 4 = (h 21 4) := by rw [e13]; exact fz_up_e
  exact fz_vret kX3_become rfl rfl ⟨hI11, hf12, rfl, (by exact fl_beC_in e4 e8 e13 (by omega))⟩

abbrev qX3_joined (h : fz_H) (c x y : Int) : fz_H → Option fz_V → Prop := fun h' r0 => h' = h ∧ ∃ r : Int, r0 = some (fz_i r) ∧ ((-2147483648) ≤ r ∧ r ≤ 2147483647) ∧ (r = fl_bs c x y)
set_option maxHeartbeats 1000000 in
set_option maxRecDepth 100000 in
theorem sX3_joined (h : fz_H) (hI : fz_Iv h) (c x y : Int) : fz_R 0 mX3_joined 0 [(0, fz_i c), (1, fz_i x), (2, fz_i y)] [] h (qX3_joined h c x y) := by
  refine fz_knowl (fun hk => ?_)
  have hr_c : -2147483648 ≤ c ∧ c < 2147483648 := hk _ (List.Mem.head _)
  have hr_x : -2147483648 ≤ x ∧ x < 2147483648 := hk _ (List.Mem.tail _ (List.Mem.head _))
  have hr_y : -2147483648 ≤ y ∧ y < 2147483648 := hk _ (List.Mem.tail _ (List.Mem.tail _ (List.Mem.head _)))
  clear hk
  refine fz_iload_n kX3_joined rfl rfl ?_
  by_cases c1 : (c : Int) = 37
  · refine fz_lsw (tgt := 177) kX3_joined rfl (by decide) (show Op.lookupswitch.offset [(37, 176), (38, 105), (42, 160), (43, 152), (45, 156), (47, 164), (60, 119), (61, 130), (62, 141), (124, 91)] 188 c = 176 by exact fz_osy c1) (by decide) ?_
    refine fz_iload_n kX3_joined rfl rfl ?_
    refine fz_if_ne (tgt := 185) kX3_joined rfl (by decide) (fun c2 => ?_) (fun c2 => ?_)
    · refine fz_iload_n kX3_joined rfl rfl ?_
      refine fz_iload_n kX3_joined rfl rfl ?_
      refine fz_irem (by omega) kX3_joined rfl ?_
      have b3 := fz_w_b (Int.tmod x y)
      exact fz_iret kX3_joined rfl rfl (fun _ => ⟨rfl, _, rfl, (by omega), (by first | exact fl_bs_ad (by omega) | exact fl_bs_su (by omega) | exact fl_bs_mu (by omega) | exact (fl_bs_or (by omega)).1 (by omega) | exact (fl_bs_or (by omega)).2 (by omega) | exact (fl_bs_an (by omega)).1 (by omega) | exact (fl_bs_an (by omega)).2 (by omega) | exact (fl_bs_lt (by omega)).1 (by omega) | exact (fl_bs_lt (by omega)).2 (by omega) | exact (fl_bs_eq (by omega)).1 (by omega) | exact (fl_bs_eq (by omega)).2 (by omega) | exact (fl_bs_gt (by omega)).1 (by omega) | exact (fl_bs_gt (by omega)).2 (by omega) | exact (fl_bs_di (by omega)).1 (by omega) | exact (fl_bs_di (by omega)).2 (by omega) | exact (fl_bs_re (by omega)).1 (by omega) | exact (fl_bs_re (by omega)).2 (by omega) | exact fl_bs_no ⟨by omega, by omega, by omega, by omega, by omega, by omega, by omega, by omega, by omega, by omega⟩)⟩)
    · refine fz_iconst ⟨by decide, by decide⟩ kX3_joined rfl ?_
      refine fz_goto (tgt := 188) kX3_joined rfl (by decide) ?_
      exact fz_iret kX3_joined rfl rfl (fun _ => ⟨rfl, _, rfl, (by omega), (by first | exact fl_bs_ad (by omega) | exact fl_bs_su (by omega) | exact fl_bs_mu (by omega) | exact (fl_bs_or (by omega)).1 (by omega) | exact (fl_bs_or (by omega)).2 (by omega) | exact (fl_bs_an (by omega)).1 (by omega) | exact (fl_bs_an (by omega)).2 (by omega) | exact (fl_bs_lt (by omega)).1 (by omega) | exact (fl_bs_lt (by omega)).2 (by omega) | exact (fl_bs_eq (by omega)).1 (by omega) | exact (fl_bs_eq (by omega)).2 (by omega) | exact (fl_bs_gt (by omega)).1 (by omega) | exact (fl_bs_gt (by omega)).2 (by omega) | exact (fl_bs_di (by omega)).1 (by omega) | exact (fl_bs_di (by omega)).2 (by omega) | exact (fl_bs_re (by omega)).1 (by omega) | exact (fl_bs_re (by omega)).2 (by omega) | exact fl_bs_no ⟨by omega, by omega, by omega, by omega, by omega, by omega, by omega, by omega, by omega, by omega⟩)⟩)
  by_cases c6 : (c : Int) = 38
  · refine fz_lsw (tgt := 106) kX3_joined rfl (by decide) (show Op.lookupswitch.offset [(37, 176), (38, 105), (42, 160), (43, 152), (45, 156), (47, 164), (60, 119), (61, 130), (62, 141), (124, 91)] 188 c = 105 by rw [fz_osw c1]; exact fz_osy c6) (by decide) ?_
    refine fz_iload_n kX3_joined rfl rfl ?_
    refine fz_if_eq (tgt := 118) kX3_joined rfl (by decide) (fun c7 => ?_) (fun c7 => ?_)
    · refine fz_iconst ⟨by decide, by decide⟩ kX3_joined rfl ?_
      exact fz_iret kX3_joined rfl rfl (fun _ => ⟨rfl, _, rfl, (by omega), (by first | exact fl_bs_ad (by omega) | exact fl_bs_su (by omega) | exact fl_bs_mu (by omega) | exact (fl_bs_or (by omega)).1 (by omega) | exact (fl_bs_or (by omega)).2 (by omega) | exact (fl_bs_an (by omega)).1 (by omega) | exact (fl_bs_an (by omega)).2 (by omega) | exact (fl_bs_lt (by omega)).1 (by omega) | exact (fl_bs_lt (by omega)).2 (by omega) | exact (fl_bs_eq (by omega)).1 (by omega) | exact (fl_bs_eq (by omega)).2 (by omega) | exact (fl_bs_gt (by omega)).1 (by omega) | exact (fl_bs_gt (by omega)).2 (by omega) | exact (fl_bs_di (by omega)).1 (by omega) | exact (fl_bs_di (by omega)).2 (by omega) | exact (fl_bs_re (by omega)).1 (by omega) | exact (fl_bs_re (by omega)).2 (by omega) | exact fl_bs_no ⟨by omega, by omega, by omega, by omega, by omega, by omega, by omega, by omega, by omega, by omega⟩)⟩)
    · refine fz_iload_n kX3_joined rfl rfl ?_
      refine fz_if_eq (tgt := 118) kX3_joined rfl (by decide) (fun c9 => ?_) (fun c9 => ?_)
      · refine fz_iconst ⟨by decide, by decide⟩ kX3_joined rfl ?_
        exact fz_iret kX3_joined rfl rfl (fun _ => ⟨rfl, _, rfl, (by omega), (by first | exact fl_bs_ad (by omega) | exact fl_bs_su (by omega) | exact fl_bs_mu (by omega) | exact (fl_bs_or (by omega)).1 (by omega) | exact (fl_bs_or (by omega)).2 (by omega) | exact (fl_bs_an (by omega)).1 (by omega) | exact (fl_bs_an (by omega)).2 (by omega) | exact (fl_bs_lt (by omega)).1 (by omega) | exact (fl_bs_lt (by omega)).2 (by omega) | exact (fl_bs_eq (by omega)).1 (by omega) | exact (fl_bs_eq (by omega)).2 (by omega) | exact (fl_bs_gt (by omega)).1 (by omega) | exact (fl_bs_gt (by omega)).2 (by omega) | exact (fl_bs_di (by omega)).1 (by omega) | exact (fl_bs_di (by omega)).2 (by omega) | exact (fl_bs_re (by omega)).1 (by omega) | exact (fl_bs_re (by omega)).2 (by omega) | exact fl_bs_no ⟨by omega, by omega, by omega, by omega, by omega, by omega, by omega, by omega, by omega, by omega⟩)⟩)
      · refine fz_iconst ⟨by decide, by decide⟩ kX3_joined rfl ?_
        refine fz_goto (tgt := 119) kX3_joined rfl (by decide) ?_
        exact fz_iret kX3_joined rfl rfl (fun _ => ⟨rfl, _, rfl, (by omega), (by first | exact fl_bs_ad (by omega) | exact fl_bs_su (by omega) | exact fl_bs_mu (by omega) | exact (fl_bs_or (by omega)).1 (by omega) | exact (fl_bs_or (by omega)).2 (by omega) | exact (fl_bs_an (by omega)).1 (by omega) | exact (fl_bs_an (by omega)).2 (by omega) | exact (fl_bs_lt (by omega)).1 (by omega) | exact (fl_bs_lt (by omega)).2 (by omega) | exact (fl_bs_eq (by omega)).1 (by omega) | exact (fl_bs_eq (by omega)).2 (by omega) | exact (fl_bs_gt (by omega)).1 (by omega) | exact (fl_bs_gt (by omega)).2 (by omega) | exact (fl_bs_di (by omega)).1 (by omega) | exact (fl_bs_di (by omega)).2 (by omega) | exact (fl_bs_re (by omega)).1 (by omega) | exact (fl_bs_re (by omega)).2 (by omega) | exact fl_bs_no ⟨by omega, by omega, by omega, by omega, by omega, by omega, by omega, by omega, by omega, by omega⟩)⟩)
  by_cases c12 : (c : Int) = 42
  · refine fz_lsw (tgt := 161) kX3_joined rfl (by decide) (show Op.lookupswitch.offset [(37, 176), (38, 105), (42, 160), (43, 152), (45, 156), (47, 164), (60, 119), (61, 130), (62, 141), (124, 91)] 188 c = 160 by rw [fz_osw c1, fz_osw c6]; exact fz_osy c12) (by decide) ?_
    refine fz_iload_n kX3_joined rfl rfl ?_
    refine fz_iload_n kX3_joined rfl rfl ?_
    refine fz_imul kX3_joined rfl ?_
    have b13 := fz_w_b (x * y)
    exact fz_iret kX3_joined rfl rfl (fun _ => ⟨rfl, _, rfl, (by omega), (by first | exact fl_bs_ad (by omega) | exact fl_bs_su (by omega) | exact fl_bs_mu (by omega) | exact (fl_bs_or (by omega)).1 (by omega) | exact (fl_bs_or (by omega)).2 (by omega) | exact (fl_bs_an (by omega)).1 (by omega) | exact (fl_bs_an (by omega)).2 (by omega) | exact (fl_bs_lt (by omega)).1 (by omega) | exact (fl_bs_lt (by omega)).2 (by omega) | exact (fl_bs_eq (by omega)).1 (by omega) | exact (fl_bs_eq (by omega)).2 (by omega) | exact (fl_bs_gt (by omega)).1 (by omega) | exact (fl_bs_gt (by omega)).2 (by omega) | exact (fl_bs_di (by omega)).1 (by omega) | exact (fl_bs_di (by omega)).2 (by omega) | exact (fl_bs_re (by omega)).1 (by omega) | exact (fl_bs_re (by omega)).2 (by omega) | exact fl_bs_no ⟨by omega, by omega, by omega, by omega, by omega, by omega, by omega, by omega, by omega, by omega⟩)⟩)
  by_cases c15 : (c : Int) = 43
  · refine fz_lsw (tgt := 153) kX3_joined rfl (by decide) (show Op.lookupswitch.offset [(37, 176), (38, 105), (42, 160), (43, 152), (45, 156), (47, 164), (60, 119), (61, 130), (62, 141), (124, 91)] 188 c = 152 by rw [fz_osw c1, fz_osw c6, fz_osw c12]; exact fz_osy c15) (by decide) ?_
    refine fz_iload_n kX3_joined rfl rfl ?_
    refine fz_iload_n kX3_joined rfl rfl ?_
    refine fz_iadd kX3_joined rfl ?_
    have b16 := fz_w_b (x + y)
    exact fz_iret kX3_joined rfl rfl (fun _ => ⟨rfl, _, rfl, (by omega), (by first | exact fl_bs_ad (by omega) | exact fl_bs_su (by omega) | exact fl_bs_mu (by omega) | exact (fl_bs_or (by omega)).1 (by omega) | exact (fl_bs_or (by omega)).2 (by omega) | exact (fl_bs_an (by omega)).1 (by omega) | exact (fl_bs_an (by omega)).2 (by omega) | exact (fl_bs_lt (by omega)).1 (by omega) | exact (fl_bs_lt (by omega)).2 (by omega) | exact (fl_bs_eq (by omega)).1 (by omega) | exact (fl_bs_eq (by omega)).2 (by omega) | exact (fl_bs_gt (by omega)).1 (by omega) | exact (fl_bs_gt (by omega)).2 (by omega) | exact (fl_bs_di (by omega)).1 (by omega) | exact (fl_bs_di (by omega)).2 (by omega) | exact (fl_bs_re (by omega)).1 (by omega) | exact (fl_bs_re (by omega)).2 (by omega) | exact fl_bs_no ⟨by omega, by omega, by omega, by omega, by omega, by omega, by omega, by omega, by omega, by omega⟩)⟩)
  by_cases c18 : (c : Int) = 45
  · refine fz_lsw (tgt := 157) kX3_joined rfl (by decide) (show Op.lookupswitch.offset [(37, 176), (38, 105), (42, 160), (43, 152), (45, 156), (47, 164), (60, 119), (61, 130), (62, 141), (124, 91)] 188 c = 156 by rw [fz_osw c1, fz_osw c6, fz_osw c12, fz_osw c15]; exact fz_osy c18) (by decide) ?_
    refine fz_iload_n kX3_joined rfl rfl ?_
    refine fz_iload_n kX3_joined rfl rfl ?_
    refine fz_isub kX3_joined rfl ?_
    have b19 := fz_w_b (x - y)
    exact fz_iret kX3_joined rfl rfl (fun _ => ⟨rfl, _, rfl, (by omega), (by first | exact fl_bs_ad (by omega) | exact fl_bs_su (by omega) | exact fl_bs_mu (by omega) | exact (fl_bs_or (by omega)).1 (by omega) | exact (fl_bs_or (by omega)).2 (by omega) | exact (fl_bs_an (by omega)).1 (by omega) | exact (fl_bs_an (by omega)).2 (by omega) | exact (fl_bs_lt (by omega)).1 (by omega) | exact (fl_bs_lt (by omega)).2 (by omega) | exact (fl_bs_eq (by omega)).1 (by omega) | exact (fl_bs_eq (by omega)).2 (by omega) | exact (fl_bs_gt (by omega)).1 (by omega) | exact (fl_bs_gt (by omega)).2 (by omega) | exact (fl_bs_di (by omega)).1 (by omega) | exact (fl_bs_di (by omega)).2 (by omega) | exact (fl_bs_re (by omega)).1 (by omega) | exact (fl_bs_re (by omega)).2 (by omega) | exact fl_bs_no ⟨by omega, by omega, by omega, by omega, by omega, by omega, by omega, by omega, by omega, by omega⟩)⟩)
  by_cases c21 : (c : Int) = 47
  · refine fz_lsw (tgt := 165) kX3_joined rfl (by decide) (show Op.lookupswitch.offset [(37, 176), (38, 105), (42, 160), (43, 152), (45, 156), (47, 164), (60, 119), (61, 130), (62, 141), (124, 91)] 188 c = 164 by rw [fz_osw c1, fz_osw c6, fz_osw c12, fz_osw c15, fz_osw c18]; exact fz_osy c21) (by decide) ?_
    refine fz_iload_n kX3_joined rfl rfl ?_
    refine fz_if_ne (tgt := 173) kX3_joined rfl (by decide) (fun c22 => ?_) (fun c22 => ?_)
    · refine fz_iload_n kX3_joined rfl rfl ?_
      refine fz_iload_n kX3_joined rfl rfl ?_
      refine fz_idiv (by omega) kX3_joined rfl ?_
      have b23 := fz_w_b (Int.tdiv x y)
      exact fz_iret kX3_joined rfl rfl (fun _ => ⟨rfl, _, rfl, (by omega), (by first | exact fl_bs_ad (by omega) | exact fl_bs_su (by omega) | exact fl_bs_mu (by omega) | exact (fl_bs_or (by omega)).1 (by omega) | exact (fl_bs_or (by omega)).2 (by omega) | exact (fl_bs_an (by omega)).1 (by omega) | exact (fl_bs_an (by omega)).2 (by omega) | exact (fl_bs_lt (by omega)).1 (by omega) | exact (fl_bs_lt (by omega)).2 (by omega) | exact (fl_bs_eq (by omega)).1 (by omega) | exact (fl_bs_eq (by omega)).2 (by omega) | exact (fl_bs_gt (by omega)).1 (by omega) | exact (fl_bs_gt (by omega)).2 (by omega) | exact (fl_bs_di (by omega)).1 (by omega) | exact (fl_bs_di (by omega)).2 (by omega) | exact (fl_bs_re (by omega)).1 (by omega) | exact (fl_bs_re (by omega)).2 (by omega) | exact fl_bs_no ⟨by omega, by omega, by omega, by omega, by omega, by omega, by omega, by omega, by omega, by omega⟩)⟩)
    · refine fz_iconst ⟨by decide, by decide⟩ kX3_joined rfl ?_
      refine fz_goto (tgt := 176) kX3_joined rfl (by decide) ?_
      exact fz_iret kX3_joined rfl rfl (fun _ => ⟨rfl, _, rfl, (by omega), (by first | exact fl_bs_ad (by omega) | exact fl_bs_su (by omega) | exact fl_bs_mu (by omega) | exact (fl_bs_or (by omega)).1 (by omega) | exact (fl_bs_or (by omega)).2 (by omega) | exact (fl_bs_an (by omega)).1 (by omega) | exact (fl_bs_an (by omega)).2 (by omega) | exact (fl_bs_lt (by omega)).1 (by omega) | exact (fl_bs_lt (by omega)).2 (by omega) | exact (fl_bs_eq (by omega)).1 (by omega) | exact (fl_bs_eq (by omega)).2 (by omega) | exact (fl_bs_gt (by omega)).1 (by omega) | exact (fl_bs_gt (by omega)).2 (by omega) | exact (fl_bs_di (by omega)).1 (by omega) | exact (fl_bs_di (by omega)).2 (by omega) | exact (fl_bs_re (by omega)).1 (by omega) | exact (fl_bs_re (by omega)).2 (by omega) | exact fl_bs_no ⟨by omega, by omega, by omega, by omega, by omega, by omega, by omega, by omega, by omega, by omega⟩)⟩)
  by_cases c26 : (c : Int) = 60
  · refine fz_lsw (tgt := 120) kX3_joined rfl (by decide) (show Op.lookupswitch.offset [(37, 176), (38, 105), (42, 160), (43, 152), (45, 156), (47, 164), (60, 119), (61, 130), (62, 141), (124, 91)] 188 c = 119 by rw [fz_osw c1, fz_osw c6, fz_osw c12, fz_osw c15, fz_osw c18, fz_osw c21]; exact fz_osy c26) (by decide) ?_
    refine fz_iload_n kX3_joined rfl rfl ?_
    refine fz_iload_n kX3_joined rfl rfl ?_
    refine fz_icmp_ge (tgt := 129) kX3_joined rfl (by decide) (fun c27 => ?_) (fun c27 => ?_)
    · refine fz_iconst ⟨by decide, by decide⟩ kX3_joined rfl ?_
      exact fz_iret kX3_joined rfl rfl (fun _ => ⟨rfl, _, rfl, (by omega), (by first | exact fl_bs_ad (by omega) | exact fl_bs_su (by omega) | exact fl_bs_mu (by omega) | exact (fl_bs_or (by omega)).1 (by omega) | exact (fl_bs_or (by omega)).2 (by omega) | exact (fl_bs_an (by omega)).1 (by omega) | exact (fl_bs_an (by omega)).2 (by omega) | exact (fl_bs_lt (by omega)).1 (by omega) | exact (fl_bs_lt (by omega)).2 (by omega) | exact (fl_bs_eq (by omega)).1 (by omega) | exact (fl_bs_eq (by omega)).2 (by omega) | exact (fl_bs_gt (by omega)).1 (by omega) | exact (fl_bs_gt (by omega)).2 (by omega) | exact (fl_bs_di (by omega)).1 (by omega) | exact (fl_bs_di (by omega)).2 (by omega) | exact (fl_bs_re (by omega)).1 (by omega) | exact (fl_bs_re (by omega)).2 (by omega) | exact fl_bs_no ⟨by omega, by omega, by omega, by omega, by omega, by omega, by omega, by omega, by omega, by omega⟩)⟩)
    · refine fz_iconst ⟨by decide, by decide⟩ kX3_joined rfl ?_
      refine fz_goto (tgt := 130) kX3_joined rfl (by decide) ?_
      exact fz_iret kX3_joined rfl rfl (fun _ => ⟨rfl, _, rfl, (by omega), (by first | exact fl_bs_ad (by omega) | exact fl_bs_su (by omega) | exact fl_bs_mu (by omega) | exact (fl_bs_or (by omega)).1 (by omega) | exact (fl_bs_or (by omega)).2 (by omega) | exact (fl_bs_an (by omega)).1 (by omega) | exact (fl_bs_an (by omega)).2 (by omega) | exact (fl_bs_lt (by omega)).1 (by omega) | exact (fl_bs_lt (by omega)).2 (by omega) | exact (fl_bs_eq (by omega)).1 (by omega) | exact (fl_bs_eq (by omega)).2 (by omega) | exact (fl_bs_gt (by omega)).1 (by omega) | exact (fl_bs_gt (by omega)).2 (by omega) | exact (fl_bs_di (by omega)).1 (by omega) | exact (fl_bs_di (by omega)).2 (by omega) | exact (fl_bs_re (by omega)).1 (by omega) | exact (fl_bs_re (by omega)).2 (by omega) | exact fl_bs_no ⟨by omega, by omega, by omega, by omega, by omega, by omega, by omega, by omega, by omega, by omega⟩)⟩)
  by_cases c30 : (c : Int) = 61
  · refine fz_lsw (tgt := 131) kX3_joined rfl (by decide) (show Op.lookupswitch.offset [(37, 176), (38, 105), (42, 160), (43, 152), (45, 156), (47, 164), (60, 119), (61, 130), (62, 141), (124, 91)] 188 c = 130 by rw [fz_osw c1, fz_osw c6, fz_osw c12, fz_osw c15, fz_osw c18, fz_osw c21, fz_osw c26]; exact fz_osy c30) (by decide) ?_
    refine fz_iload_n kX3_joined rfl rfl ?_
    refine fz_iload_n kX3_joined rfl rfl ?_
    refine fz_icmp_ne (tgt := 140) kX3_joined rfl (by decide) (fun c31 => ?_) (fun c31 => ?_)
    · refine fz_iconst ⟨by decide, by decide⟩ kX3_joined rfl ?_
      exact fz_iret kX3_joined rfl rfl (fun _ => ⟨rfl, _, rfl, (by omega), (by first | exact fl_bs_ad (by omega) | exact fl_bs_su (by omega) | exact fl_bs_mu (by omega) | exact (fl_bs_or (by omega)).1 (by omega) | exact (fl_bs_or (by omega)).2 (by omega) | exact (fl_bs_an (by omega)).1 (by omega) | exact (fl_bs_an (by omega)).2 (by omega) | exact (fl_bs_lt (by omega)).1 (by omega) | exact (fl_bs_lt (by omega)).2 (by omega) | exact (fl_bs_eq (by omega)).1 (by omega) | exact (fl_bs_eq (by omega)).2 (by omega) | exact (fl_bs_gt (by omega)).1 (by omega) | exact (fl_bs_gt (by omega)).2 (by omega) | exact (fl_bs_di (by omega)).1 (by omega) | exact (fl_bs_di (by omega)).2 (by omega) | exact (fl_bs_re (by omega)).1 (by omega) | exact (fl_bs_re (by omega)).2 (by omega) | exact fl_bs_no ⟨by omega, by omega, by omega, by omega, by omega, by omega, by omega, by omega, by omega, by omega⟩)⟩)
    · refine fz_iconst ⟨by decide, by decide⟩ kX3_joined rfl ?_
      refine fz_goto (tgt := 141) kX3_joined rfl (by decide) ?_
      exact fz_iret kX3_joined rfl rfl (fun _ => ⟨rfl, _, rfl, (by omega), (by first | exact fl_bs_ad (by omega) | exact fl_bs_su (by omega) | exact fl_bs_mu (by omega) | exact (fl_bs_or (by omega)).1 (by omega) | exact (fl_bs_or (by omega)).2 (by omega) | exact (fl_bs_an (by omega)).1 (by omega) | exact (fl_bs_an (by omega)).2 (by omega) | exact (fl_bs_lt (by omega)).1 (by omega) | exact (fl_bs_lt (by omega)).2 (by omega) | exact (fl_bs_eq (by omega)).1 (by omega) | exact (fl_bs_eq (by omega)).2 (by omega) | exact (fl_bs_gt (by omega)).1 (by omega) | exact (fl_bs_gt (by omega)).2 (by omega) | exact (fl_bs_di (by omega)).1 (by omega) | exact (fl_bs_di (by omega)).2 (by omega) | exact (fl_bs_re (by omega)).1 (by omega) | exact (fl_bs_re (by omega)).2 (by omega) | exact fl_bs_no ⟨by omega, by omega, by omega, by omega, by omega, by omega, by omega, by omega, by omega, by omega⟩)⟩)
  by_cases c34 : (c : Int) = 62
  · refine fz_lsw (tgt := 142) kX3_joined rfl (by decide) (show Op.lookupswitch.offset [(37, 176), (38, 105), (42, 160), (43, 152), (45, 156), (47, 164), (60, 119), (61, 130), (62, 141), (124, 91)] 188 c = 141 by rw [fz_osw c1, fz_osw c6, fz_osw c12, fz_osw c15, fz_osw c18, fz_osw c21, fz_osw c26, fz_osw c30]; exact fz_osy c34) (by decide) ?_
    refine fz_iload_n kX3_joined rfl rfl ?_
    refine fz_iload_n kX3_joined rfl rfl ?_
    refine fz_icmp_le (tgt := 151) kX3_joined rfl (by decide) (fun c35 => ?_) (fun c35 => ?_)
    · refine fz_iconst ⟨by decide, by decide⟩ kX3_joined rfl ?_
      exact fz_iret kX3_joined rfl rfl (fun _ => ⟨rfl, _, rfl, (by omega), (by first | exact fl_bs_ad (by omega) | exact fl_bs_su (by omega) | exact fl_bs_mu (by omega) | exact (fl_bs_or (by omega)).1 (by omega) | exact (fl_bs_or (by omega)).2 (by omega) | exact (fl_bs_an (by omega)).1 (by omega) | exact (fl_bs_an (by omega)).2 (by omega) | exact (fl_bs_lt (by omega)).1 (by omega) | exact (fl_bs_lt (by omega)).2 (by omega) | exact (fl_bs_eq (by omega)).1 (by omega) | exact (fl_bs_eq (by omega)).2 (by omega) | exact (fl_bs_gt (by omega)).1 (by omega) | exact (fl_bs_gt (by omega)).2 (by omega) | exact (fl_bs_di (by omega)).1 (by omega) | exact (fl_bs_di (by omega)).2 (by omega) | exact (fl_bs_re (by omega)).1 (by omega) | exact (fl_bs_re (by omega)).2 (by omega) | exact fl_bs_no ⟨by omega, by omega, by omega, by omega, by omega, by omega, by omega, by omega, by omega, by omega⟩)⟩)
    · refine fz_iconst ⟨by decide, by decide⟩ kX3_joined rfl ?_
      refine fz_goto (tgt := 152) kX3_joined rfl (by decide) ?_
      exact fz_iret kX3_joined rfl rfl (fun _ => ⟨rfl, _, rfl, (by omega), (by first | exact fl_bs_ad (by omega) | exact fl_bs_su (by omega) | exact fl_bs_mu (by omega) | exact (fl_bs_or (by omega)).1 (by omega) | exact (fl_bs_or (by omega)).2 (by omega) | exact (fl_bs_an (by omega)).1 (by omega) | exact (fl_bs_an (by omega)).2 (by omega) | exact (fl_bs_lt (by omega)).1 (by omega) | exact (fl_bs_lt (by omega)).2 (by omega) | exact (fl_bs_eq (by omega)).1 (by omega) | exact (fl_bs_eq (by omega)).2 (by omega) | exact (fl_bs_gt (by omega)).1 (by omega) | exact (fl_bs_gt (by omega)).2 (by omega) | exact (fl_bs_di (by omega)).1 (by omega) | exact (fl_bs_di (by omega)).2 (by omega) | exact (fl_bs_re (by omega)).1 (by omega) | exact (fl_bs_re (by omega)).2 (by omega) | exact fl_bs_no ⟨by omega, by omega, by omega, by omega, by omega, by omega, by omega, by omega, by omega, by omega⟩)⟩)
  by_cases c38 : (c : Int) = 124
  · refine fz_lsw (tgt := 92) kX3_joined rfl (by decide) (show Op.lookupswitch.offset [(37, 176), (38, 105), (42, 160), (43, 152), (45, 156), (47, 164), (60, 119), (61, 130), (62, 141), (124, 91)] 188 c = 91 by rw [fz_osw c1, fz_osw c6, fz_osw c12, fz_osw c15, fz_osw c18, fz_osw c21, fz_osw c26, fz_osw c30, fz_osw c34]; exact fz_osy c38) (by decide) ?_
    refine fz_iload_n kX3_joined rfl rfl ?_
    refine fz_if_ne (tgt := 100) kX3_joined rfl (by decide) (fun c39 => ?_) (fun c39 => ?_)
    · refine fz_iconst ⟨by decide, by decide⟩ kX3_joined rfl ?_
      refine fz_goto (tgt := 105) kX3_joined rfl (by decide) ?_
      exact fz_iret kX3_joined rfl rfl (fun _ => ⟨rfl, _, rfl, (by omega), (by first | exact fl_bs_ad (by omega) | exact fl_bs_su (by omega) | exact fl_bs_mu (by omega) | exact (fl_bs_or (by omega)).1 (by omega) | exact (fl_bs_or (by omega)).2 (by omega) | exact (fl_bs_an (by omega)).1 (by omega) | exact (fl_bs_an (by omega)).2 (by omega) | exact (fl_bs_lt (by omega)).1 (by omega) | exact (fl_bs_lt (by omega)).2 (by omega) | exact (fl_bs_eq (by omega)).1 (by omega) | exact (fl_bs_eq (by omega)).2 (by omega) | exact (fl_bs_gt (by omega)).1 (by omega) | exact (fl_bs_gt (by omega)).2 (by omega) | exact (fl_bs_di (by omega)).1 (by omega) | exact (fl_bs_di (by omega)).2 (by omega) | exact (fl_bs_re (by omega)).1 (by omega) | exact (fl_bs_re (by omega)).2 (by omega) | exact fl_bs_no ⟨by omega, by omega, by omega, by omega, by omega, by omega, by omega, by omega, by omega, by omega⟩)⟩)
    · refine fz_iload_n kX3_joined rfl rfl ?_
      refine fz_if_eq (tgt := 104) kX3_joined rfl (by decide) (fun c41 => ?_) (fun c41 => ?_)
      · refine fz_iconst ⟨by decide, by decide⟩ kX3_joined rfl ?_
        exact fz_iret kX3_joined rfl rfl (fun _ => ⟨rfl, _, rfl, (by omega), (by first | exact fl_bs_ad (by omega) | exact fl_bs_su (by omega) | exact fl_bs_mu (by omega) | exact (fl_bs_or (by omega)).1 (by omega) | exact (fl_bs_or (by omega)).2 (by omega) | exact (fl_bs_an (by omega)).1 (by omega) | exact (fl_bs_an (by omega)).2 (by omega) | exact (fl_bs_lt (by omega)).1 (by omega) | exact (fl_bs_lt (by omega)).2 (by omega) | exact (fl_bs_eq (by omega)).1 (by omega) | exact (fl_bs_eq (by omega)).2 (by omega) | exact (fl_bs_gt (by omega)).1 (by omega) | exact (fl_bs_gt (by omega)).2 (by omega) | exact (fl_bs_di (by omega)).1 (by omega) | exact (fl_bs_di (by omega)).2 (by omega) | exact (fl_bs_re (by omega)).1 (by omega) | exact (fl_bs_re (by omega)).2 (by omega) | exact fl_bs_no ⟨by omega, by omega, by omega, by omega, by omega, by omega, by omega, by omega, by omega, by omega⟩)⟩)
      · refine fz_iconst ⟨by decide, by decide⟩ kX3_joined rfl ?_
        refine fz_goto (tgt := 105) kX3_joined rfl (by decide) ?_
        exact fz_iret kX3_joined rfl rfl (fun _ => ⟨rfl, _, rfl, (by omega), (by first | exact fl_bs_ad (by omega) | exact fl_bs_su (by omega) | exact fl_bs_mu (by omega) | exact (fl_bs_or (by omega)).1 (by omega) | exact (fl_bs_or (by omega)).2 (by omega) | exact (fl_bs_an (by omega)).1 (by omega) | exact (fl_bs_an (by omega)).2 (by omega) | exact (fl_bs_lt (by omega)).1 (by omega) | exact (fl_bs_lt (by omega)).2 (by omega) | exact (fl_bs_eq (by omega)).1 (by omega) | exact (fl_bs_eq (by omega)).2 (by omega) | exact (fl_bs_gt (by omega)).1 (by omega) | exact (fl_bs_gt (by omega)).2 (by omega) | exact (fl_bs_di (by omega)).1 (by omega) | exact (fl_bs_di (by omega)).2 (by omega) | exact (fl_bs_re (by omega)).1 (by omega) | exact (fl_bs_re (by omega)).2 (by omega) | exact fl_bs_no ⟨by omega, by omega, by omega, by omega, by omega, by omega, by omega, by omega, by omega, by omega⟩)⟩)
  refine fz_lsw (tgt := 189) kX3_joined rfl (by decide) (show Op.lookupswitch.offset [(37, 176), (38, 105), (42, 160), (43, 152), (45, 156), (47, 164), (60, 119), (61, 130), (62, 141), (124, 91)] 188 c = 188 by rw [fz_osw c1, fz_osw c6, fz_osw c12, fz_osw c15, fz_osw c18, fz_osw c21, fz_osw c26, fz_osw c30, fz_osw c34, fz_osw c38]; rfl) (by decide) ?_
  refine fz_iconst ⟨by decide, by decide⟩ kX3_joined rfl ?_
  exact fz_iret kX3_joined rfl rfl (fun _ => ⟨rfl, _, rfl, (by omega), (by first | exact fl_bs_ad (by omega) | exact fl_bs_su (by omega) | exact fl_bs_mu (by omega) | exact (fl_bs_or (by omega)).1 (by omega) | exact (fl_bs_or (by omega)).2 (by omega) | exact (fl_bs_an (by omega)).1 (by omega) | exact (fl_bs_an (by omega)).2 (by omega) | exact (fl_bs_lt (by omega)).1 (by omega) | exact (fl_bs_lt (by omega)).2 (by omega) | exact (fl_bs_eq (by omega)).1 (by omega) | exact (fl_bs_eq (by omega)).2 (by omega) | exact (fl_bs_gt (by omega)).1 (by omega) | exact (fl_bs_gt (by omega)).2 (by omega) | exact (fl_bs_di (by omega)).1 (by omega) | exact (fl_bs_di (by omega)).2 (by omega) | exact (fl_bs_re (by omega)).1 (by omega) | exact (fl_bs_re (by omega)).2 (by omega) | exact fl_bs_no ⟨by omega, by omega, by omega, by omega, by omega, by omega, by omega, by omega, by omega, by omega⟩)⟩)

abbrev qX3_run (h : fz_H) : fz_H → Option fz_V → Prop := fun h' r0 => fz_Iv h' ∧ fz_fr [(18, 99999)] h h' ∧ ∃ r : Int, r0 = some (fz_i r) ∧ ((-2147483648) ≤ r ∧ r ≤ 2147483647) ∧ (r = fl_rT h)
set_option maxHeartbeats 1000000 in
set_option maxRecDepth 100000 in
theorem sX3_run (h : fz_H) (hI : fz_Iv h) : fz_R 1 mX3_run 0 [(0, fz_r 15)] [] h (qX3_run h) := by
  have hf : fz_fr [(18, 99999)] h h := fz_fr_rf
  refine fz_iconst ⟨by decide, by decide⟩ kX3_run rfl ?_
  refine fz_istore_n (ls' := [(1, fz_i 0), (0, fz_r 15)]) kX3_run rfl (by decide) rfl ?_
  refine fz_iconst ⟨by decide, by decide⟩ kX3_run rfl ?_
  refine fz_istore_n (ls' := [(2, fz_i 0), (1, fz_i 0), (0, fz_r 15)]) kX3_run rfl (by decide) rfl ?_
  refine fz_iconst ⟨by decide, by decide⟩ kX3_run rfl ?_
  refine fz_istore_n (ls' := [(3, fz_i 0), (2, fz_i 0), (1, fz_i 0), (0, fz_r 15)]) kX3_run rfl (by decide) rfl ?_
  have lp8 : ∀ (n7 : Nat) (x1 : Int) (x2 : Int) (x3 : Int) (H4 : fz_H), fz_Iv H4 → fz_fr [(18, 99999)] h H4 → (0 ≤ x1 ∧ x1 ≤ 2147483647) → ((-2147483648) ≤ x2 ∧ x2 ≤ 2147483647) → (0 ≤ x3 ∧ x3 ≤ 128) → (fl_rI h H4 x1 x2 x3) → ((h 15 4) - x1).toNat < n7 → fz_R 1 mX3_run 6 [(3, fz_i x1), (2, fz_i x2), (1, fz_i x3), (0, fz_r 15)] [] H4 (qX3_run h) := by
    intro n7
    induction n7 with
    | zero => intro x1 x2 x3 H4 hI5 hf6 hv11 hv12 hv13 hv14 hm10; exact absurd hm10 (by omega)
    | succ n7 ih9 =>
      intro x1 x2 x3 H4 hI5 hf6 hv11 hv12 hv13 hv14 hm10
      refine fz_iload_n kX3_run rfl rfl ?_
      refine fz_aload_n kX3_run rfl rfl ?_
      refine fz_getV (v := h 15 4) kX3_run rfl rfl (hf6 15 4 rfl) ?_
      have b15 : 0 ≤ h 15 4 ∧ h 15 4 ≤ 128 := hI.1 15 _
      refine fz_icmp_ge (tgt := 253) kX3_run rfl (by decide) (fun c16 => ?_) (fun c16 => ?_)
      · refine fz_iconst ⟨by decide, by decide⟩ kX3_run rfl ?_
        exact fz_iret kX3_run rfl rfl (fun _ => ⟨hI5, hf6, _, rfl, (by omega), (by first | exact fl_rI_sem hv14 (by omega) (by omega) rfl rfl (by omega) lost (by omega) | exact fl_rI_bad hv14 (by omega) (by omega) rfl rfl (by omega) (by omega) (by omega) | exact fl_rI_one hv14 (by omega) (by omega) rfl rfl ⟨by omega, by omega, by omega, by omega, by omega⟩ ⟨by omega, by omega⟩ lost | exact fl_rI_emp hv14 (by omega) (by omega) rfl rfl (by omega) (by omega) | exact fl_rI_end hv14 (by omega))⟩)
      · refine fz_iload_n kX3_run rfl rfl ?_
        refine fz_iload_n kX3_run rfl rfl ?_
        refine fz_icmp_ge (tgt := 22) kX3_run rfl (by decide) (fun c18 => ?_) (fun c18 => ?_)
        · refine fz_aload_n kX3_run rfl rfl ?_
          refine fz_getR (t := 16) kX3_run rfl rfl ?_
          refine fz_iload_n kX3_run rfl rfl ?_
          refine fz_ialdV (n := 128) (v := h 16 (x1.toNat)) kX3_run rfl rfl (by omega) (by omega) (hf6 16 _ rfl) ?_
          have b19 : (-2147483648) ≤ h 16 (x1.toNat) ∧ h 16 (x1.toNat) ≤ 2147483647 := hI.1 16 _
          refine fz_istore (ls' := [(4, fz_i (h 16 (x1.toNat))), (3, fz_i x1), (2, fz_i x2), (1, fz_i x3), (0, fz_r 15)]) kX3_run rfl (by decide) rfl ?_
          refine fz_aload_n kX3_run rfl rfl ?_
          refine fz_getR (t := 17) kX3_run rfl rfl ?_
          refine fz_iload_n kX3_run rfl rfl ?_
          refine fz_ialdV (n := 128) (v := h 17 (x1.toNat)) kX3_run rfl rfl (by omega) (by omega) (hf6 17 _ rfl) ?_
          have b20 : (-2147483648) ≤ h 17 (x1.toNat) ∧ h 17 (x1.toNat) ≤ 2147483647 := hI.1 17 _
          refine fz_istore (ls' := [(5, fz_i (h 17 (x1.toNat))), (4, fz_i (h 16 (x1.toNat))), (3, fz_i x1), (2, fz_i x2), (1, fz_i x3), (0, fz_r 15)]) kX3_run rfl (by decide) rfl ?_
          refine fz_iload kX3_run rfl rfl ?_
          refine fz_bipush ⟨by decide, by decide⟩ kX3_run rfl ?_
          refine fz_icmp_eq (tgt := 52) kX3_run rfl (by decide) (fun c21 => ?_) (fun c21 => ?_)
          · refine fz_iload_n kX3_run rfl rfl ?_
            refine fz_sipush ⟨by decide, by decide⟩ kX3_run rfl ?_
            refine fz_icmp_ge (tgt := 81) kX3_run rfl (by decide) (fun c22 => ?_) (fun c22 => ?_)
            · refine fz_iconst ⟨by decide, by decide⟩ kX3_run rfl ?_
              exact fz_iret kX3_run rfl rfl (fun _ => ⟨hI5, hf6, _, rfl, (by omega), (by first | exact fl_rI_sem hv14 (by omega) (by omega) rfl rfl (by omega) lost (by omega) | exact fl_rI_bad hv14 (by omega) (by omega) rfl rfl (by omega) (by omega) (by omega) | exact fl_rI_one hv14 (by omega) (by omega) rfl rfl ⟨by omega, by omega, by omega, by omega, by omega⟩ ⟨by omega, by omega⟩ lost | exact fl_rI_emp hv14 (by omega) (by omega) rfl rfl (by omega) (by omega) | exact fl_rI_end hv14 (by omega))⟩)
            · refine fz_iload kX3_run rfl rfl ?_
              refine fz_bipush ⟨by decide, by decide⟩ kX3_run rfl ?_
              refine fz_icmp_ne (tgt := 83) kX3_run rfl (by decide) (fun c24 => ?_) (fun c24 => ?_)
              · refine fz_aload_n kX3_run rfl rfl ?_
                refine fz_getR (t := 18) kX3_run rfl rfl ?_
                refine fz_iload_n kX3_run rfl rfl ?_
                refine fz_iload kX3_run rfl rfl ?_
                refine fz_bipush ⟨by decide, by decide⟩ kX3_run rfl ?_
                refine fz_icmp_ne (tgt := 100) kX3_run rfl (by decide) (fun c25 => ?_) (fun c25 => ?_)
                · exfalso; omega
                · refine fz_iload kX3_run rfl rfl ?_
                  refine fz_goto (tgt := 107) kX3_run rfl (by decide) ?_
                  refine fz_iast (n := 128) kX3_run rfl rfl (by omega) (by omega) ?_
                  refine fz_nmu (S := [(18, 99999)]) (h0 := h) (fz_Iv_up hI5 (by decide) (show ((-2147483648) : Int) ≤ (h 17 (x1.toNat)) by omega) (show ((h 17 (x1.toNat)) : Int) ≤ 2147483647 by omega)) (fz_fr_up hf6 rfl) (fun H26 hI27 hf28 e29 => ?_)
                  refine fz_iincN (ls' := [(1, fz_i (x3 + 1)), (5, fz_i (h 17 (x1.toNat))), (4, fz_i (h 16 (x1.toNat))), (3, fz_i x1), (2, fz_i x2), (0, fz_r 15)]) kX3_run rfl (by decide) rfl (by omega) rfl ?_
                  refine fz_goto (tgt := 247) kX3_run rfl (by decide) ?_
                  refine fz_iincN (ls' := [(3, fz_i (x1 + 1)), (1, fz_i (x3 + 1)), (5, fz_i (h 17 (x1.toNat))), (4, fz_i (h 16 (x1.toNat))), (2, fz_i x2), (0, fz_r 15)]) kX3_run rfl (by decide) rfl (by omega) rfl ?_
                  refine fz_goto (tgt := 6) kX3_run rfl (by decide) ?_
                  refine fz_sub (fz_pk_sub (ls' := [(3, fz_i (x1 + 1)), (2, fz_i x2), (1, fz_i (x3 + 1)), (0, fz_r 15)]) [0, 4, 1, 5] rfl) ?_
                  exact ih9 (x1 + 1) x2 (x3 + 1) H26 hI27 hf28 (by omega) (by omega) (by omega) (by first | exact fl_rI_b (by omega) (by omega) hv14 (by omega) (by omega) rfl rfl ⟨by omega, by omega, by omega, by omega, by omega⟩ (by omega) lost lost lost (by omega) lost | exact fl_rI_u hv14 (by omega) (by omega) rfl rfl (by omega) lost lost (by omega) (by omega) | exact fl_rI_q (by omega) hv14 (by omega) (by omega) rfl rfl (by omega) lost (by omega) (by omega) | exact fl_rI_num hv14 (by omega) (by omega) rfl rfl e29 ⟨by omega, by omega⟩ (by omega) rfl | exact fl_rI_nam hv14 (by omega) (by omega) rfl rfl e29 ⟨by omega, by omega⟩ (by omega) ⟨by omega, by omega⟩ rfl | exact fl_rI_skip hv14 (by omega) (by omega)) (by omega)
              · exfalso; omega
          · refine fz_iload kX3_run rfl rfl ?_
            refine fz_bipush ⟨by decide, by decide⟩ kX3_run rfl ?_
            refine fz_icmp_ne (tgt := 114) kX3_run rfl (by decide) (fun c31 => ?_) (fun c31 => ?_)
            · refine fz_iload_n kX3_run rfl rfl ?_
              refine fz_iconst ⟨by decide, by decide⟩ kX3_run rfl ?_
              refine fz_icmp_ge (tgt := 121) kX3_run rfl (by decide) (fun c32 => ?_) (fun c32 => ?_)
              · refine fz_aload_n kX3_run rfl rfl ?_
                refine fz_getR (t := 18) kX3_run rfl rfl ?_
                refine fz_iload_n kX3_run rfl rfl ?_
                refine fz_iconst ⟨by decide, by decide⟩ kX3_run rfl ?_
                refine fz_isubN kX3_run rfl (by omega) ?_
                obtain ⟨v33, e34⟩ : ∃ z, H4 18 ((x3 - 1).toNat) = z := ⟨_, rfl⟩
                refine fz_ialdV (n := 128) (v := v33) kX3_run rfl rfl (by omega) (by omega) e34 ?_
                have b35 : (-2147483648) ≤ v33 ∧ v33 ≤ 2147483647 := by rw [← e34]; exact hI5.1 18 _
                refine fz_istore (ls' := [(6, fz_i v33), (5, fz_i (h 17 (x1.toNat))), (4, fz_i (h 16 (x1.toNat))), (3, fz_i x1), (2, fz_i x2), (1, fz_i x3), (0, fz_r 15)]) kX3_run rfl (by decide) rfl ?_
                refine fz_iload kX3_run rfl rfl ?_
                refine fz_bipush ⟨by decide, by decide⟩ kX3_run rfl ?_
                refine fz_icmp_ne (tgt := 141) kX3_run rfl (by decide) (fun c36 => ?_) (fun c36 => ?_)
                · refine fz_iload kX3_run rfl rfl ?_
                  refine fz_bipush ⟨by decide, by decide⟩ kX3_run rfl ?_
                  refine fz_icmp_ne (tgt := 166) kX3_run rfl (by decide) (fun c37 => ?_) (fun c37 => ?_)
                  · refine fz_iload kX3_run rfl rfl ?_
                    refine fz_bipush ⟨by decide, by decide⟩ kX3_run rfl ?_
                    refine fz_icmp_eq (tgt := 180) kX3_run rfl (by decide) (fun c38 => ?_) (fun c38 => ?_)
                    · refine fz_aload_n kX3_run rfl rfl ?_
                      refine fz_getR (t := 18) kX3_run rfl rfl ?_
                      refine fz_iload_n kX3_run rfl rfl ?_
                      refine fz_iconst ⟨by decide, by decide⟩ kX3_run rfl ?_
                      refine fz_isubN kX3_run rfl (by omega) ?_
                      refine fz_iload kX3_run rfl rfl ?_
                      refine fz_bipush ⟨by decide, by decide⟩ kX3_run rfl ?_
                      refine fz_icmp_ne (tgt := 200) kX3_run rfl (by decide) (fun c39 => ?_) (fun c39 => ?_)
                      · refine fz_iload kX3_run rfl rfl ?_
                        refine fz_if_ne (tgt := 209) kX3_run rfl (by decide) (fun c40 => ?_) (fun c40 => ?_)
                        · refine fz_iconst ⟨by decide, by decide⟩ kX3_run rfl ?_
                          refine fz_iast (n := 128) kX3_run rfl rfl (by omega) (by omega) ?_
                          refine fz_nmu (S := [(18, 99999)]) (h0 := h) (fz_Iv_up hI5 (by decide) (show ((-2147483648) : Int) ≤ 0 by decide) (show (0 : Int) ≤ 2147483647 by decide)) (fz_fr_up hf6 rfl) (fun H41 hI42 hf43 e44 => ?_)
                          refine fz_goto (tgt := 247) kX3_run rfl (by decide) ?_
                          refine fz_iincN (ls' := [(3, fz_i (x1 + 1)), (6, fz_i v33), (5, fz_i (h 17 (x1.toNat))), (4, fz_i (h 16 (x1.toNat))), (2, fz_i x2), (1, fz_i x3), (0, fz_r 15)]) kX3_run rfl (by decide) rfl (by omega) rfl ?_
                          refine fz_goto (tgt := 6) kX3_run rfl (by decide) ?_
                          refine fz_sub (fz_pk_sub (ls' := [(3, fz_i (x1 + 1)), (2, fz_i x2), (1, fz_i x3), (0, fz_r 15)]) [0, 4, 5, 6] rfl) ?_
                          exact ih9 (x1 + 1) x2 x3 H41 hI42 hf43 (by omega) (by omega) (by omega) (by first | exact fl_rI_b (by omega) (by omega) hv14 (by omega) (by omega) rfl rfl ⟨by omega, by omega, by omega, by omega, by omega⟩ (by omega) e34 lost lost (by omega) lost | exact fl_rI_u hv14 (by omega) (by omega) rfl rfl (by omega) e34 e44 (by omega) (by omega) | exact fl_rI_q (by omega) hv14 (by omega) (by omega) rfl rfl (by omega) e34 (by omega) (by omega) | exact fl_rI_num hv14 (by omega) (by omega) rfl rfl lost ⟨by omega, by omega⟩ (by omega) rfl | exact fl_rI_nam hv14 (by omega) (by omega) rfl rfl lost ⟨by omega, by omega⟩ (by omega) ⟨by omega, by omega⟩ rfl | exact fl_rI_skip hv14 (by omega) (by omega)) (by omega)
                        · refine fz_iconst ⟨by decide, by decide⟩ kX3_run rfl ?_
                          refine fz_goto (tgt := 210) kX3_run rfl (by decide) ?_
                          refine fz_iast (n := 128) kX3_run rfl rfl (by omega) (by omega) ?_
                          refine fz_nmu (S := [(18, 99999)]) (h0 := h) (fz_Iv_up hI5 (by decide) (show ((-2147483648) : Int) ≤ 1 by decide) (show (1 : Int) ≤ 2147483647 by decide)) (fz_fr_up hf6 rfl) (fun H46 hI47 hf48 e49 => ?_)
                          refine fz_goto (tgt := 247) kX3_run rfl (by decide) ?_
                          refine fz_iincN (ls' := [(3, fz_i (x1 + 1)), (6, fz_i v33), (5, fz_i (h 17 (x1.toNat))), (4, fz_i (h 16 (x1.toNat))), (2, fz_i x2), (1, fz_i x3), (0, fz_r 15)]) kX3_run rfl (by decide) rfl (by omega) rfl ?_
                          refine fz_goto (tgt := 6) kX3_run rfl (by decide) ?_
                          refine fz_sub (fz_pk_sub (ls' := [(3, fz_i (x1 + 1)), (2, fz_i x2), (1, fz_i x3), (0, fz_r 15)]) [0, 4, 5, 6] rfl) ?_
                          exact ih9 (x1 + 1) x2 x3 H46 hI47 hf48 (by omega) (by omega) (by omega) (by first | exact fl_rI_b (by omega) (by omega) hv14 (by omega) (by omega) rfl rfl ⟨by omega, by omega, by omega, by omega, by omega⟩ (by omega) e34 lost lost (by omega) lost | exact fl_rI_u hv14 (by omega) (by omega) rfl rfl (by omega) e34 e49 (by omega) (by omega) | exact fl_rI_q (by omega) hv14 (by omega) (by omega) rfl rfl (by omega) e34 (by omega) (by omega) | exact fl_rI_num hv14 (by omega) (by omega) rfl rfl lost ⟨by omega, by omega⟩ (by omega) rfl | exact fl_rI_nam hv14 (by omega) (by omega) rfl rfl lost ⟨by omega, by omega⟩ (by omega) ⟨by omega, by omega⟩ rfl | exact fl_rI_skip hv14 (by omega) (by omega)) (by omega)
                      · exfalso; omega
                    · refine fz_iload kX3_run rfl rfl ?_
                      refine fz_bipush ⟨by decide, by decide⟩ kX3_run rfl ?_
                      refine fz_icmp_ne (tgt := 214) kX3_run rfl (by decide) (fun c51 => ?_) (fun c51 => ?_)
                      · refine fz_iload_n kX3_run rfl rfl ?_
                        refine fz_iconst ⟨by decide, by decide⟩ kX3_run rfl ?_
                        refine fz_icmp_ge (tgt := 221) kX3_run rfl (by decide) (fun c52 => ?_) (fun c52 => ?_)
                        · refine fz_iincN (ls' := [(1, fz_i (x3 + (-1))), (6, fz_i v33), (5, fz_i (h 17 (x1.toNat))), (4, fz_i (h 16 (x1.toNat))), (3, fz_i x1), (2, fz_i x2), (0, fz_r 15)]) kX3_run rfl (by decide) rfl (by omega) rfl ?_
                          refine fz_aload_n kX3_run rfl rfl ?_
                          refine fz_getR (t := 18) kX3_run rfl rfl ?_
                          refine fz_iload_n kX3_run rfl rfl ?_
                          refine fz_iconst ⟨by decide, by decide⟩ kX3_run rfl ?_
                          refine fz_isubN kX3_run rfl (by omega) ?_
                          refine fz_iload kX3_run rfl rfl ?_
                          refine fz_aload_n kX3_run rfl rfl ?_
                          refine fz_getR (t := 18) kX3_run rfl rfl ?_
                          refine fz_iload_n kX3_run rfl rfl ?_
                          refine fz_iconst ⟨by decide, by decide⟩ kX3_run rfl ?_
                          refine fz_isubN kX3_run rfl (by omega) ?_
                          obtain ⟨v53, e54⟩ : ∃ z, H4 18 (((x3 + (-1)) - 1).toNat) = z := ⟨_, rfl⟩
                          refine fz_ialdV (n := 128) (v := v53) kX3_run rfl rfl (by omega) (by omega) e54 ?_
                          have b55 : (-2147483648) ≤ v53 ∧ v53 ≤ 2147483647 := by rw [← e54]; exact hI5.1 18 _
                          refine fz_iload kX3_run rfl rfl ?_
                          refine fz_callS (d' := 0) (M' := mX3_joined) (As := [fz_i (h 16 (x1.toNat)), fz_i v53, fz_i v33]) (st := [fz_i ((x3 + (-1)) - 1), fz_r 18]) kX3_run rfl rfl vX3_joined rfl rfl (Nat.le_of_ble_eq_true rfl) (Nat.le_of_ble_eq_true rfl) (by decide) (sX3_joined H4 hI5 (h 16 (x1.toNat)) v53 v33 ) (fun H56 r57 q58 o59 => ?_)
                          obtain ⟨e60, y63, rfl, f61, f62⟩ := q58
                          subst H56
                          clear o59
                          refine fz_iast (n := 128) kX3_run rfl rfl (by omega) (by omega) ?_
                          refine fz_nmu (S := [(18, 99999)]) (h0 := h) (fz_Iv_up hI5 (by decide) (show ((-2147483648) : Int) ≤ y63 by omega) (show (y63 : Int) ≤ 2147483647 by omega)) (fz_fr_up hf6 rfl) (fun H64 hI65 hf66 e67 => ?_)
                          refine fz_iincN (ls' := [(3, fz_i (x1 + 1)), (1, fz_i (x3 + (-1))), (6, fz_i v33), (5, fz_i (h 17 (x1.toNat))), (4, fz_i (h 16 (x1.toNat))), (2, fz_i x2), (0, fz_r 15)]) kX3_run rfl (by decide) rfl (by omega) rfl ?_
                          refine fz_goto (tgt := 6) kX3_run rfl (by decide) ?_
                          refine fz_sub (fz_pk_sub (ls' := [(3, fz_i (x1 + 1)), (2, fz_i x2), (1, fz_i (x3 + (-1))), (0, fz_r 15)]) [0, 5, 1, 6] rfl) ?_
                          exact ih9 (x1 + 1) x2 (x3 + (-1)) H64 hI65 hf66 (by omega) (by omega) (by omega) (by first | exact fl_rI_b (by omega) (by omega) hv14 (by omega) (by omega) rfl rfl ⟨by omega, by omega, by omega, by omega, by omega⟩ (by omega) e34 e54 e67 (by omega) f62 | exact fl_rI_u hv14 (by omega) (by omega) rfl rfl (by omega) e34 lost (by omega) (by omega) | exact fl_rI_q (by omega) hv14 (by omega) (by omega) rfl rfl (by omega) e34 (by omega) (by omega) | exact fl_rI_num hv14 (by omega) (by omega) rfl rfl lost ⟨by omega, by omega⟩ (by omega) rfl | exact fl_rI_nam hv14 (by omega) (by omega) rfl rfl lost ⟨by omega, by omega⟩ (by omega) ⟨by omega, by omega⟩ rfl | exact fl_rI_skip hv14 (by omega) (by omega)) (by omega)
                        · refine fz_iconst ⟨by decide, by decide⟩ kX3_run rfl ?_
                          exact fz_iret kX3_run rfl rfl (fun _ => ⟨hI5, hf6, _, rfl, (by omega), (by first | exact fl_rI_sem hv14 (by omega) (by omega) rfl rfl (by omega) e34 (by omega) | exact fl_rI_bad hv14 (by omega) (by omega) rfl rfl (by omega) (by omega) (by omega) | exact fl_rI_one hv14 (by omega) (by omega) rfl rfl ⟨by omega, by omega, by omega, by omega, by omega⟩ ⟨by omega, by omega⟩ e34 | exact fl_rI_emp hv14 (by omega) (by omega) rfl rfl (by omega) (by omega) | exact fl_rI_end hv14 (by omega))⟩)
                      · refine fz_aload_n kX3_run rfl rfl ?_
                        refine fz_getR (t := 18) kX3_run rfl rfl ?_
                        refine fz_iload_n kX3_run rfl rfl ?_
                        refine fz_iconst ⟨by decide, by decide⟩ kX3_run rfl ?_
                        refine fz_isubN kX3_run rfl (by omega) ?_
                        refine fz_iload kX3_run rfl rfl ?_
                        refine fz_bipush ⟨by decide, by decide⟩ kX3_run rfl ?_
                        refine fz_icmp_ne (tgt := 200) kX3_run rfl (by decide) (fun c70 => ?_) (fun c70 => ?_)
                        · exfalso; omega
                        · refine fz_iload kX3_run rfl rfl ?_
                          refine fz_ineg kX3_run rfl ?_
                          have b71 := fz_w_b (-v33)
                          refine fz_goto (tgt := 210) kX3_run rfl (by decide) ?_
                          refine fz_iast (n := 128) kX3_run rfl rfl (by omega) (by omega) ?_
                          refine fz_nmu (S := [(18, 99999)]) (h0 := h) (fz_Iv_up hI5 (by decide) (show ((-2147483648) : Int) ≤ (fz_w (-v33)) by omega) (show ((fz_w (-v33)) : Int) ≤ 2147483647 by omega)) (fz_fr_up hf6 rfl) (fun H72 hI73 hf74 e75 => ?_)
                          refine fz_goto (tgt := 247) kX3_run rfl (by decide) ?_
                          refine fz_iincN (ls' := [(3, fz_i (x1 + 1)), (6, fz_i v33), (5, fz_i (h 17 (x1.toNat))), (4, fz_i (h 16 (x1.toNat))), (2, fz_i x2), (1, fz_i x3), (0, fz_r 15)]) kX3_run rfl (by decide) rfl (by omega) rfl ?_
                          refine fz_goto (tgt := 6) kX3_run rfl (by decide) ?_
                          refine fz_sub (fz_pk_sub (ls' := [(3, fz_i (x1 + 1)), (2, fz_i x2), (1, fz_i x3), (0, fz_r 15)]) [0, 4, 5, 6] rfl) ?_
                          exact ih9 (x1 + 1) x2 x3 H72 hI73 hf74 (by omega) (by omega) (by omega) (by first | exact fl_rI_b (by omega) (by omega) hv14 (by omega) (by omega) rfl rfl ⟨by omega, by omega, by omega, by omega, by omega⟩ (by omega) e34 lost lost (by omega) lost | exact fl_rI_u hv14 (by omega) (by omega) rfl rfl (by omega) e34 e75 (by omega) (by omega) | exact fl_rI_q (by omega) hv14 (by omega) (by omega) rfl rfl (by omega) e34 (by omega) (by omega) | exact fl_rI_num hv14 (by omega) (by omega) rfl rfl lost ⟨by omega, by omega⟩ (by omega) rfl | exact fl_rI_nam hv14 (by omega) (by omega) rfl rfl lost ⟨by omega, by omega⟩ (by omega) ⟨by omega, by omega⟩ rfl | exact fl_rI_skip hv14 (by omega) (by omega)) (by omega)
                  · refine fz_iincN (ls' := [(1, fz_i (x3 + (-1))), (6, fz_i v33), (5, fz_i (h 17 (x1.toNat))), (4, fz_i (h 16 (x1.toNat))), (3, fz_i x1), (2, fz_i x2), (0, fz_r 15)]) kX3_run rfl (by decide) rfl (by omega) rfl ?_
                    refine fz_iload kX3_run rfl rfl ?_
                    refine fz_if_ne (tgt := 161) kX3_run rfl (by decide) (fun c77 => ?_) (fun c77 => ?_)
                    · refine fz_iconst ⟨by decide, by decide⟩ kX3_run rfl ?_
                      refine fz_istore_n (ls' := [(2, fz_i 0), (1, fz_i (x3 + (-1))), (6, fz_i v33), (5, fz_i (h 17 (x1.toNat))), (4, fz_i (h 16 (x1.toNat))), (3, fz_i x1), (0, fz_r 15)]) kX3_run rfl (by decide) rfl ?_
                      refine fz_goto (tgt := 247) kX3_run rfl (by decide) ?_
                      refine fz_iincN (ls' := [(3, fz_i (x1 + 1)), (2, fz_i 0), (1, fz_i (x3 + (-1))), (6, fz_i v33), (5, fz_i (h 17 (x1.toNat))), (4, fz_i (h 16 (x1.toNat))), (0, fz_r 15)]) kX3_run rfl (by decide) rfl (by omega) rfl ?_
                      refine fz_goto (tgt := 6) kX3_run rfl (by decide) ?_
                      refine fz_sub (fz_pk_sub (ls' := [(3, fz_i (x1 + 1)), (2, fz_i 0), (1, fz_i (x3 + (-1))), (0, fz_r 15)]) [0, 1, 2, 6] rfl) ?_
                      exact ih9 (x1 + 1) 0 (x3 + (-1)) H4 hI5 hf6 (by omega) (by omega) (by omega) (by first | exact fl_rI_b (by omega) (by omega) hv14 (by omega) (by omega) rfl rfl ⟨by omega, by omega, by omega, by omega, by omega⟩ (by omega) e34 lost lost (by omega) lost | exact fl_rI_u hv14 (by omega) (by omega) rfl rfl (by omega) e34 lost (by omega) (by omega) | exact fl_rI_q (by omega) hv14 (by omega) (by omega) rfl rfl (by omega) e34 (by omega) (by omega) | exact fl_rI_num hv14 (by omega) (by omega) rfl rfl lost ⟨by omega, by omega⟩ (by omega) rfl | exact fl_rI_nam hv14 (by omega) (by omega) rfl rfl lost ⟨by omega, by omega⟩ (by omega) ⟨by omega, by omega⟩ rfl | exact fl_rI_skip hv14 (by omega) (by omega)) (by omega)
                    · refine fz_iload kX3_run rfl rfl ?_
                      refine fz_goto (tgt := 162) kX3_run rfl (by decide) ?_
                      refine fz_istore_n (ls' := [(2, fz_i (h 17 (x1.toNat))), (1, fz_i (x3 + (-1))), (6, fz_i v33), (5, fz_i (h 17 (x1.toNat))), (4, fz_i (h 16 (x1.toNat))), (3, fz_i x1), (0, fz_r 15)]) kX3_run rfl (by decide) rfl ?_
                      refine fz_goto (tgt := 247) kX3_run rfl (by decide) ?_
                      refine fz_iincN (ls' := [(3, fz_i (x1 + 1)), (2, fz_i (h 17 (x1.toNat))), (1, fz_i (x3 + (-1))), (6, fz_i v33), (5, fz_i (h 17 (x1.toNat))), (4, fz_i (h 16 (x1.toNat))), (0, fz_r 15)]) kX3_run rfl (by decide) rfl (by omega) rfl ?_
                      refine fz_goto (tgt := 6) kX3_run rfl (by decide) ?_
                      refine fz_sub (fz_pk_sub (ls' := [(3, fz_i (x1 + 1)), (2, fz_i (h 17 (x1.toNat))), (1, fz_i (x3 + (-1))), (0, fz_r 15)]) [0, 1, 2, 6] rfl) ?_
                      exact ih9 (x1 + 1) (h 17 (x1.toNat)) (x3 + (-1)) H4 hI5 hf6 (by omega) (by omega) (by omega) (by first | exact fl_rI_b (by omega) (by omega) hv14 (by omega) (by omega) rfl rfl ⟨by omega, by omega, by omega, by omega, by omega⟩ (by omega) e34 lost lost (by omega) lost | exact fl_rI_u hv14 (by omega) (by omega) rfl rfl (by omega) e34 lost (by omega) (by omega) | exact fl_rI_q (by omega) hv14 (by omega) (by omega) rfl rfl (by omega) e34 (by omega) (by omega) | exact fl_rI_num hv14 (by omega) (by omega) rfl rfl lost ⟨by omega, by omega⟩ (by omega) rfl | exact fl_rI_nam hv14 (by omega) (by omega) rfl rfl lost ⟨by omega, by omega⟩ (by omega) ⟨by omega, by omega⟩ rfl | exact fl_rI_skip hv14 (by omega) (by omega)) (by omega)
                · refine fz_iload kX3_run rfl rfl ?_
                  exact fz_iret kX3_run rfl rfl (fun _ => ⟨hI5, hf6, _, rfl, (by omega), (by first | exact fl_rI_sem hv14 (by omega) (by omega) rfl rfl (by omega) e34 (by omega) | exact fl_rI_bad hv14 (by omega) (by omega) rfl rfl (by omega) (by omega) (by omega) | exact fl_rI_one hv14 (by omega) (by omega) rfl rfl ⟨by omega, by omega, by omega, by omega, by omega⟩ ⟨by omega, by omega⟩ e34 | exact fl_rI_emp hv14 (by omega) (by omega) rfl rfl (by omega) (by omega) | exact fl_rI_end hv14 (by omega))⟩)
              · refine fz_iconst ⟨by decide, by decide⟩ kX3_run rfl ?_
                exact fz_iret kX3_run rfl rfl (fun _ => ⟨hI5, hf6, _, rfl, (by omega), (by first | exact fl_rI_sem hv14 (by omega) (by omega) rfl rfl (by omega) lost (by omega) | exact fl_rI_bad hv14 (by omega) (by omega) rfl rfl (by omega) (by omega) (by omega) | exact fl_rI_one hv14 (by omega) (by omega) rfl rfl ⟨by omega, by omega, by omega, by omega, by omega⟩ ⟨by omega, by omega⟩ lost | exact fl_rI_emp hv14 (by omega) (by omega) rfl rfl (by omega) (by omega) | exact fl_rI_end hv14 (by omega))⟩)
            · refine fz_iload_n kX3_run rfl rfl ?_
              refine fz_sipush ⟨by decide, by decide⟩ kX3_run rfl ?_
              refine fz_icmp_ge (tgt := 81) kX3_run rfl (by decide) (fun c82 => ?_) (fun c82 => ?_)
              · refine fz_iconst ⟨by decide, by decide⟩ kX3_run rfl ?_
                exact fz_iret kX3_run rfl rfl (fun _ => ⟨hI5, hf6, _, rfl, (by omega), (by first | exact fl_rI_sem hv14 (by omega) (by omega) rfl rfl (by omega) lost (by omega) | exact fl_rI_bad hv14 (by omega) (by omega) rfl rfl (by omega) (by omega) (by omega) | exact fl_rI_one hv14 (by omega) (by omega) rfl rfl ⟨by omega, by omega, by omega, by omega, by omega⟩ ⟨by omega, by omega⟩ lost | exact fl_rI_emp hv14 (by omega) (by omega) rfl rfl (by omega) (by omega) | exact fl_rI_end hv14 (by omega))⟩)
              · refine fz_iload kX3_run rfl rfl ?_
                refine fz_bipush ⟨by decide, by decide⟩ kX3_run rfl ?_
                refine fz_icmp_ne (tgt := 83) kX3_run rfl (by decide) (fun c84 => ?_) (fun c84 => ?_)
                · exfalso; omega
                · refine fz_iload kX3_run rfl rfl ?_
                  refine fz_if_lt (tgt := 81) kX3_run rfl (by decide) (fun c85 => ?_) (fun c85 => ?_)
                  · refine fz_iconst ⟨by decide, by decide⟩ kX3_run rfl ?_
                    exact fz_iret kX3_run rfl rfl (fun _ => ⟨hI5, hf6, _, rfl, (by omega), (by first | exact fl_rI_sem hv14 (by omega) (by omega) rfl rfl (by omega) lost (by omega) | exact fl_rI_bad hv14 (by omega) (by omega) rfl rfl (by omega) (by omega) (by omega) | exact fl_rI_one hv14 (by omega) (by omega) rfl rfl ⟨by omega, by omega, by omega, by omega, by omega⟩ ⟨by omega, by omega⟩ lost | exact fl_rI_emp hv14 (by omega) (by omega) rfl rfl (by omega) (by omega) | exact fl_rI_end hv14 (by omega))⟩)
                  · refine fz_iload kX3_run rfl rfl ?_
                    refine fz_aload_n kX3_run rfl rfl ?_
                    refine fz_getR (t := 19) kX3_run rfl rfl ?_
                    refine fz_alen (n := 6) kX3_run rfl rfl (Or.inl rfl) (by decide) ?_
                    refine fz_icmp_lt (tgt := 83) kX3_run rfl (by decide) (fun c87 => ?_) (fun c87 => ?_)
                    · refine fz_aload_n kX3_run rfl rfl ?_
                      refine fz_getR (t := 18) kX3_run rfl rfl ?_
                      refine fz_iload_n kX3_run rfl rfl ?_
                      refine fz_iload kX3_run rfl rfl ?_
                      refine fz_bipush ⟨by decide, by decide⟩ kX3_run rfl ?_
                      refine fz_icmp_ne (tgt := 100) kX3_run rfl (by decide) (fun c88 => ?_) (fun c88 => ?_)
                      · refine fz_aload_n kX3_run rfl rfl ?_
                        refine fz_getR (t := 19) kX3_run rfl rfl ?_
                        refine fz_iload kX3_run rfl rfl ?_
                        refine fz_ialdV (n := 6) (v := h 19 ((h 17 (x1.toNat)).toNat)) kX3_run rfl rfl (by omega) (by omega) (hf6 19 _ rfl) ?_
                        have b89 : (-2147483648) ≤ h 19 ((h 17 (x1.toNat)).toNat) ∧ h 19 ((h 17 (x1.toNat)).toNat) ≤ 2147483647 := hI.1 19 _
                        refine fz_iast (n := 128) kX3_run rfl rfl (by omega) (by omega) ?_
                        refine fz_nmu (S := [(18, 99999)]) (h0 := h) (fz_Iv_up hI5 (by decide) (show ((-2147483648) : Int) ≤ (h 19 ((h 17 (x1.toNat)).toNat)) by omega) (show ((h 19 ((h 17 (x1.toNat)).toNat)) : Int) ≤ 2147483647 by omega)) (fz_fr_up hf6 rfl) (fun H90 hI91 hf92 e93 => ?_)
                        refine fz_iincN (ls' := [(1, fz_i (x3 + 1)), (5, fz_i (h 17 (x1.toNat))), (4, fz_i (h 16 (x1.toNat))), (3, fz_i x1), (2, fz_i x2), (0, fz_r 15)]) kX3_run rfl (by decide) rfl (by omega) rfl ?_
                        refine fz_goto (tgt := 247) kX3_run rfl (by decide) ?_
                        refine fz_iincN (ls' := [(3, fz_i (x1 + 1)), (1, fz_i (x3 + 1)), (5, fz_i (h 17 (x1.toNat))), (4, fz_i (h 16 (x1.toNat))), (2, fz_i x2), (0, fz_r 15)]) kX3_run rfl (by decide) rfl (by omega) rfl ?_
                        refine fz_goto (tgt := 6) kX3_run rfl (by decide) ?_
                        refine fz_sub (fz_pk_sub (ls' := [(3, fz_i (x1 + 1)), (2, fz_i x2), (1, fz_i (x3 + 1)), (0, fz_r 15)]) [0, 4, 1, 5] rfl) ?_
                        exact ih9 (x1 + 1) x2 (x3 + 1) H90 hI91 hf92 (by omega) (by omega) (by omega) (by first | exact fl_rI_b (by omega) (by omega) hv14 (by omega) (by omega) rfl rfl ⟨by omega, by omega, by omega, by omega, by omega⟩ (by omega) lost lost lost (by omega) lost | exact fl_rI_u hv14 (by omega) (by omega) rfl rfl (by omega) lost lost (by omega) (by omega) | exact fl_rI_q (by omega) hv14 (by omega) (by omega) rfl rfl (by omega) lost (by omega) (by omega) | exact fl_rI_num hv14 (by omega) (by omega) rfl rfl e93 ⟨by omega, by omega⟩ (by omega) rfl | exact fl_rI_nam hv14 (by omega) (by omega) rfl rfl e93 ⟨by omega, by omega⟩ (by omega) ⟨by omega, by omega⟩ rfl | exact fl_rI_skip hv14 (by omega) (by omega)) (by omega)
                      · exfalso; omega
                    · refine fz_iconst ⟨by decide, by decide⟩ kX3_run rfl ?_
                      exact fz_iret kX3_run rfl rfl (fun _ => ⟨hI5, hf6, _, rfl, (by omega), (by first | exact fl_rI_sem hv14 (by omega) (by omega) rfl rfl (by omega) lost (by omega) | exact fl_rI_bad hv14 (by omega) (by omega) rfl rfl (by omega) (by omega) (by omega) | exact fl_rI_one hv14 (by omega) (by omega) rfl rfl ⟨by omega, by omega, by omega, by omega, by omega⟩ ⟨by omega, by omega⟩ lost | exact fl_rI_emp hv14 (by omega) (by omega) rfl rfl (by omega) (by omega) | exact fl_rI_end hv14 (by omega))⟩)
        · refine fz_goto (tgt := 247) kX3_run rfl (by decide) ?_
          refine fz_iincN (ls' := [(3, fz_i (x1 + 1)), (2, fz_i x2), (1, fz_i x3), (0, fz_r 15)]) kX3_run rfl (by decide) rfl (by omega) rfl ?_
          refine fz_goto (tgt := 6) kX3_run rfl (by decide) ?_
          exact ih9 (x1 + 1) x2 x3 H4 hI5 hf6 (by omega) (by omega) (by omega) (by first | exact fl_rI_b (by omega) (by omega) hv14 (by omega) (by omega) rfl rfl ⟨by omega, by omega, by omega, by omega, by omega⟩ (by omega) lost lost lost (by omega) lost | exact fl_rI_u hv14 (by omega) (by omega) rfl rfl (by omega) lost lost (by omega) (by omega) | exact fl_rI_q (by omega) hv14 (by omega) (by omega) rfl rfl (by omega) lost (by omega) (by omega) | exact fl_rI_num hv14 (by omega) (by omega) rfl rfl lost ⟨by omega, by omega⟩ (by omega) rfl | exact fl_rI_nam hv14 (by omega) (by omega) rfl rfl lost ⟨by omega, by omega⟩ (by omega) ⟨by omega, by omega⟩ rfl | exact fl_rI_skip hv14 (by omega) (by omega)) (by omega)
  exact lp8 _ 0 0 0 h hI hf (by omega) (by omega) (by omega) (fl_rI_0) (Nat.lt_succ_self _)

abbrev qX3_volume (h : fz_H) (w a d m t p : Int) : fz_H → Option fz_V → Prop := fun h' r0 => fz_Iv h' ∧ fz_fr [(18, 99999), (19, 99999)] h h' ∧ ∃ r : Int, r0 = some (fz_i r) ∧ (0 ≤ r ∧ r ≤ 99) ∧ (r = fl_vC h w a d m t p)
set_option maxHeartbeats 1000000 in
set_option maxRecDepth 100000 in
theorem sX3_volume (h : fz_H) (hI : fz_Iv h) (w a d m t p : Int) (hp0 : 0 ≤ w ∧ w ≤ 9) (hp1 : 0 ≤ a) (hp2 : 0 ≤ d) : fz_R 2 mX3_volume 0 [(0, fz_r 15), (1, fz_i w), (2, fz_i a), (3, fz_i d), (4, fz_i m), (5, fz_i t), (6, fz_i p)] [] h (qX3_volume h w a d m t p) := by
  refine fz_knowl (fun hk => ?_)
  have hr_w : -2147483648 ≤ w ∧ w < 2147483648 := hk _ (List.Mem.tail _ (List.Mem.head _))
  have hr_a : -2147483648 ≤ a ∧ a < 2147483648 := hk _ (List.Mem.tail _ (List.Mem.tail _ (List.Mem.head _)))
  have hr_d : -2147483648 ≤ d ∧ d < 2147483648 := hk _ (List.Mem.tail _ (List.Mem.tail _ (List.Mem.tail _ (List.Mem.head _))))
  have hr_m : -2147483648 ≤ m ∧ m < 2147483648 := hk _ (List.Mem.tail _ (List.Mem.tail _ (List.Mem.tail _ (List.Mem.tail _ (List.Mem.head _)))))
  have hr_t : -2147483648 ≤ t ∧ t < 2147483648 := hk _ (List.Mem.tail _ (List.Mem.tail _ (List.Mem.tail _ (List.Mem.tail _ (List.Mem.tail _ (List.Mem.head _))))))
  have hr_p : -2147483648 ≤ p ∧ p < 2147483648 := hk _ (List.Mem.tail _ (List.Mem.tail _ (List.Mem.tail _ (List.Mem.tail _ (List.Mem.tail _ (List.Mem.tail _ (List.Mem.head _)))))))
  clear hk
  have hf : fz_fr [(18, 99999), (19, 99999)] h h := fz_fr_rf
  refine fz_aload_n kX3_volume rfl rfl ?_
  refine fz_getV (v := h 15 4) kX3_volume rfl rfl rfl ?_
  have b1 : 0 ≤ h 15 4 ∧ h 15 4 ≤ 128 := hI.1 15 _
  refine fz_if_ne (tgt := 24) kX3_volume rfl (by decide) (fun c2 => ?_) (fun c2 => ?_)
  · refine fz_aload_n kX3_volume rfl rfl ?_
    refine fz_getR (t := 19) kX3_volume rfl rfl ?_
    refine fz_iconst ⟨by decide, by decide⟩ kX3_volume rfl ?_
    refine fz_iload_n kX3_volume rfl rfl ?_
    refine fz_iast (n := 6) kX3_volume rfl rfl (by omega) (by omega) ?_
    refine fz_nmu (S := [(18, 99999), (19, 99999)]) (h0 := h) (fz_Iv_up hI (by decide) (show ((-2147483648) : Int) ≤ w by omega) (show (w : Int) ≤ 2147483647 by omega)) (fz_fr_up hf rfl) (fun H3 hI4 hf5 e6 => ?_)
    refine fz_aload_n kX3_volume rfl rfl ?_
    refine fz_getR (t := 19) kX3_volume rfl rfl ?_
    refine fz_iconst ⟨by decide, by decide⟩ kX3_volume rfl ?_
    refine fz_iload_n kX3_volume rfl rfl ?_
    refine fz_iast (n := 6) kX3_volume rfl rfl (by omega) (by omega) ?_
    refine fz_nmu (S := [(18, 99999), (19, 99999)]) (h0 := h) (fz_Iv_up hI4 (by decide) (show ((-2147483648) : Int) ≤ a by omega) (show (a : Int) ≤ 2147483647 by omega)) (fz_fr_up hf5 rfl) (fun H7 hI8 hf9 e10 => ?_)
    refine fz_aload_n kX3_volume rfl rfl ?_
    refine fz_getR (t := 19) kX3_volume rfl rfl ?_
    refine fz_iconst ⟨by decide, by decide⟩ kX3_volume rfl ?_
    refine fz_iload_n kX3_volume rfl rfl ?_
    refine fz_iast (n := 6) kX3_volume rfl rfl (by omega) (by omega) ?_
    refine fz_nmu (S := [(18, 99999), (19, 99999)]) (h0 := h) (fz_Iv_up hI8 (by decide) (show ((-2147483648) : Int) ≤ d by omega) (show (d : Int) ≤ 2147483647 by omega)) (fz_fr_up hf9 rfl) (fun H11 hI12 hf13 e14 => ?_)
    refine fz_aload_n kX3_volume rfl rfl ?_
    refine fz_getR (t := 19) kX3_volume rfl rfl ?_
    refine fz_iconst ⟨by decide, by decide⟩ kX3_volume rfl ?_
    refine fz_iload kX3_volume rfl rfl ?_
    refine fz_iast (n := 6) kX3_volume rfl rfl (by omega) (by omega) ?_
    refine fz_nmu (S := [(18, 99999), (19, 99999)]) (h0 := h) (fz_Iv_up hI12 (by decide) (show ((-2147483648) : Int) ≤ m by omega) (show (m : Int) ≤ 2147483647 by omega)) (fz_fr_up hf13 rfl) (fun H15 hI16 hf17 e18 => ?_)
    refine fz_aload_n kX3_volume rfl rfl ?_
    refine fz_getR (t := 19) kX3_volume rfl rfl ?_
    refine fz_iconst ⟨by decide, by decide⟩ kX3_volume rfl ?_
    refine fz_iload kX3_volume rfl rfl ?_
    refine fz_iast (n := 6) kX3_volume rfl rfl (by omega) (by omega) ?_
    refine fz_nmu (S := [(18, 99999), (19, 99999)]) (h0 := h) (fz_Iv_up hI16 (by decide) (show ((-2147483648) : Int) ≤ t by omega) (show (t : Int) ≤ 2147483647 by omega)) (fz_fr_up hf17 rfl) (fun H19 hI20 hf21 e22 => ?_)
    refine fz_aload_n kX3_volume rfl rfl ?_
    refine fz_getR (t := 19) kX3_volume rfl rfl ?_
    refine fz_iconst ⟨by decide, by decide⟩ kX3_volume rfl ?_
    refine fz_iload kX3_volume rfl rfl ?_
    refine fz_iast (n := 6) kX3_volume rfl rfl (by omega) (by omega) ?_
    refine fz_nmu (S := [(18, 99999), (19, 99999)]) (h0 := h) (fz_Iv_up hI20 (by decide) (show ((-2147483648) : Int) ≤ p by omega) (show (p : Int) ≤ 2147483647 by omega)) (fz_fr_up hf21 rfl) (fun H23 hI24 hf25 e26 => ?_)
    refine fz_iconst ⟨by decide, by decide⟩ kX3_volume rfl ?_
    refine fz_bipush ⟨by decide, by decide⟩ kX3_volume rfl ?_
    refine fz_aload_n kX3_volume rfl rfl ?_
    refine fz_callV (d' := 1) (M' := mX3_run) (As := []) (st := [fz_i 99, fz_i 0]) kX3_volume rfl rfl vX3_run rfl rfl rfl rfl (Nat.le_of_ble_eq_true rfl) (Nat.le_of_ble_eq_true rfl) (by decide) (sX3_run H23 hI24  ) (fun H27 r28 q29 o30 => ?_)
    obtain ⟨hI31, hf32, y35, rfl, f33, f34⟩ := q29
    clear o30
    have hf36 := fz_fr_tr hf25 hf32 (show fz_su [(18, 99999)] [(18, 99999), (19, 99999)] = true from rfl)
    refine fz_min kX3_volume rfl rfl fz_sMn fz_iMm fz_cMn (by decide) (Nat.le_of_ble_eq_true rfl) ?_
    refine fz_max kX3_volume rfl rfl fz_sMx fz_iMm fz_cMx (by decide) (Nat.le_of_ble_eq_true rfl) ?_
    exact fz_iret kX3_volume rfl rfl (fun _ => ⟨hI31, hf36, _, rfl, (by omega), (by first | exact fl_vC_0 (by omega) rfl | exact fl_vC_1 (by omega) (fl_n6_in e6 e10 e14 e18 e22 e26) (funext fun s => hf25 16 s rfl) (funext fun s => hf25 17 s rfl) (hf25 15 4 rfl) f34 rfl)⟩)
  · refine fz_iconst ⟨by decide, by decide⟩ kX3_volume rfl ?_
    refine fz_iconst ⟨by decide, by decide⟩ kX3_volume rfl ?_
    refine fz_iload_n kX3_volume rfl rfl ?_
    refine fz_imulN kX3_volume rfl (by omega) ?_
    refine fz_iload_n kX3_volume rfl rfl ?_
    refine fz_bipush ⟨by decide, by decide⟩ kX3_volume rfl ?_
    refine fz_idivN kX3_volume rfl (by omega) (by omega) (by omega) ?_
    refine fz_isubN kX3_volume rfl (by omega) ?_
    refine fz_iload_n kX3_volume rfl rfl ?_
    refine fz_iconst ⟨by decide, by decide⟩ kX3_volume rfl ?_
    refine fz_idivN kX3_volume rfl (by omega) (by omega) (by omega) ?_
    refine fz_isubN kX3_volume rfl (by omega) ?_
    refine fz_max kX3_volume rfl rfl fz_sMx fz_iMm fz_cMx (by decide) (Nat.le_of_ble_eq_true rfl) ?_
    exact fz_iret kX3_volume rfl rfl (fun _ => ⟨hI, hf, _, rfl, (by omega), (by first | exact fl_vC_0 (by omega) rfl | exact fl_vC_1 (by omega) (fl_n6_in lost lost lost lost lost lost) (funext fun s => lost 16 s rfl) (funext fun s => lost 17 s rfl) (lost 15 4 rfl) lost rfl)⟩)
