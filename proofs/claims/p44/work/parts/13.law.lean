/-! ===== what the methods keep ===== -/
abbrev qX3_clear (h : fz_H) : fz_H → Option fz_V → Prop := fun h' r0 => fz_Iv h' ∧ fz_fr [(21, 4)] h h' ∧ r0 = none
set_option maxHeartbeats 1000000 in
set_option maxRecDepth 100000 in
theorem sX3_clear (h : fz_H) (hI : fz_Iv h) : fz_R 0 mX3_clear 0 [(0, fz_r 21)] [] h (qX3_clear h) := by
  have hf : fz_fr [(21, 4)] h h := fz_fr_rf
  refine fz_aload_n kX3_clear rfl rfl ?_
  refine fz_iconst ⟨by decide, by decide⟩ kX3_clear rfl ?_
  refine fz_putI kX3_clear rfl rfl rfl ?_
  refine fz_nmu (S := [(21, 4)]) (h0 := h) (fz_Iv_up hI (by decide) (show (0 : Int) ≤ 0 by decide) (show (0 : Int) ≤ 128 by decide)) (fz_fr_up hf rfl) (fun H1 hI2 hf3 e4 => ?_)
  have k5 : H1 21 4 = 0 := by rw [e4]; exact fz_up_e
  clear e4
  exact fz_vret kX3_clear rfl rfl ⟨hI2, hf3, rfl⟩

abbrev qX3_add (h : fz_H) (sp op : Int) : fz_H → Option fz_V → Prop := fun h' r0 => fz_Iv h' ∧ fz_fr [(21, 4), (22, 99999), (23, 99999)] h h' ∧ ∃ r : Int, r0 = some (fz_i r) ∧ ((-1) ≤ r ∧ r ≤ 127)
set_option maxHeartbeats 1000000 in
set_option maxRecDepth 100000 in
theorem sX3_add (h : fz_H) (hI : fz_Iv h) (sp op : Int) : fz_R 0 mX3_add 0 [(0, fz_r 21), (1, fz_i sp), (2, fz_i op)] [] h (qX3_add h sp op) := by
  refine fz_knowl (fun hk => ?_)
  have hr_sp : -2147483648 ≤ sp ∧ sp < 2147483648 := hk _ (List.Mem.tail _ (List.Mem.head _))
  have hr_op : -2147483648 ≤ op ∧ op < 2147483648 := hk _ (List.Mem.tail _ (List.Mem.tail _ (List.Mem.head _)))
  clear hk
  have hf : fz_fr [(21, 4), (22, 99999), (23, 99999)] h h := fz_fr_rf
  refine fz_aload_n kX3_add rfl rfl ?_
  refine fz_getV (v := h 21 4) kX3_add rfl rfl rfl ?_
  have b1 : 0 ≤ h 21 4 ∧ h 21 4 ≤ 128 := hI.1 21 _
  refine fz_sipush ⟨by decide, by decide⟩ kX3_add rfl ?_
  refine fz_icmp_lt (tgt := 12) kX3_add rfl (by decide) (fun c2 => ?_) (fun c2 => ?_)
  · refine fz_aload_n kX3_add rfl rfl ?_
    refine fz_getR (t := 22) kX3_add rfl rfl ?_
    refine fz_aload_n kX3_add rfl rfl ?_
    refine fz_getV (v := h 21 4) kX3_add rfl rfl rfl ?_
    refine fz_iload_n kX3_add rfl rfl ?_
    refine fz_iast (n := 128) kX3_add rfl rfl (by omega) (by omega) ?_
    refine fz_nmu (S := [(21, 4), (22, 99999), (23, 99999)]) (h0 := h) (fz_Iv_up hI (by decide) (show ((-2147483648) : Int) ≤ sp by omega) (show (sp : Int) ≤ 2147483647 by omega)) (fz_fr_up hf rfl) (fun H3 hI4 hf5 e6 => ?_)
    have k7 : H3 21 4 = (h 21 4) := by rw [e6]; exact (fz_up_o (by decide)).trans rfl
    clear e6
    refine fz_aload_n kX3_add rfl rfl ?_
    refine fz_getR (t := 23) kX3_add rfl rfl ?_
    refine fz_aload_n kX3_add rfl rfl ?_
    refine fz_getV (v := (h 21 4)) kX3_add rfl rfl k7 ?_
    refine fz_iload_n kX3_add rfl rfl ?_
    refine fz_iast (n := 128) kX3_add rfl rfl (by omega) (by omega) ?_
    refine fz_nmu (S := [(21, 4), (22, 99999), (23, 99999)]) (h0 := h) (fz_Iv_up hI4 (by decide) (show ((-2147483648) : Int) ≤ op by omega) (show (op : Int) ≤ 2147483647 by omega)) (fz_fr_up hf5 rfl) (fun H8 hI9 hf10 e11 => ?_)
    have k12 : H8 21 4 = (h 21 4) := by rw [e11]; exact (fz_up_o (by decide)).trans k7
    clear e11
    refine fz_aload_n kX3_add rfl rfl ?_
    refine fz_dup rfl kX3_add rfl ?_
    refine fz_getV (v := (h 21 4)) kX3_add rfl rfl k12 ?_
    refine fz_iconst ⟨by decide, by decide⟩ kX3_add rfl ?_
    refine fz_iaddN kX3_add rfl (by omega) ?_
    refine fz_putI kX3_add rfl rfl rfl ?_
    refine fz_nmu (S := [(21, 4), (22, 99999), (23, 99999)]) (h0 := h) (fz_Iv_up hI9 (by decide) (show (0 : Int) ≤ ((h 21 4) + 1) by omega) (show (((h 21 4) + 1) : Int) ≤ 128 by omega)) (fz_fr_up hf10 rfl) (fun H13 hI14 hf15 e16 => ?_)
    have k17 : H13 21 4 = ((h 21 4) + 1) := by rw [e16]; exact fz_up_e
    clear e16
    refine fz_aload_n kX3_add rfl rfl ?_
    refine fz_getV (v := ((h 21 4) + 1)) kX3_add rfl rfl k17 ?_
    refine fz_iconst ⟨by decide, by decide⟩ kX3_add rfl ?_
    refine fz_isubN kX3_add rfl (by omega) ?_
    exact fz_iret kX3_add rfl rfl (fun _ => ⟨hI14, hf15, _, rfl, (by omega)⟩)
  · refine fz_iconst ⟨by decide, by decide⟩ kX3_add rfl ?_
    exact fz_iret kX3_add rfl rfl (fun _ => ⟨hI, hf, _, rfl, (by omega)⟩)

abbrev qX3_leadHere (h : fz_H) (sp : Int) : fz_H → Option fz_V → Prop := fun h' r0 => fz_Iv h' ∧ fz_fr [(23, 99999)] h h' ∧ r0 = none
set_option maxHeartbeats 1000000 in
set_option maxRecDepth 100000 in
theorem sX3_leadHere (h : fz_H) (hI : fz_Iv h) (sp : Int) : fz_R 0 mX3_leadHere 0 [(0, fz_r 21), (1, fz_i sp)] [] h (qX3_leadHere h sp) := by
  refine fz_knowl (fun hk => ?_)
  have hr_sp : -2147483648 ≤ sp ∧ sp < 2147483648 := hk _ (List.Mem.tail _ (List.Mem.head _))
  clear hk
  have hf : fz_fr [(23, 99999)] h h := fz_fr_rf
  refine fz_iload_n kX3_leadHere rfl rfl ?_
  refine fz_if_lt (tgt := 22) kX3_leadHere rfl (by decide) (fun c1 => ?_) (fun c1 => ?_)
  · exact fz_vret kX3_leadHere rfl rfl ⟨hI, hf, rfl⟩
  · refine fz_iload_n kX3_leadHere rfl rfl ?_
    refine fz_aload_n kX3_leadHere rfl rfl ?_
    refine fz_getV (v := h 21 4) kX3_leadHere rfl rfl rfl ?_
    have b2 : 0 ≤ h 21 4 ∧ h 21 4 ≤ 128 := hI.1 21 _
    refine fz_icmp_ge (tgt := 22) kX3_leadHere rfl (by decide) (fun c3 => ?_) (fun c3 => ?_)
    · exact fz_vret kX3_leadHere rfl rfl ⟨hI, hf, rfl⟩
    · refine fz_aload_n kX3_leadHere rfl rfl ?_
      refine fz_getR (t := 23) kX3_leadHere rfl rfl ?_
      refine fz_iload_n kX3_leadHere rfl rfl ?_
      refine fz_aload_n kX3_leadHere rfl rfl ?_
      refine fz_getV (v := h 21 4) kX3_leadHere rfl rfl rfl ?_
      refine fz_iast (n := 128) kX3_leadHere rfl rfl (by omega) (by omega) ?_
      refine fz_nmu (S := [(23, 99999)]) (h0 := h) (fz_Iv_up hI (by decide) (show ((-2147483648) : Int) ≤ (h 21 4) by omega) (show ((h 21 4) : Int) ≤ 2147483647 by omega)) (fz_fr_up hf rfl) (fun H4 hI5 hf6 e7 => ?_)
      clear e7
      exact fz_vret kX3_leadHere rfl rfl ⟨hI5, hf6, rfl⟩

abbrev qX3_become (h : fz_H) : fz_H → Option fz_V → Prop := fun h' r0 => fz_Iv h' ∧ fz_fr [(15, 4), (16, 99999), (17, 99999)] h h' ∧ r0 = none
set_option maxHeartbeats 1000000 in
set_option maxRecDepth 100000 in
theorem sX3_become (h : fz_H) (hI : fz_Iv h) : fz_R 1 mX3_become 0 [(0, fz_r 15), (1, fz_r 21)] [] h (qX3_become h) := by
  have hf : fz_fr [(15, 4), (16, 99999), (17, 99999)] h h := fz_fr_rf
  refine fz_aload_n kX3_become rfl rfl ?_
  refine fz_getR (t := 22) kX3_become rfl rfl ?_
  refine fz_iconst ⟨by decide, by decide⟩ kX3_become rfl ?_
  refine fz_aload_n kX3_become rfl rfl ?_
  refine fz_getR (t := 16) kX3_become rfl rfl ?_
  refine fz_iconst ⟨by decide, by decide⟩ kX3_become rfl ?_
  refine fz_sipush ⟨by decide, by decide⟩ kX3_become rfl ?_
  refine fz_copyi (n1 := 128) (n2 := 128) kX3_become rfl rfl rfl rfl (by omega) (by omega) (by omega) (by omega) (by omega) (by decide) (Nat.le_of_ble_eq_true rfl) ?_
  refine fz_nmu (S := [(15, 4), (16, 99999), (17, 99999)]) (h0 := h) (fz_Iv_cp hI (by decide) (fun k l _ _ _ => hI.1 22 k)) (fz_fr_cp hf (fun _ => rfl)) (fun H1 hI2 hf3 e4 => ?_)
  clear e4
  refine fz_aload_n kX3_become rfl rfl ?_
  refine fz_getR (t := 23) kX3_become rfl rfl ?_
  refine fz_iconst ⟨by decide, by decide⟩ kX3_become rfl ?_
  refine fz_aload_n kX3_become rfl rfl ?_
  refine fz_getR (t := 17) kX3_become rfl rfl ?_
  refine fz_iconst ⟨by decide, by decide⟩ kX3_become rfl ?_
  refine fz_sipush ⟨by decide, by decide⟩ kX3_become rfl ?_
  refine fz_copyi (n1 := 128) (n2 := 128) kX3_become rfl rfl rfl rfl (by omega) (by omega) (by omega) (by omega) (by omega) (by decide) (Nat.le_of_ble_eq_true rfl) ?_
  refine fz_nmu (S := [(15, 4), (16, 99999), (17, 99999)]) (h0 := h) (fz_Iv_cp hI2 (by decide) (fun k l _ _ _ => hI2.1 23 k)) (fz_fr_cp hf3 (fun _ => rfl)) (fun H5 hI6 hf7 e8 => ?_)
  clear e8
  refine fz_aload_n kX3_become rfl rfl ?_
  refine fz_aload_n kX3_become rfl rfl ?_
  refine fz_getV (v := h 21 4) kX3_become rfl rfl (hf7 21 4 rfl) ?_
  have b9 : 0 ≤ h 21 4 ∧ h 21 4 ≤ 128 := hI.1 21 _
  refine fz_putI kX3_become rfl rfl rfl ?_
  refine fz_nmu (S := [(15, 4), (16, 99999), (17, 99999)]) (h0 := h) (fz_Iv_up hI6 (by decide) (show (0 : Int) ≤ (h 21 4) by omega) (show ((h 21 4) : Int) ≤ 128 by omega)) (fz_fr_up hf7 rfl) (fun H10 hI11 hf12 e13 => ?_)
  have k14 : H10 15 4 = (h 21 4) := by rw [e13]; exact fz_up_e
  clear e13
  exact fz_vret kX3_become rfl rfl ⟨hI11, hf12, rfl⟩

abbrev qX3_joined (h : fz_H) (c x y : Int) : fz_H → Option fz_V → Prop := fun h' r0 => h' = h ∧ ∃ r : Int, r0 = some (fz_i r) ∧ ((-2147483648) ≤ r ∧ r ≤ 2147483647)
set_option maxHeartbeats 1000000 in
set_option maxRecDepth 100000 in
theorem sX3_joined (h : fz_H) (hI : fz_Iv h) (c x y : Int) : fz_R 0 mX3_joined 0 [(0, fz_i c), (1, fz_i x), (2, fz_i y)] [] h (qX3_joined h c x y) := by
  refine fz_knowl (fun hk => ?_)
  have hr_c : -2147483648 ≤ c ∧ c < 2147483648 := hk _ (List.Mem.head _)
  have hr_x : -2147483648 ≤ x ∧ x < 2147483648 := hk _ (List.Mem.tail _ (List.Mem.head _))
  have hr_y : -2147483648 ≤ y ∧ y < 2147483648 := hk _ (List.Mem.tail _ (List.Mem.tail _ (List.Mem.head _)))
  clear hk
  refine fz_iload_n kX3_joined rfl rfl ?_
  by_cases c1 : (c : Int) = 37
  · refine fz_lsw (tgt := 177) kX3_joined rfl (by decide) (show Op.lookupswitch.offset [(37, 176), (38, 105), (42, 160), (43, 152), (45, 156), (47, 164), (60, 119), (61, 130), (62, 141), (124, 91)] 188 c = 176 by exact fz_osy c1) (by decide) ?_
    refine fz_iload_n kX3_joined rfl rfl ?_
    refine fz_if_ne (tgt := 185) kX3_joined rfl (by decide) (fun c2 => ?_) (fun c2 => ?_)
    · refine fz_iload_n kX3_joined rfl rfl ?_
      refine fz_iload_n kX3_joined rfl rfl ?_
      refine fz_irem (by omega) kX3_joined rfl ?_
      refine fz_nmw (fun z3 e4 => ?_)
      exact fz_iret kX3_joined rfl rfl (fun _ => ⟨rfl, _, rfl, (by omega)⟩)
    · refine fz_iconst ⟨by decide, by decide⟩ kX3_joined rfl ?_
      refine fz_goto (tgt := 188) kX3_joined rfl (by decide) ?_
      exact fz_iret kX3_joined rfl rfl (fun _ => ⟨rfl, _, rfl, (by omega)⟩)
  by_cases c5 : (c : Int) = 38
  · refine fz_lsw (tgt := 106) kX3_joined rfl (by decide) (show Op.lookupswitch.offset [(37, 176), (38, 105), (42, 160), (43, 152), (45, 156), (47, 164), (60, 119), (61, 130), (62, 141), (124, 91)] 188 c = 105 by rw [fz_osw c1]; exact fz_osy c5) (by decide) ?_
    refine fz_iload_n kX3_joined rfl rfl ?_
    refine fz_if_eq (tgt := 118) kX3_joined rfl (by decide) (fun c6 => ?_) (fun c6 => ?_)
    · refine fz_iconst ⟨by decide, by decide⟩ kX3_joined rfl ?_
      exact fz_iret kX3_joined rfl rfl (fun _ => ⟨rfl, _, rfl, (by omega)⟩)
    · refine fz_iload_n kX3_joined rfl rfl ?_
      refine fz_if_eq (tgt := 118) kX3_joined rfl (by decide) (fun c7 => ?_) (fun c7 => ?_)
      · refine fz_iconst ⟨by decide, by decide⟩ kX3_joined rfl ?_
        exact fz_iret kX3_joined rfl rfl (fun _ => ⟨rfl, _, rfl, (by omega)⟩)
      · refine fz_iconst ⟨by decide, by decide⟩ kX3_joined rfl ?_
        refine fz_goto (tgt := 119) kX3_joined rfl (by decide) ?_
        exact fz_iret kX3_joined rfl rfl (fun _ => ⟨rfl, _, rfl, (by omega)⟩)
  by_cases c8 : (c : Int) = 42
  · refine fz_lsw (tgt := 161) kX3_joined rfl (by decide) (show Op.lookupswitch.offset [(37, 176), (38, 105), (42, 160), (43, 152), (45, 156), (47, 164), (60, 119), (61, 130), (62, 141), (124, 91)] 188 c = 160 by rw [fz_osw c1, fz_osw c5]; exact fz_osy c8) (by decide) ?_
    refine fz_iload_n kX3_joined rfl rfl ?_
    refine fz_iload_n kX3_joined rfl rfl ?_
    refine fz_imul kX3_joined rfl ?_
    refine fz_nmw (fun z9 e10 => ?_)
    exact fz_iret kX3_joined rfl rfl (fun _ => ⟨rfl, _, rfl, (by omega)⟩)
  by_cases c11 : (c : Int) = 43
  · refine fz_lsw (tgt := 153) kX3_joined rfl (by decide) (show Op.lookupswitch.offset [(37, 176), (38, 105), (42, 160), (43, 152), (45, 156), (47, 164), (60, 119), (61, 130), (62, 141), (124, 91)] 188 c = 152 by rw [fz_osw c1, fz_osw c5, fz_osw c8]; exact fz_osy c11) (by decide) ?_
    refine fz_iload_n kX3_joined rfl rfl ?_
    refine fz_iload_n kX3_joined rfl rfl ?_
    refine fz_iadd kX3_joined rfl ?_
    refine fz_nmw (fun z12 e13 => ?_)
    exact fz_iret kX3_joined rfl rfl (fun _ => ⟨rfl, _, rfl, (by omega)⟩)
  by_cases c14 : (c : Int) = 45
  · refine fz_lsw (tgt := 157) kX3_joined rfl (by decide) (show Op.lookupswitch.offset [(37, 176), (38, 105), (42, 160), (43, 152), (45, 156), (47, 164), (60, 119), (61, 130), (62, 141), (124, 91)] 188 c = 156 by rw [fz_osw c1, fz_osw c5, fz_osw c8, fz_osw c11]; exact fz_osy c14) (by decide) ?_
    refine fz_iload_n kX3_joined rfl rfl ?_
    refine fz_iload_n kX3_joined rfl rfl ?_
    refine fz_isub kX3_joined rfl ?_
    refine fz_nmw (fun z15 e16 => ?_)
    exact fz_iret kX3_joined rfl rfl (fun _ => ⟨rfl, _, rfl, (by omega)⟩)
  by_cases c17 : (c : Int) = 47
  · refine fz_lsw (tgt := 165) kX3_joined rfl (by decide) (show Op.lookupswitch.offset [(37, 176), (38, 105), (42, 160), (43, 152), (45, 156), (47, 164), (60, 119), (61, 130), (62, 141), (124, 91)] 188 c = 164 by rw [fz_osw c1, fz_osw c5, fz_osw c8, fz_osw c11, fz_osw c14]; exact fz_osy c17) (by decide) ?_
    refine fz_iload_n kX3_joined rfl rfl ?_
    refine fz_if_ne (tgt := 173) kX3_joined rfl (by decide) (fun c18 => ?_) (fun c18 => ?_)
    · refine fz_iload_n kX3_joined rfl rfl ?_
      refine fz_iload_n kX3_joined rfl rfl ?_
      refine fz_idiv (by omega) kX3_joined rfl ?_
      refine fz_nmw (fun z19 e20 => ?_)
      exact fz_iret kX3_joined rfl rfl (fun _ => ⟨rfl, _, rfl, (by omega)⟩)
    · refine fz_iconst ⟨by decide, by decide⟩ kX3_joined rfl ?_
      refine fz_goto (tgt := 176) kX3_joined rfl (by decide) ?_
      exact fz_iret kX3_joined rfl rfl (fun _ => ⟨rfl, _, rfl, (by omega)⟩)
  by_cases c21 : (c : Int) = 60
  · refine fz_lsw (tgt := 120) kX3_joined rfl (by decide) (show Op.lookupswitch.offset [(37, 176), (38, 105), (42, 160), (43, 152), (45, 156), (47, 164), (60, 119), (61, 130), (62, 141), (124, 91)] 188 c = 119 by rw [fz_osw c1, fz_osw c5, fz_osw c8, fz_osw c11, fz_osw c14, fz_osw c17]; exact fz_osy c21) (by decide) ?_
    refine fz_iload_n kX3_joined rfl rfl ?_
    refine fz_iload_n kX3_joined rfl rfl ?_
    refine fz_icmp_ge (tgt := 129) kX3_joined rfl (by decide) (fun c22 => ?_) (fun c22 => ?_)
    · refine fz_iconst ⟨by decide, by decide⟩ kX3_joined rfl ?_
      exact fz_iret kX3_joined rfl rfl (fun _ => ⟨rfl, _, rfl, (by omega)⟩)
    · refine fz_iconst ⟨by decide, by decide⟩ kX3_joined rfl ?_
      refine fz_goto (tgt := 130) kX3_joined rfl (by decide) ?_
      exact fz_iret kX3_joined rfl rfl (fun _ => ⟨rfl, _, rfl, (by omega)⟩)
  by_cases c23 : (c : Int) = 61
  · refine fz_lsw (tgt := 131) kX3_joined rfl (by decide) (show Op.lookupswitch.offset [(37, 176), (38, 105), (42, 160), (43, 152), (45, 156), (47, 164), (60, 119), (61, 130), (62, 141), (124, 91)] 188 c = 130 by rw [fz_osw c1, fz_osw c5, fz_osw c8, fz_osw c11, fz_osw c14, fz_osw c17, fz_osw c21]; exact fz_osy c23) (by decide) ?_
    refine fz_iload_n kX3_joined rfl rfl ?_
    refine fz_iload_n kX3_joined rfl rfl ?_
    refine fz_icmp_ne (tgt := 140) kX3_joined rfl (by decide) (fun c24 => ?_) (fun c24 => ?_)
    · refine fz_iconst ⟨by decide, by decide⟩ kX3_joined rfl ?_
      exact fz_iret kX3_joined rfl rfl (fun _ => ⟨rfl, _, rfl, (by omega)⟩)
    · refine fz_iconst ⟨by decide, by decide⟩ kX3_joined rfl ?_
      refine fz_goto (tgt := 141) kX3_joined rfl (by decide) ?_
      exact fz_iret kX3_joined rfl rfl (fun _ => ⟨rfl, _, rfl, (by omega)⟩)
  by_cases c25 : (c : Int) = 62
  · refine fz_lsw (tgt := 142) kX3_joined rfl (by decide) (show Op.lookupswitch.offset [(37, 176), (38, 105), (42, 160), (43, 152), (45, 156), (47, 164), (60, 119), (61, 130), (62, 141), (124, 91)] 188 c = 141 by rw [fz_osw c1, fz_osw c5, fz_osw c8, fz_osw c11, fz_osw c14, fz_osw c17, fz_osw c21, fz_osw c23]; exact fz_osy c25) (by decide) ?_
    refine fz_iload_n kX3_joined rfl rfl ?_
    refine fz_iload_n kX3_joined rfl rfl ?_
    refine fz_icmp_le (tgt := 151) kX3_joined rfl (by decide) (fun c26 => ?_) (fun c26 => ?_)
    · refine fz_iconst ⟨by decide, by decide⟩ kX3_joined rfl ?_
      exact fz_iret kX3_joined rfl rfl (fun _ => ⟨rfl, _, rfl, (by omega)⟩)
    · refine fz_iconst ⟨by decide, by decide⟩ kX3_joined rfl ?_
      refine fz_goto (tgt := 152) kX3_joined rfl (by decide) ?_
      exact fz_iret kX3_joined rfl rfl (fun _ => ⟨rfl, _, rfl, (by omega)⟩)
  by_cases c27 : (c : Int) = 124
  · refine fz_lsw (tgt := 92) kX3_joined rfl (by decide) (show Op.lookupswitch.offset [(37, 176), (38, 105), (42, 160), (43, 152), (45, 156), (47, 164), (60, 119), (61, 130), (62, 141), (124, 91)] 188 c = 91 by rw [fz_osw c1, fz_osw c5, fz_osw c8, fz_osw c11, fz_osw c14, fz_osw c17, fz_osw c21, fz_osw c23, fz_osw c25]; exact fz_osy c27) (by decide) ?_
    refine fz_iload_n kX3_joined rfl rfl ?_
    refine fz_if_ne (tgt := 100) kX3_joined rfl (by decide) (fun c28 => ?_) (fun c28 => ?_)
    · refine fz_iconst ⟨by decide, by decide⟩ kX3_joined rfl ?_
      refine fz_goto (tgt := 105) kX3_joined rfl (by decide) ?_
      exact fz_iret kX3_joined rfl rfl (fun _ => ⟨rfl, _, rfl, (by omega)⟩)
    · refine fz_iload_n kX3_joined rfl rfl ?_
      refine fz_if_eq (tgt := 104) kX3_joined rfl (by decide) (fun c29 => ?_) (fun c29 => ?_)
      · refine fz_iconst ⟨by decide, by decide⟩ kX3_joined rfl ?_
        exact fz_iret kX3_joined rfl rfl (fun _ => ⟨rfl, _, rfl, (by omega)⟩)
      · refine fz_iconst ⟨by decide, by decide⟩ kX3_joined rfl ?_
        refine fz_goto (tgt := 105) kX3_joined rfl (by decide) ?_
        exact fz_iret kX3_joined rfl rfl (fun _ => ⟨rfl, _, rfl, (by omega)⟩)
  refine fz_lsw (tgt := 189) kX3_joined rfl (by decide) (show Op.lookupswitch.offset [(37, 176), (38, 105), (42, 160), (43, 152), (45, 156), (47, 164), (60, 119), (61, 130), (62, 141), (124, 91)] 188 c = 188 by rw [fz_osw c1, fz_osw c5, fz_osw c8, fz_osw c11, fz_osw c14, fz_osw c17, fz_osw c21, fz_osw c23, fz_osw c25, fz_osw c27]; rfl) (by decide) ?_
  refine fz_iconst ⟨by decide, by decide⟩ kX3_joined rfl ?_
  exact fz_iret kX3_joined rfl rfl (fun _ => ⟨rfl, _, rfl, (by omega)⟩)

abbrev qX3_run (h : fz_H) : fz_H → Option fz_V → Prop := fun h' r0 => fz_Iv h' ∧ fz_fr [(18, 99999)] h h' ∧ ∃ r : Int, r0 = some (fz_i r) ∧ ((-2147483648) ≤ r ∧ r ≤ 2147483647)
set_option maxHeartbeats 1000000 in
set_option maxRecDepth 100000 in
theorem sX3_run (h : fz_H) (hI : fz_Iv h) : fz_R 1 mX3_run 0 [(0, fz_r 15)] [] h (qX3_run h) := by
  have hf : fz_fr [(18, 99999)] h h := fz_fr_rf
  refine fz_iconst ⟨by decide, by decide⟩ kX3_run rfl ?_
  refine fz_istore_n (ls' := [(1, fz_i 0), (0, fz_r 15)]) kX3_run rfl (by decide) rfl ?_
  refine fz_iconst ⟨by decide, by decide⟩ kX3_run rfl ?_
  refine fz_istore_n (ls' := [(2, fz_i 0), (1, fz_i 0), (0, fz_r 15)]) kX3_run rfl (by decide) rfl ?_
  refine fz_iconst ⟨by decide, by decide⟩ kX3_run rfl ?_
  refine fz_istore_n (ls' := [(3, fz_i 0), (2, fz_i 0), (1, fz_i 0), (0, fz_r 15)]) kX3_run rfl (by decide) rfl ?_
  have lp8 : ∀ (n7 : Nat) (x1 : Int) (x2 : Int) (x3 : Int) (H4 : fz_H), fz_Iv H4 → fz_fr [(18, 99999)] h H4 → (0 ≤ x1 ∧ x1 ≤ 2147483647) → ((-2147483648) ≤ x2 ∧ x2 ≤ 2147483647) → (0 ≤ x3 ∧ x3 ≤ 128) → ((h 15 4) - x1).toNat < n7 → fz_R 1 mX3_run 6 [(3, fz_i x1), (2, fz_i x2), (1, fz_i x3), (0, fz_r 15)] [] H4 (qX3_run h) := by
    intro n7
    induction n7 with
    | zero => intro x1 x2 x3 H4 hI5 hf6 hv11 hv12 hv13 hm10; exact absurd hm10 (by omega)
    | succ n7 ih9 =>
      intro x1 x2 x3 H4 hI5 hf6 hv11 hv12 hv13 hm10
      refine fz_iload_n kX3_run rfl rfl ?_
      refine fz_aload_n kX3_run rfl rfl ?_
      refine fz_getV (v := h 15 4) kX3_run rfl rfl (hf6 15 4 rfl) ?_
      have b14 : 0 ≤ h 15 4 ∧ h 15 4 ≤ 128 := hI.1 15 _
      refine fz_icmp_ge (tgt := 253) kX3_run rfl (by decide) (fun c15 => ?_) (fun c15 => ?_)
      · refine fz_iconst ⟨by decide, by decide⟩ kX3_run rfl ?_
        exact fz_iret kX3_run rfl rfl (fun _ => ⟨hI5, hf6, _, rfl, (by omega)⟩)
      · refine fz_iload_n kX3_run rfl rfl ?_
        refine fz_iload_n kX3_run rfl rfl ?_
        refine fz_icmp_ge (tgt := 22) kX3_run rfl (by decide) (fun c16 => ?_) (fun c16 => ?_)
        · refine fz_aload_n kX3_run rfl rfl ?_
          refine fz_getR (t := 16) kX3_run rfl rfl ?_
          refine fz_iload_n kX3_run rfl rfl ?_
          refine fz_ialdV (n := 128) (v := h 16 (x1.toNat)) kX3_run rfl rfl (by omega) (by omega) (hf6 16 _ rfl) ?_
          have b17 : (-2147483648) ≤ h 16 (x1.toNat) ∧ h 16 (x1.toNat) ≤ 2147483647 := hI.1 16 _
          refine fz_istore (ls' := [(4, fz_i (h 16 (x1.toNat))), (3, fz_i x1), (2, fz_i x2), (1, fz_i x3), (0, fz_r 15)]) kX3_run rfl (by decide) rfl ?_
          refine fz_aload_n kX3_run rfl rfl ?_
          refine fz_getR (t := 17) kX3_run rfl rfl ?_
          refine fz_iload_n kX3_run rfl rfl ?_
          refine fz_ialdV (n := 128) (v := h 17 (x1.toNat)) kX3_run rfl rfl (by omega) (by omega) (hf6 17 _ rfl) ?_
          have b18 : (-2147483648) ≤ h 17 (x1.toNat) ∧ h 17 (x1.toNat) ≤ 2147483647 := hI.1 17 _
          refine fz_istore (ls' := [(5, fz_i (h 17 (x1.toNat))), (4, fz_i (h 16 (x1.toNat))), (3, fz_i x1), (2, fz_i x2), (1, fz_i x3), (0, fz_r 15)]) kX3_run rfl (by decide) rfl ?_
          refine fz_iload kX3_run rfl rfl ?_
          refine fz_bipush ⟨by decide, by decide⟩ kX3_run rfl ?_
          refine fz_icmp_eq (tgt := 52) kX3_run rfl (by decide) (fun c19 => ?_) (fun c19 => ?_)
          · refine fz_iload_n kX3_run rfl rfl ?_
            refine fz_sipush ⟨by decide, by decide⟩ kX3_run rfl ?_
            refine fz_icmp_ge (tgt := 81) kX3_run rfl (by decide) (fun c20 => ?_) (fun c20 => ?_)
            · refine fz_iconst ⟨by decide, by decide⟩ kX3_run rfl ?_
              exact fz_iret kX3_run rfl rfl (fun _ => ⟨hI5, hf6, _, rfl, (by omega)⟩)
            · refine fz_iload kX3_run rfl rfl ?_
              refine fz_bipush ⟨by decide, by decide⟩ kX3_run rfl ?_
              refine fz_icmp_ne (tgt := 83) kX3_run rfl (by decide) (fun c21 => ?_) (fun c21 => ?_)
              · refine fz_aload_n kX3_run rfl rfl ?_
                refine fz_getR (t := 18) kX3_run rfl rfl ?_
                refine fz_iload_n kX3_run rfl rfl ?_
                refine fz_iload kX3_run rfl rfl ?_
                refine fz_bipush ⟨by decide, by decide⟩ kX3_run rfl ?_
                refine fz_icmp_ne (tgt := 100) kX3_run rfl (by decide) (fun c22 => ?_) (fun c22 => ?_)
                · exfalso; omega
                · refine fz_iload kX3_run rfl rfl ?_
                  refine fz_goto (tgt := 107) kX3_run rfl (by decide) ?_
                  refine fz_iast (n := 128) kX3_run rfl rfl (by omega) (by omega) ?_
                  refine fz_nmu (S := [(18, 99999)]) (h0 := h) (fz_Iv_up hI5 (by decide) (show ((-2147483648) : Int) ≤ (h 17 (x1.toNat)) by omega) (show ((h 17 (x1.toNat)) : Int) ≤ 2147483647 by omega)) (fz_fr_up hf6 rfl) (fun H23 hI24 hf25 e26 => ?_)
                  clear e26
                  refine fz_iincN (ls' := [(1, fz_i (x3 + 1)), (5, fz_i (h 17 (x1.toNat))), (4, fz_i (h 16 (x1.toNat))), (3, fz_i x1), (2, fz_i x2), (0, fz_r 15)]) kX3_run rfl (by decide) rfl (by omega) rfl ?_
                  refine fz_goto (tgt := 247) kX3_run rfl (by decide) ?_
                  refine fz_iincN (ls' := [(3, fz_i (x1 + 1)), (1, fz_i (x3 + 1)), (5, fz_i (h 17 (x1.toNat))), (4, fz_i (h 16 (x1.toNat))), (2, fz_i x2), (0, fz_r 15)]) kX3_run rfl (by decide) rfl (by omega) rfl ?_
                  refine fz_goto (tgt := 6) kX3_run rfl (by decide) ?_
                  refine fz_sub (fz_pk_sub (ls' := [(3, fz_i (x1 + 1)), (2, fz_i x2), (1, fz_i (x3 + 1)), (0, fz_r 15)]) [0, 4, 1, 5] rfl) ?_
                  exact ih9 (x1 + 1) x2 (x3 + 1) H23 hI24 hf25 (by omega) (by omega) (by omega) (by omega)
              · exfalso; omega
          · refine fz_iload kX3_run rfl rfl ?_
            refine fz_bipush ⟨by decide, by decide⟩ kX3_run rfl ?_
            refine fz_icmp_ne (tgt := 114) kX3_run rfl (by decide) (fun c27 => ?_) (fun c27 => ?_)
            · refine fz_iload_n kX3_run rfl rfl ?_
              refine fz_iconst ⟨by decide, by decide⟩ kX3_run rfl ?_
              refine fz_icmp_ge (tgt := 121) kX3_run rfl (by decide) (fun c28 => ?_) (fun c28 => ?_)
              · refine fz_aload_n kX3_run rfl rfl ?_
                refine fz_getR (t := 18) kX3_run rfl rfl ?_
                refine fz_iload_n kX3_run rfl rfl ?_
                refine fz_iconst ⟨by decide, by decide⟩ kX3_run rfl ?_
                refine fz_isubN kX3_run rfl (by omega) ?_
                obtain ⟨v29, e30⟩ : ∃ z, H4 18 ((x3 - 1).toNat) = z := ⟨_, rfl⟩
                refine fz_ialdV (n := 128) (v := v29) kX3_run rfl rfl (by omega) (by omega) e30 ?_
                have b31 : (-2147483648) ≤ v29 ∧ v29 ≤ 2147483647 := by rw [← e30]; exact hI5.1 18 _
                refine fz_istore (ls' := [(6, fz_i v29), (5, fz_i (h 17 (x1.toNat))), (4, fz_i (h 16 (x1.toNat))), (3, fz_i x1), (2, fz_i x2), (1, fz_i x3), (0, fz_r 15)]) kX3_run rfl (by decide) rfl ?_
                refine fz_iload kX3_run rfl rfl ?_
                refine fz_bipush ⟨by decide, by decide⟩ kX3_run rfl ?_
                refine fz_icmp_ne (tgt := 141) kX3_run rfl (by decide) (fun c32 => ?_) (fun c32 => ?_)
                · refine fz_iload kX3_run rfl rfl ?_
                  refine fz_bipush ⟨by decide, by decide⟩ kX3_run rfl ?_
                  refine fz_icmp_ne (tgt := 166) kX3_run rfl (by decide) (fun c33 => ?_) (fun c33 => ?_)
                  · refine fz_iload kX3_run rfl rfl ?_
                    refine fz_bipush ⟨by decide, by decide⟩ kX3_run rfl ?_
                    refine fz_icmp_eq (tgt := 180) kX3_run rfl (by decide) (fun c34 => ?_) (fun c34 => ?_)
                    · refine fz_aload_n kX3_run rfl rfl ?_
                      refine fz_getR (t := 18) kX3_run rfl rfl ?_
                      refine fz_iload_n kX3_run rfl rfl ?_
                      refine fz_iconst ⟨by decide, by decide⟩ kX3_run rfl ?_
                      refine fz_isubN kX3_run rfl (by omega) ?_
                      refine fz_iload kX3_run rfl rfl ?_
                      refine fz_bipush ⟨by decide, by decide⟩ kX3_run rfl ?_
                      refine fz_icmp_ne (tgt := 200) kX3_run rfl (by decide) (fun c35 => ?_) (fun c35 => ?_)
                      · refine fz_iload kX3_run rfl rfl ?_
                        refine fz_if_ne (tgt := 209) kX3_run rfl (by decide) (fun c36 => ?_) (fun c36 => ?_)
                        · refine fz_iconst ⟨by decide, by decide⟩ kX3_run rfl ?_
                          refine fz_iast (n := 128) kX3_run rfl rfl (by omega) (by omega) ?_
                          refine fz_nmu (S := [(18, 99999)]) (h0 := h) (fz_Iv_up hI5 (by decide) (show ((-2147483648) : Int) ≤ 0 by decide) (show (0 : Int) ≤ 2147483647 by decide)) (fz_fr_up hf6 rfl) (fun H37 hI38 hf39 e40 => ?_)
                          clear e40
                          refine fz_goto (tgt := 247) kX3_run rfl (by decide) ?_
                          refine fz_iincN (ls' := [(3, fz_i (x1 + 1)), (6, fz_i v29), (5, fz_i (h 17 (x1.toNat))), (4, fz_i (h 16 (x1.toNat))), (2, fz_i x2), (1, fz_i x3), (0, fz_r 15)]) kX3_run rfl (by decide) rfl (by omega) rfl ?_
                          refine fz_goto (tgt := 6) kX3_run rfl (by decide) ?_
                          refine fz_sub (fz_pk_sub (ls' := [(3, fz_i (x1 + 1)), (2, fz_i x2), (1, fz_i x3), (0, fz_r 15)]) [0, 4, 5, 6] rfl) ?_
                          exact ih9 (x1 + 1) x2 x3 H37 hI38 hf39 (by omega) (by omega) (by omega) (by omega)
                        · refine fz_iconst ⟨by decide, by decide⟩ kX3_run rfl ?_
                          refine fz_goto (tgt := 210) kX3_run rfl (by decide) ?_
                          refine fz_iast (n := 128) kX3_run rfl rfl (by omega) (by omega) ?_
                          refine fz_nmu (S := [(18, 99999)]) (h0 := h) (fz_Iv_up hI5 (by decide) (show ((-2147483648) : Int) ≤ 1 by decide) (show (1 : Int) ≤ 2147483647 by decide)) (fz_fr_up hf6 rfl) (fun H41 hI42 hf43 e44 => ?_)
                          clear e44
                          refine fz_goto (tgt := 247) kX3_run rfl (by decide) ?_
                          refine fz_iincN (ls' := [(3, fz_i (x1 + 1)), (6, fz_i v29), (5, fz_i (h 17 (x1.toNat))), (4, fz_i (h 16 (x1.toNat))), (2, fz_i x2), (1, fz_i x3), (0, fz_r 15)]) kX3_run rfl (by decide) rfl (by omega) rfl ?_
                          refine fz_goto (tgt := 6) kX3_run rfl (by decide) ?_
                          refine fz_sub (fz_pk_sub (ls' := [(3, fz_i (x1 + 1)), (2, fz_i x2), (1, fz_i x3), (0, fz_r 15)]) [0, 4, 5, 6] rfl) ?_
                          exact ih9 (x1 + 1) x2 x3 H41 hI42 hf43 (by omega) (by omega) (by omega) (by omega)
                      · exfalso; omega
                    · refine fz_iload kX3_run rfl rfl ?_
                      refine fz_bipush ⟨by decide, by decide⟩ kX3_run rfl ?_
                      refine fz_icmp_ne (tgt := 214) kX3_run rfl (by decide) (fun c45 => ?_) (fun c45 => ?_)
                      · refine fz_iload_n kX3_run rfl rfl ?_
                        refine fz_iconst ⟨by decide, by decide⟩ kX3_run rfl ?_
                        refine fz_icmp_ge (tgt := 221) kX3_run rfl (by decide) (fun c46 => ?_) (fun c46 => ?_)
                        · refine fz_iincN (ls' := [(1, fz_i (x3 + (-1))), (6, fz_i v29), (5, fz_i (h 17 (x1.toNat))), (4, fz_i (h 16 (x1.toNat))), (3, fz_i x1), (2, fz_i x2), (0, fz_r 15)]) kX3_run rfl (by decide) rfl (by omega) rfl ?_
                          refine fz_aload_n kX3_run rfl rfl ?_
                          refine fz_getR (t := 18) kX3_run rfl rfl ?_
                          refine fz_iload_n kX3_run rfl rfl ?_
                          refine fz_iconst ⟨by decide, by decide⟩ kX3_run rfl ?_
                          refine fz_isubN kX3_run rfl (by omega) ?_
                          refine fz_iload kX3_run rfl rfl ?_
                          refine fz_aload_n kX3_run rfl rfl ?_
                          refine fz_getR (t := 18) kX3_run rfl rfl ?_
                          refine fz_iload_n kX3_run rfl rfl ?_
                          refine fz_iconst ⟨by decide, by decide⟩ kX3_run rfl ?_
                          refine fz_isubN kX3_run rfl (by omega) ?_
                          obtain ⟨v47, e48⟩ : ∃ z, H4 18 (((x3 + (-1)) - 1).toNat) = z := ⟨_, rfl⟩
                          refine fz_ialdV (n := 128) (v := v47) kX3_run rfl rfl (by omega) (by omega) e48 ?_
                          have b49 : (-2147483648) ≤ v47 ∧ v47 ≤ 2147483647 := by rw [← e48]; exact hI5.1 18 _
                          refine fz_iload kX3_run rfl rfl ?_
                          refine fz_callS (d' := 0) (M' := mX3_joined) (As := [fz_i (h 16 (x1.toNat)), fz_i v47, fz_i v29]) (st := [fz_i ((x3 + (-1)) - 1), fz_r 18]) kX3_run rfl rfl vX3_joined rfl rfl (Nat.le_of_ble_eq_true rfl) (Nat.le_of_ble_eq_true rfl) (by decide) (sX3_joined H4 hI5 (h 16 (x1.toNat)) v47 v29 ) (fun H50 r51 q52 o53 => ?_)
                          obtain ⟨e54, y56, rfl, f55⟩ := q52
                          subst H50
                          clear o53
                          refine fz_iast (n := 128) kX3_run rfl rfl (by omega) (by omega) ?_
                          refine fz_nmu (S := [(18, 99999)]) (h0 := h) (fz_Iv_up hI5 (by decide) (show ((-2147483648) : Int) ≤ y56 by omega) (show (y56 : Int) ≤ 2147483647 by omega)) (fz_fr_up hf6 rfl) (fun H57 hI58 hf59 e60 => ?_)
                          clear e60
                          refine fz_iincN (ls' := [(3, fz_i (x1 + 1)), (1, fz_i (x3 + (-1))), (6, fz_i v29), (5, fz_i (h 17 (x1.toNat))), (4, fz_i (h 16 (x1.toNat))), (2, fz_i x2), (0, fz_r 15)]) kX3_run rfl (by decide) rfl (by omega) rfl ?_
                          refine fz_goto (tgt := 6) kX3_run rfl (by decide) ?_
                          refine fz_sub (fz_pk_sub (ls' := [(3, fz_i (x1 + 1)), (2, fz_i x2), (1, fz_i (x3 + (-1))), (0, fz_r 15)]) [0, 5, 1, 6] rfl) ?_
                          exact ih9 (x1 + 1) x2 (x3 + (-1)) H57 hI58 hf59 (by omega) (by omega) (by omega) (by omega)
                        · refine fz_iconst ⟨by decide, by decide⟩ kX3_run rfl ?_
                          exact fz_iret kX3_run rfl rfl (fun _ => ⟨hI5, hf6, _, rfl, (by omega)⟩)
                      · refine fz_aload_n kX3_run rfl rfl ?_
                        refine fz_getR (t := 18) kX3_run rfl rfl ?_
                        refine fz_iload_n kX3_run rfl rfl ?_
                        refine fz_iconst ⟨by decide, by decide⟩ kX3_run rfl ?_
                        refine fz_isubN kX3_run rfl (by omega) ?_
                        refine fz_iload kX3_run rfl rfl ?_
                        refine fz_bipush ⟨by decide, by decide⟩ kX3_run rfl ?_
                        refine fz_icmp_ne (tgt := 200) kX3_run rfl (by decide) (fun c61 => ?_) (fun c61 => ?_)
                        · exfalso; omega
                        · refine fz_iload kX3_run rfl rfl ?_
                          refine fz_ineg kX3_run rfl ?_
                          refine fz_nmw (fun z62 e63 => ?_)
                          refine fz_goto (tgt := 210) kX3_run rfl (by decide) ?_
                          refine fz_iast (n := 128) kX3_run rfl rfl (by omega) (by omega) ?_
                          refine fz_nmu (S := [(18, 99999)]) (h0 := h) (fz_Iv_up hI5 (by decide) (show ((-2147483648) : Int) ≤ z62 by omega) (show (z62 : Int) ≤ 2147483647 by omega)) (fz_fr_up hf6 rfl) (fun H64 hI65 hf66 e67 => ?_)
                          clear e67
                          refine fz_goto (tgt := 247) kX3_run rfl (by decide) ?_
                          refine fz_iincN (ls' := [(3, fz_i (x1 + 1)), (6, fz_i v29), (5, fz_i (h 17 (x1.toNat))), (4, fz_i (h 16 (x1.toNat))), (2, fz_i x2), (1, fz_i x3), (0, fz_r 15)]) kX3_run rfl (by decide) rfl (by omega) rfl ?_
                          refine fz_goto (tgt := 6) kX3_run rfl (by decide) ?_
                          refine fz_sub (fz_pk_sub (ls' := [(3, fz_i (x1 + 1)), (2, fz_i x2), (1, fz_i x3), (0, fz_r 15)]) [0, 4, 5, 6] rfl) ?_
                          exact ih9 (x1 + 1) x2 x3 H64 hI65 hf66 (by omega) (by omega) (by omega) (by omega)
                  · refine fz_iincN (ls' := [(1, fz_i (x3 + (-1))), (6, fz_i v29), (5, fz_i (h 17 (x1.toNat))), (4, fz_i (h 16 (x1.toNat))), (3, fz_i x1), (2, fz_i x2), (0, fz_r 15)]) kX3_run rfl (by decide) rfl (by omega) rfl ?_
                    refine fz_iload kX3_run rfl rfl ?_
                    refine fz_if_ne (tgt := 161) kX3_run rfl (by decide) (fun c68 => ?_) (fun c68 => ?_)
                    · refine fz_iconst ⟨by decide, by decide⟩ kX3_run rfl ?_
                      refine fz_istore_n (ls' := [(2, fz_i 0), (1, fz_i (x3 + (-1))), (6, fz_i v29), (5, fz_i (h 17 (x1.toNat))), (4, fz_i (h 16 (x1.toNat))), (3, fz_i x1), (0, fz_r 15)]) kX3_run rfl (by decide) rfl ?_
                      refine fz_goto (tgt := 247) kX3_run rfl (by decide) ?_
                      refine fz_iincN (ls' := [(3, fz_i (x1 + 1)), (2, fz_i 0), (1, fz_i (x3 + (-1))), (6, fz_i v29), (5, fz_i (h 17 (x1.toNat))), (4, fz_i (h 16 (x1.toNat))), (0, fz_r 15)]) kX3_run rfl (by decide) rfl (by omega) rfl ?_
                      refine fz_goto (tgt := 6) kX3_run rfl (by decide) ?_
                      refine fz_sub (fz_pk_sub (ls' := [(3, fz_i (x1 + 1)), (2, fz_i 0), (1, fz_i (x3 + (-1))), (0, fz_r 15)]) [0, 1, 2, 6] rfl) ?_
                      exact ih9 (x1 + 1) 0 (x3 + (-1)) H4 hI5 hf6 (by omega) (by omega) (by omega) (by omega)
                    · refine fz_iload kX3_run rfl rfl ?_
                      refine fz_goto (tgt := 162) kX3_run rfl (by decide) ?_
                      refine fz_istore_n (ls' := [(2, fz_i (h 17 (x1.toNat))), (1, fz_i (x3 + (-1))), (6, fz_i v29), (5, fz_i (h 17 (x1.toNat))), (4, fz_i (h 16 (x1.toNat))), (3, fz_i x1), (0, fz_r 15)]) kX3_run rfl (by decide) rfl ?_
                      refine fz_goto (tgt := 247) kX3_run rfl (by decide) ?_
                      refine fz_iincN (ls' := [(3, fz_i (x1 + 1)), (2, fz_i (h 17 (x1.toNat))), (1, fz_i (x3 + (-1))), (6, fz_i v29), (5, fz_i (h 17 (x1.toNat))), (4, fz_i (h 16 (x1.toNat))), (0, fz_r 15)]) kX3_run rfl (by decide) rfl (by omega) rfl ?_
                      refine fz_goto (tgt := 6) kX3_run rfl (by decide) ?_
                      refine fz_sub (fz_pk_sub (ls' := [(3, fz_i (x1 + 1)), (2, fz_i (h 17 (x1.toNat))), (1, fz_i (x3 + (-1))), (0, fz_r 15)]) [0, 1, 2, 6] rfl) ?_
                      exact ih9 (x1 + 1) (h 17 (x1.toNat)) (x3 + (-1)) H4 hI5 hf6 (by omega) (by omega) (by omega) (by omega)
                · refine fz_iload kX3_run rfl rfl ?_
                  exact fz_iret kX3_run rfl rfl (fun _ => ⟨hI5, hf6, _, rfl, (by omega)⟩)
              · refine fz_iconst ⟨by decide, by decide⟩ kX3_run rfl ?_
                exact fz_iret kX3_run rfl rfl (fun _ => ⟨hI5, hf6, _, rfl, (by omega)⟩)
            · refine fz_iload_n kX3_run rfl rfl ?_
              refine fz_sipush ⟨by decide, by decide⟩ kX3_run rfl ?_
              refine fz_icmp_ge (tgt := 81) kX3_run rfl (by decide) (fun c69 => ?_) (fun c69 => ?_)
              · refine fz_iconst ⟨by decide, by decide⟩ kX3_run rfl ?_
                exact fz_iret kX3_run rfl rfl (fun _ => ⟨hI5, hf6, _, rfl, (by omega)⟩)
              · refine fz_iload kX3_run rfl rfl ?_
                refine fz_bipush ⟨by decide, by decide⟩ kX3_run rfl ?_
                refine fz_icmp_ne (tgt := 83) kX3_run rfl (by decide) (fun c70 => ?_) (fun c70 => ?_)
                · exfalso; omega
                · refine fz_iload kX3_run rfl rfl ?_
                  refine fz_if_lt (tgt := 81) kX3_run rfl (by decide) (fun c71 => ?_) (fun c71 => ?_)
                  · refine fz_iconst ⟨by decide, by decide⟩ kX3_run rfl ?_
                    exact fz_iret kX3_run rfl rfl (fun _ => ⟨hI5, hf6, _, rfl, (by omega)⟩)
                  · refine fz_iload kX3_run rfl rfl ?_
                    refine fz_aload_n kX3_run rfl rfl ?_
                    refine fz_getR (t := 19) kX3_run rfl rfl ?_
                    refine fz_alen (n := 6) kX3_run rfl rfl (Or.inl rfl) (by decide) ?_
                    refine fz_icmp_lt (tgt := 83) kX3_run rfl (by decide) (fun c72 => ?_) (fun c72 => ?_)
                    · refine fz_aload_n kX3_run rfl rfl ?_
                      refine fz_getR (t := 18) kX3_run rfl rfl ?_
                      refine fz_iload_n kX3_run rfl rfl ?_
                      refine fz_iload kX3_run rfl rfl ?_
                      refine fz_bipush ⟨by decide, by decide⟩ kX3_run rfl ?_
                      refine fz_icmp_ne (tgt := 100) kX3_run rfl (by decide) (fun c73 => ?_) (fun c73 => ?_)
                      · refine fz_aload_n kX3_run rfl rfl ?_
                        refine fz_getR (t := 19) kX3_run rfl rfl ?_
                        refine fz_iload kX3_run rfl rfl ?_
                        refine fz_ialdV (n := 6) (v := h 19 ((h 17 (x1.toNat)).toNat)) kX3_run rfl rfl (by omega) (by omega) (hf6 19 _ rfl) ?_
                        have b74 : (-2147483648) ≤ h 19 ((h 17 (x1.toNat)).toNat) ∧ h 19 ((h 17 (x1.toNat)).toNat) ≤ 2147483647 := hI.1 19 _
                        refine fz_iast (n := 128) kX3_run rfl rfl (by omega) (by omega) ?_
                        refine fz_nmu (S := [(18, 99999)]) (h0 := h) (fz_Iv_up hI5 (by decide) (show ((-2147483648) : Int) ≤ (h 19 ((h 17 (x1.toNat)).toNat)) by omega) (show ((h 19 ((h 17 (x1.toNat)).toNat)) : Int) ≤ 2147483647 by omega)) (fz_fr_up hf6 rfl) (fun H75 hI76 hf77 e78 => ?_)
                        clear e78
                        refine fz_iincN (ls' := [(1, fz_i (x3 + 1)), (5, fz_i (h 17 (x1.toNat))), (4, fz_i (h 16 (x1.toNat))), (3, fz_i x1), (2, fz_i x2), (0, fz_r 15)]) kX3_run rfl (by decide) rfl (by omega) rfl ?_
                        refine fz_goto (tgt := 247) kX3_run rfl (by decide) ?_
                        refine fz_iincN (ls' := [(3, fz_i (x1 + 1)), (1, fz_i (x3 + 1)), (5, fz_i (h 17 (x1.toNat))), (4, fz_i (h 16 (x1.toNat))), (2, fz_i x2), (0, fz_r 15)]) kX3_run rfl (by decide) rfl (by omega) rfl ?_
                        refine fz_goto (tgt := 6) kX3_run rfl (by decide) ?_
                        refine fz_sub (fz_pk_sub (ls' := [(3, fz_i (x1 + 1)), (2, fz_i x2), (1, fz_i (x3 + 1)), (0, fz_r 15)]) [0, 4, 1, 5] rfl) ?_
                        exact ih9 (x1 + 1) x2 (x3 + 1) H75 hI76 hf77 (by omega) (by omega) (by omega) (by omega)
                      · exfalso; omega
                    · refine fz_iconst ⟨by decide, by decide⟩ kX3_run rfl ?_
                      exact fz_iret kX3_run rfl rfl (fun _ => ⟨hI5, hf6, _, rfl, (by omega)⟩)
        · refine fz_goto (tgt := 247) kX3_run rfl (by decide) ?_
          refine fz_iincN (ls' := [(3, fz_i (x1 + 1)), (2, fz_i x2), (1, fz_i x3), (0, fz_r 15)]) kX3_run rfl (by decide) rfl (by omega) rfl ?_
          refine fz_goto (tgt := 6) kX3_run rfl (by decide) ?_
          exact ih9 (x1 + 1) x2 x3 H4 hI5 hf6 (by omega) (by omega) (by omega) (by omega)
  exact lp8 _ 0 0 0 h hI hf (by omega) (by omega) (by omega) (Nat.lt_succ_self _)

abbrev qX3_volume (h : fz_H) (w a d m t p : Int) : fz_H → Option fz_V → Prop := fun h' r0 => fz_Iv h' ∧ fz_fr [(18, 99999), (19, 99999)] h h' ∧ ∃ r : Int, r0 = some (fz_i r) ∧ (0 ≤ r ∧ r ≤ 805306404)
set_option maxHeartbeats 1000000 in
set_option maxRecDepth 100000 in
theorem sX3_volume (h : fz_H) (hI : fz_Iv h) (w a d m t p : Int) (hp0 : 0 ≤ w ∧ w ≤ 9) : fz_R 2 mX3_volume 0 [(0, fz_r 15), (1, fz_i w), (2, fz_i a), (3, fz_i d), (4, fz_i m), (5, fz_i t), (6, fz_i p)] [] h (qX3_volume h w a d m t p) := by
  refine fz_knowl (fun hk => ?_)
  have hr_w : -2147483648 ≤ w ∧ w < 2147483648 := hk _ (List.Mem.tail _ (List.Mem.head _))
  have hr_a : -2147483648 ≤ a ∧ a < 2147483648 := hk _ (List.Mem.tail _ (List.Mem.tail _ (List.Mem.head _)))
  have hr_d : -2147483648 ≤ d ∧ d < 2147483648 := hk _ (List.Mem.tail _ (List.Mem.tail _ (List.Mem.tail _ (List.Mem.head _))))
  have hr_m : -2147483648 ≤ m ∧ m < 2147483648 := hk _ (List.Mem.tail _ (List.Mem.tail _ (List.Mem.tail _ (List.Mem.tail _ (List.Mem.head _)))))
  have hr_t : -2147483648 ≤ t ∧ t < 2147483648 := hk _ (List.Mem.tail _ (List.Mem.tail _ (List.Mem.tail _ (List.Mem.tail _ (List.Mem.tail _ (List.Mem.head _))))))
  have hr_p : -2147483648 ≤ p ∧ p < 2147483648 := hk _ (List.Mem.tail _ (List.Mem.tail _ (List.Mem.tail _ (List.Mem.tail _ (List.Mem.tail _ (List.Mem.tail _ (List.Mem.head _)))))))
  clear hk
  have hf : fz_fr [(18, 99999), (19, 99999)] h h := fz_fr_rf
  refine fz_aload_n kX3_volume rfl rfl ?_
  refine fz_getV (v := h 15 4) kX3_volume rfl rfl rfl ?_
  have b1 : 0 ≤ h 15 4 ∧ h 15 4 ≤ 128 := hI.1 15 _
  refine fz_if_ne (tgt := 24) kX3_volume rfl (by decide) (fun c2 => ?_) (fun c2 => ?_)
  · refine fz_aload_n kX3_volume rfl rfl ?_
    refine fz_getR (t := 19) kX3_volume rfl rfl ?_
    refine fz_iconst ⟨by decide, by decide⟩ kX3_volume rfl ?_
    refine fz_iload_n kX3_volume rfl rfl ?_
    refine fz_iast (n := 6) kX3_volume rfl rfl (by omega) (by omega) ?_
    refine fz_nmu (S := [(18, 99999), (19, 99999)]) (h0 := h) (fz_Iv_up hI (by decide) (show ((-2147483648) : Int) ≤ w by omega) (show (w : Int) ≤ 2147483647 by omega)) (fz_fr_up hf rfl) (fun H3 hI4 hf5 e6 => ?_)
    clear e6
    refine fz_aload_n kX3_volume rfl rfl ?_
    refine fz_getR (t := 19) kX3_volume rfl rfl ?_
    refine fz_iconst ⟨by decide, by decide⟩ kX3_volume rfl ?_
    refine fz_iload_n kX3_volume rfl rfl ?_
    refine fz_iast (n := 6) kX3_volume rfl rfl (by omega) (by omega) ?_
    refine fz_nmu (S := [(18, 99999), (19, 99999)]) (h0 := h) (fz_Iv_up hI4 (by decide) (show ((-2147483648) : Int) ≤ a by omega) (show (a : Int) ≤ 2147483647 by omega)) (fz_fr_up hf5 rfl) (fun H7 hI8 hf9 e10 => ?_)
    clear e10
    refine fz_aload_n kX3_volume rfl rfl ?_
    refine fz_getR (t := 19) kX3_volume rfl rfl ?_
    refine fz_iconst ⟨by decide, by decide⟩ kX3_volume rfl ?_
    refine fz_iload_n kX3_volume rfl rfl ?_
    refine fz_iast (n := 6) kX3_volume rfl rfl (by omega) (by omega) ?_
    refine fz_nmu (S := [(18, 99999), (19, 99999)]) (h0 := h) (fz_Iv_up hI8 (by decide) (show ((-2147483648) : Int) ≤ d by omega) (show (d : Int) ≤ 2147483647 by omega)) (fz_fr_up hf9 rfl) (fun H11 hI12 hf13 e14 => ?_)
    clear e14
    refine fz_aload_n kX3_volume rfl rfl ?_
    refine fz_getR (t := 19) kX3_volume rfl rfl ?_
    refine fz_iconst ⟨by decide, by decide⟩ kX3_volume rfl ?_
    refine fz_iload kX3_volume rfl rfl ?_
    refine fz_iast (n := 6) kX3_volume rfl rfl (by omega) (by omega) ?_
    refine fz_nmu (S := [(18, 99999), (19, 99999)]) (h0 := h) (fz_Iv_up hI12 (by decide) (show ((-2147483648) : Int) ≤ m by omega) (show (m : Int) ≤ 2147483647 by omega)) (fz_fr_up hf13 rfl) (fun H15 hI16 hf17 e18 => ?_)
    clear e18
    refine fz_aload_n kX3_volume rfl rfl ?_
    refine fz_getR (t := 19) kX3_volume rfl rfl ?_
    refine fz_iconst ⟨by decide, by decide⟩ kX3_volume rfl ?_
    refine fz_iload kX3_volume rfl rfl ?_
    refine fz_iast (n := 6) kX3_volume rfl rfl (by omega) (by omega) ?_
    refine fz_nmu (S := [(18, 99999), (19, 99999)]) (h0 := h) (fz_Iv_up hI16 (by decide) (show ((-2147483648) : Int) ≤ t by omega) (show (t : Int) ≤ 2147483647 by omega)) (fz_fr_up hf17 rfl) (fun H19 hI20 hf21 e22 => ?_)
    clear e22
    refine fz_aload_n kX3_volume rfl rfl ?_
    refine fz_getR (t := 19) kX3_volume rfl rfl ?_
    refine fz_iconst ⟨by decide, by decide⟩ kX3_volume rfl ?_
    refine fz_iload kX3_volume rfl rfl ?_
    refine fz_iast (n := 6) kX3_volume rfl rfl (by omega) (by omega) ?_
    refine fz_nmu (S := [(18, 99999), (19, 99999)]) (h0 := h) (fz_Iv_up hI20 (by decide) (show ((-2147483648) : Int) ≤ p by omega) (show (p : Int) ≤ 2147483647 by omega)) (fz_fr_up hf21 rfl) (fun H23 hI24 hf25 e26 => ?_)
    clear e26
    refine fz_iconst ⟨by decide, by decide⟩ kX3_volume rfl ?_
    refine fz_bipush ⟨by decide, by decide⟩ kX3_volume rfl ?_
    refine fz_aload_n kX3_volume rfl rfl ?_
    refine fz_callV (d' := 1) (M' := mX3_run) (As := []) (st := [fz_i 99, fz_i 0]) kX3_volume rfl rfl vX3_run rfl rfl rfl rfl (Nat.le_of_ble_eq_true rfl) (Nat.le_of_ble_eq_true rfl) (by decide) (sX3_run H23 hI24  ) (fun H27 r28 q29 o30 => ?_)
    obtain ⟨hI31, hf32, y34, rfl, f33⟩ := q29
    clear o30
    have hf35 := fz_fr_tr hf25 hf32 (show fz_su [(18, 99999)] [(18, 99999), (19, 99999)] = true from rfl)
    refine fz_min kX3_volume rfl rfl fz_sMn fz_iMm fz_cMn (by decide) (Nat.le_of_ble_eq_true rfl) ?_
    refine fz_max kX3_volume rfl rfl fz_sMx fz_iMm fz_cMx (by decide) (Nat.le_of_ble_eq_true rfl) ?_
    exact fz_iret kX3_volume rfl rfl (fun _ => ⟨hI31, hf35, _, rfl, (by omega)⟩)
  · refine fz_iconst ⟨by decide, by decide⟩ kX3_volume rfl ?_
    refine fz_iconst ⟨by decide, by decide⟩ kX3_volume rfl ?_
    refine fz_iload_n kX3_volume rfl rfl ?_
    refine fz_imulN kX3_volume rfl (by omega) ?_
    refine fz_iload_n kX3_volume rfl rfl ?_
    refine fz_bipush ⟨by decide, by decide⟩ kX3_volume rfl ?_
    refine fz_idivT kX3_volume rfl (by decide) (by omega) (fun z36 r37 e38 e39 e40 e41 e42 e43 e44 => ?_)
    refine fz_isubN kX3_volume rfl (by omega) ?_
    refine fz_iload_n kX3_volume rfl rfl ?_
    refine fz_iconst ⟨by decide, by decide⟩ kX3_volume rfl ?_
    refine fz_idivT kX3_volume rfl (by decide) (by omega) (fun z45 r46 e47 e48 e49 e50 e51 e52 e53 => ?_)
    refine fz_isubN kX3_volume rfl (by omega) ?_
    refine fz_max kX3_volume rfl rfl fz_sMx fz_iMm fz_cMx (by decide) (Nat.le_of_ble_eq_true rfl) ?_
    exact fz_iret kX3_volume rfl rfl (fun _ => ⟨hI, hf, _, rfl, (by omega)⟩)
