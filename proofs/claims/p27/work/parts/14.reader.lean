/-! ===== what the methods keep ===== -/
abbrev qX5_take (h : fz_H) (c : Int) : fz_H → Option fz_V → Prop := fun h' r0 => fz_Iv h' ∧ fz_fr [(20, 2), (26, 99999)] h h' ∧ ∃ r : Int, r0 = some (fz_i r) ∧ ((-3) ≤ r ∧ r ≤ 120) ∧ ((h 20 2 < 120 ∧ r = h 20 2 + 1 ∧ h' 20 2 = h 20 2 + 1) ∨ (120 ≤ h 20 2 ∧ r = -3 ∧ h' 20 2 = h 20 2)) ∧ (fl_fdC h h' c)
set_option maxHeartbeats 1000000 in
set_option maxRecDepth 100000 in
theorem sX5_take (h : fz_H) (hI : fz_Iv h) (c : Int) (hp0 : 0 ≤ c ∧ c ≤ 255) : fz_R 0 mX5_take 0 [(0, fz_r 20), (1, fz_i c)] [] h (qX5_take h c) := by
  refine fz_knowl (fun hk => ?_)
  have hr_c : -2147483648 ≤ c ∧ c < 2147483648 := hk _ (List.Mem.tail _ (List.Mem.head _))
  clear hk
  have hf : fz_fr [(20, 2), (26, 99999)] h h := fz_fr_rf
  have b1 : 0 ≤ h 20 2 ∧ h 20 2 ≤ 120 := hI.1 20 _
  refine fz_aload_n kX5_take rfl rfl ?_
  refine fz_getV (v := h 20 2) kX5_take rfl rfl rfl ?_
  have b2 : 0 ≤ h 20 2 ∧ h 20 2 ≤ 120 := hI.1 20 _
  refine fz_bipush ⟨by decide, by decide⟩ kX5_take rfl ?_
  refine fz_icmp_lt (tgt := 12) kX5_take rfl (by decide) (fun c3 => ?_) (fun c3 => ?_)
  · refine fz_aload_n kX5_take rfl rfl ?_
    refine fz_getR (t := 26) kX5_take rfl rfl ?_
    refine fz_aload_n kX5_take rfl rfl ?_
    refine fz_getV (v := h 20 2) kX5_take rfl rfl rfl ?_
    refine fz_iload_n kX5_take rfl rfl ?_
    refine fz_iast (n := 120) kX5_take rfl rfl (by omega) (by omega) ?_
    refine fz_nmu (S := [(20, 2), (26, 99999)]) (h0 := h) (fz_Iv_up hI (by decide) (show (0 : Int) ≤ c by omega) (show (c : Int) ≤ 255 by omega)) (fz_fr_up hf rfl) (fun H4 hI5 hf6 e7 => ?_)
    have k8 : H4 20 2 = (h 20 2) := by rw [e7]; exact (fz_up_o (by decide)).trans rfl
    have t9 : H4 20 2 = h 20 2 := by rw [e7]; exact fz_up_o (by decide)
    refine fz_aload_n kX5_take rfl rfl ?_
    refine fz_dup rfl kX5_take rfl ?_
    refine fz_getV (v := (h 20 2)) kX5_take rfl rfl k8 ?_
    refine fz_iconst ⟨by decide, by decide⟩ kX5_take rfl ?_
    refine fz_iaddN kX5_take rfl (by omega) ?_
    refine fz_putI kX5_take rfl rfl rfl ?_
    refine fz_nmu (S := [(20, 2), (26, 99999)]) (h0 := h) (fz_Iv_up hI5 (by decide) (show (0 : Int) ≤ ((h 20 2) + 1) by omega) (show (((h 20 2) + 1) : Int) ≤ 120 by omega)) (fz_fr_up hf6 rfl) (fun H10 hI11 hf12 e13 => ?_)
    have k14 : H10 20 2 = ((h 20 2) + 1) := by rw [e13]; exact fz_up_e
    refine fz_aload_n kX5_take rfl rfl ?_
    refine fz_getV (v := ((h 20 2) + 1)) kX5_take rfl rfl k14 ?_
    exact fz_iret kX5_take rfl rfl (fun _ => ⟨hI11, hf12, _, rfl, (by omega), (by omega), (by first | exact Or.inl ⟨by omega, (by rw [e13, fz_up_ne (by decide), e7])⟩ | exact Or.inr ⟨rfl, rfl⟩)⟩)
  · refine fz_bipush ⟨by decide, by decide⟩ kX5_take rfl ?_
    exact fz_iret kX5_take rfl rfl (fun _ => ⟨hI, hf, _, rfl, (by omega), (by omega), (by first | exact Or.inl ⟨by omega, (by rw [lost, fz_up_ne (by decide), lost])⟩ | exact Or.inr ⟨rfl, rfl⟩)⟩)

abbrev qX5_clear (h : fz_H) : fz_H → Option fz_V → Prop := fun h' r0 => fz_Iv h' ∧ fz_fr [(20, 2)] h h' ∧ r0 = none ∧ h' 20 2 = 0
set_option maxHeartbeats 1000000 in
set_option maxRecDepth 100000 in
theorem sX5_clear (h : fz_H) (hI : fz_Iv h) : fz_R 0 mX5_clear 0 [(0, fz_r 20)] [] h (qX5_clear h) := by
  have hf : fz_fr [(20, 2)] h h := fz_fr_rf
  refine fz_aload_n kX5_clear rfl rfl ?_
  refine fz_iconst ⟨by decide, by decide⟩ kX5_clear rfl ?_
  refine fz_putI kX5_clear rfl rfl rfl ?_
  refine fz_nmu (S := [(20, 2)]) (h0 := h) (fz_Iv_up hI (by decide) (show (0 : Int) ≤ 0 by decide) (show (0 : Int) ≤ 120 by decide)) (fz_fr_up hf rfl) (fun H1 hI2 hf3 e4 => ?_)
  have k5 : H1 20 2 = 0 := by rw [e4]; exact fz_up_e
  clear e4
  exact fz_vret kX5_clear rfl rfl ⟨hI2, hf3, rfl, (by omega)⟩

abbrev qX5_letterHere (h : fz_H) : fz_H → Option fz_V → Prop := fun h' r0 => h' = h ∧ ∃ r : Int, r0 = some (fz_i r) ∧ ((-1) ≤ r ∧ r ≤ 255) ∧ (0 ≤ r → h 20 3 < h 20 2) ∧ (r = fl_lh h)
set_option maxHeartbeats 1000000 in
set_option maxRecDepth 100000 in
theorem sX5_letterHere (h : fz_H) (hI : fz_Iv h) : fz_R 0 mX5_letterHere 0 [(0, fz_r 20)] [] h (qX5_letterHere h) := by
  have b1 : 0 ≤ h 20 3 ∧ h 20 3 ≤ 120 := hI.1 20 _
  have b2 : 0 ≤ h 20 2 ∧ h 20 2 ≤ 120 := hI.1 20 _
  refine fz_aload_n kX5_letterHere rfl rfl ?_
  refine fz_getV (v := h 20 4) kX5_letterHere rfl rfl rfl ?_
  have b3 : 0 ≤ h 20 4 ∧ h 20 4 ≤ 1 := hI.1 20 _
  refine fz_if_ne (tgt := 30) kX5_letterHere rfl (by decide) (fun c4 => ?_) (fun c4 => ?_)
  · refine fz_iconst ⟨by decide, by decide⟩ kX5_letterHere rfl ?_
    exact fz_iret kX5_letterHere rfl rfl (fun _ => ⟨rfl, _, rfl, (by omega), (by omega), (by first | exact fl_lh_f (by omega) | exact fl_lh_n (by omega) | exact fl_lh_y (by omega) ⟨by omega, by omega⟩)⟩)
  · refine fz_aload_n kX5_letterHere rfl rfl ?_
    refine fz_getV (v := h 20 3) kX5_letterHere rfl rfl rfl ?_
    have b6 : 0 ≤ h 20 3 ∧ h 20 3 ≤ 120 := hI.1 20 _
    refine fz_aload_n kX5_letterHere rfl rfl ?_
    refine fz_getV (v := h 20 2) kX5_letterHere rfl rfl rfl ?_
    have b7 : 0 ≤ h 20 2 ∧ h 20 2 ≤ 120 := hI.1 20 _
    refine fz_icmp_ge (tgt := 30) kX5_letterHere rfl (by decide) (fun c8 => ?_) (fun c8 => ?_)
    · refine fz_iconst ⟨by decide, by decide⟩ kX5_letterHere rfl ?_
      exact fz_iret kX5_letterHere rfl rfl (fun _ => ⟨rfl, _, rfl, (by omega), (by omega), (by first | exact fl_lh_f (by omega) | exact fl_lh_n (by omega) | exact fl_lh_y (by omega) ⟨by omega, by omega⟩)⟩)
    · refine fz_aload_n kX5_letterHere rfl rfl ?_
      refine fz_getR (t := 26) kX5_letterHere rfl rfl ?_
      refine fz_aload_n kX5_letterHere rfl rfl ?_
      refine fz_getV (v := h 20 3) kX5_letterHere rfl rfl rfl ?_
      refine fz_ialdV (n := 120) (v := h 26 ((h 20 3).toNat)) kX5_letterHere rfl rfl (by omega) (by omega) rfl ?_
      have b10 : 0 ≤ h 26 ((h 20 3).toNat) ∧ h 26 ((h 20 3).toNat) ≤ 255 := hI.1 26 _
      refine fz_goto (tgt := 31) kX5_letterHere rfl (by decide) ?_
      exact fz_iret kX5_letterHere rfl rfl (fun _ => ⟨rfl, _, rfl, (by omega), (by omega), (by first | exact fl_lh_f (by omega) | exact fl_lh_n (by omega) | exact fl_lh_y (by omega) ⟨by omega, by omega⟩)⟩)

abbrev qX5_nameOf (h : fz_H) (c : Int) : fz_H → Option fz_V → Prop := fun h' r0 => h' = h ∧ ∃ r : Int, r0 = some (fz_i r) ∧ ((-1) ≤ r ∧ r ≤ 5) ∧ (0 ≤ r → 0 ≤ c) ∧ (r = fl_nm c)
set_option maxHeartbeats 1000000 in
set_option maxRecDepth 100000 in
theorem sX5_nameOf (h : fz_H) (hI : fz_Iv h) (c : Int) : fz_R 0 mX5_nameOf 0 [(0, fz_i c)] [] h (qX5_nameOf h c) := by
  refine fz_knowl (fun hk => ?_)
  have hr_c : -2147483648 ≤ c ∧ c < 2147483648 := hk _ (List.Mem.head _)
  clear hk
  refine fz_iload_n kX5_nameOf rfl rfl ?_
  by_cases c1 : (c : Int) = 97
  · refine fz_lsw (tgt := 62) kX5_nameOf rfl (by decide) (show Op.lookupswitch.offset [(97, 61), (100, 63), (109, 65), (112, 69), (116, 67), (119, 59)] 71 c = 61 by exact fz_osy c1) (by decide) ?_
    refine fz_iconst ⟨by decide, by decide⟩ kX5_nameOf rfl ?_
    exact fz_iret kX5_nameOf rfl rfl (fun _ => ⟨rfl, _, rfl, (by omega), (by omega), (by unfold fl_nm; omega)⟩)
  by_cases c3 : (c : Int) = 100
  · refine fz_lsw (tgt := 64) kX5_nameOf rfl (by decide) (show Op.lookupswitch.offset [(97, 61), (100, 63), (109, 65), (112, 69), (116, 67), (119, 59)] 71 c = 63 by rw [fz_osw c1]; exact fz_osy c3) (by decide) ?_
    refine fz_iconst ⟨by decide, by decide⟩ kX5_nameOf rfl ?_
    exact fz_iret kX5_nameOf rfl rfl (fun _ => ⟨rfl, _, rfl, (by omega), (by omega), (by unfold fl_nm; omega)⟩)
  by_cases c5 : (c : Int) = 109
  · refine fz_lsw (tgt := 66) kX5_nameOf rfl (by decide) (show Op.lookupswitch.offset [(97, 61), (100, 63), (109, 65), (112, 69), (116, 67), (119, 59)] 71 c = 65 by rw [fz_osw c1, fz_osw c3]; exact fz_osy c5) (by decide) ?_
    refine fz_iconst ⟨by decide, by decide⟩ kX5_nameOf rfl ?_
    exact fz_iret kX5_nameOf rfl rfl (fun _ => ⟨rfl, _, rfl, (by omega), (by omega), (by unfold fl_nm; omega)⟩)
  by_cases c7 : (c : Int) = 112
  · refine fz_lsw (tgt := 70) kX5_nameOf rfl (by decide) (show Op.lookupswitch.offset [(97, 61), (100, 63), (109, 65), (112, 69), (116, 67), (119, 59)] 71 c = 69 by rw [fz_osw c1, fz_osw c3, fz_osw c5]; exact fz_osy c7) (by decide) ?_
    refine fz_iconst ⟨by decide, by decide⟩ kX5_nameOf rfl ?_
    exact fz_iret kX5_nameOf rfl rfl (fun _ => ⟨rfl, _, rfl, (by omega), (by omega), (by unfold fl_nm; omega)⟩)
  by_cases c9 : (c : Int) = 116
  · refine fz_lsw (tgt := 68) kX5_nameOf rfl (by decide) (show Op.lookupswitch.offset [(97, 61), (100, 63), (109, 65), (112, 69), (116, 67), (119, 59)] 71 c = 67 by rw [fz_osw c1, fz_osw c3, fz_osw c5, fz_osw c7]; exact fz_osy c9) (by decide) ?_
    refine fz_iconst ⟨by decide, by decide⟩ kX5_nameOf rfl ?_
    exact fz_iret kX5_nameOf rfl rfl (fun _ => ⟨rfl, _, rfl, (by omega), (by omega), (by unfold fl_nm; omega)⟩)
  by_cases c11 : (c : Int) = 119
  · refine fz_lsw (tgt := 60) kX5_nameOf rfl (by decide) (show Op.lookupswitch.offset [(97, 61), (100, 63), (109, 65), (112, 69), (116, 67), (119, 59)] 71 c = 59 by rw [fz_osw c1, fz_osw c3, fz_osw c5, fz_osw c7, fz_osw c9]; exact fz_osy c11) (by decide) ?_
    refine fz_iconst ⟨by decide, by decide⟩ kX5_nameOf rfl ?_
    exact fz_iret kX5_nameOf rfl rfl (fun _ => ⟨rfl, _, rfl, (by omega), (by omega), (by unfold fl_nm; omega)⟩)
  refine fz_lsw (tgt := 72) kX5_nameOf rfl (by decide) (show Op.lookupswitch.offset [(97, 61), (100, 63), (109, 65), (112, 69), (116, 67), (119, 59)] 71 c = 71 by rw [fz_osw c1, fz_osw c3, fz_osw c5, fz_osw c7, fz_osw c9, fz_osw c11]; rfl) (by decide) ?_
  refine fz_iconst ⟨by decide, by decide⟩ kX5_nameOf rfl ?_
  exact fz_iret kX5_nameOf rfl rfl (fun _ => ⟨rfl, _, rfl, (by omega), (by omega), (by unfold fl_nm; omega)⟩)

abbrev qX5_goesOnWith (h : fz_H) (c : Int) : fz_H → Option fz_V → Prop := fun h' r0 => fz_Iv h' ∧ fz_fr [(20, 3)] h h' ∧ ∃ r : Int, r0 = some (fz_i r) ∧ (r = 0 ∨ r = 1) ∧ ((r = 1 ∧ fl_lh h = c ∧ h' 20 3 = h 20 3 + 1 ∧ h 20 3 < h 20 2) ∨ (r = 0 ∧ fl_lh h ≠ c ∧ h' 20 3 = h 20 3 ∧ fl_lh h' = fl_lh h))
set_option maxHeartbeats 1000000 in
set_option maxRecDepth 100000 in
theorem sX5_goesOnWith (h : fz_H) (hI : fz_Iv h) (c : Int) (hp0 : 0 ≤ c) : fz_R 1 mX5_goesOnWith 0 [(0, fz_r 20), (1, fz_i c)] [] h (qX5_goesOnWith h c) := by
  refine fz_knowl (fun hk => ?_)
  have hr_c : -2147483648 ≤ c ∧ c < 2147483648 := hk _ (List.Mem.tail _ (List.Mem.head _))
  clear hk
  have hf : fz_fr [(20, 3)] h h := fz_fr_rf
  have b1 : 0 ≤ h 20 3 ∧ h 20 3 ≤ 120 := hI.1 20 _
  have b2 : 0 ≤ h 20 2 ∧ h 20 2 ≤ 120 := hI.1 20 _
  refine fz_aload_n kX5_goesOnWith rfl rfl ?_
  refine fz_callV (d' := 0) (M' := mX5_letterHere) (As := []) (st := []) kX5_goesOnWith rfl rfl vX5_letterHere rfl rfl rfl rfl (Nat.le_of_ble_eq_true rfl) (Nat.le_of_ble_eq_true rfl) (by decide) (sX5_letterHere h hI  ) (fun H3 r4 q5 o6 => ?_)
  obtain ⟨e7, y11, rfl, f8, f9, f10⟩ := q5
  subst H3
  clear o6
  refine fz_iload_n kX5_goesOnWith rfl rfl ?_
  refine fz_icmp_ne (tgt := 12) kX5_goesOnWith rfl (by decide) (fun c12 => ?_) (fun c12 => ?_)
  · refine fz_iconst ⟨by decide, by decide⟩ kX5_goesOnWith rfl ?_
    refine fz_istore_n (ls' := [(2, fz_i 0), (0, fz_r 20), (1, fz_i c)]) kX5_goesOnWith rfl (by decide) rfl ?_
    refine fz_iload_n kX5_goesOnWith rfl rfl ?_
    refine fz_if_eq (tgt := 28) kX5_goesOnWith rfl (by decide) (fun c13 => ?_) (fun c13 => ?_)
    · refine fz_iload_n kX5_goesOnWith rfl rfl ?_
      exact fz_zret kX5_goesOnWith rfl rfl (by omega) ⟨hI, hf, _, rfl, (by omega), (by first | exact Or.inr ⟨rfl, by omega, rfl, rfl⟩ | exact Or.inl ⟨by omega, by omega, by omega, by omega⟩ | exact Or.inr ⟨by omega, by omega, rfl, rfl⟩)⟩
    · exfalso; omega
  · refine fz_iconst ⟨by decide, by decide⟩ kX5_goesOnWith rfl ?_
    refine fz_goto (tgt := 13) kX5_goesOnWith rfl (by decide) ?_
    refine fz_istore_n (ls' := [(2, fz_i 1), (0, fz_r 20), (1, fz_i c)]) kX5_goesOnWith rfl (by decide) rfl ?_
    refine fz_iload_n kX5_goesOnWith rfl rfl ?_
    refine fz_if_eq (tgt := 28) kX5_goesOnWith rfl (by decide) (fun c15 => ?_) (fun c15 => ?_)
    · exfalso; omega
    · refine fz_aload_n kX5_goesOnWith rfl rfl ?_
      refine fz_dup rfl kX5_goesOnWith rfl ?_
      refine fz_getV (v := h 20 3) kX5_goesOnWith rfl rfl rfl ?_
      have b16 : 0 ≤ h 20 3 ∧ h 20 3 ≤ 120 := hI.1 20 _
      refine fz_iconst ⟨by decide, by decide⟩ kX5_goesOnWith rfl ?_
      refine fz_iaddN kX5_goesOnWith rfl (by omega) ?_
      refine fz_putI kX5_goesOnWith rfl rfl rfl ?_
      refine fz_nmu (S := [(20, 3)]) (h0 := h) (fz_Iv_up hI (by decide) (show (0 : Int) ≤ ((h 20 3) + 1) by omega) (show (((h 20 3) + 1) : Int) ≤ 120 by omega)) (fz_fr_up hf rfl) (fun H17 hI18 hf19 e20 => ?_)
      have k21 : H17 20 3 = ((h 20 3) + 1) := by rw [e20]; exact fz_up_e
      clear e20
      refine fz_iload_n kX5_goesOnWith rfl rfl ?_
      exact fz_zret kX5_goesOnWith rfl rfl (by omega) ⟨hI18, hf19, _, rfl, (by omega), (by first | exact Or.inr ⟨rfl, by omega, rfl, rfl⟩ | exact Or.inl ⟨by omega, by omega, by omega, by omega⟩ | exact Or.inr ⟨by omega, by omega, rfl, rfl⟩)⟩

abbrev qX5_passed (h : fz_H) (c : Int) : fz_H → Option fz_V → Prop := fun h' r0 => fz_Iv h' ∧ fz_fr [(20, 3)] h h' ∧ ∃ r : Int, r0 = some (fz_i r) ∧ ((-2147483648) ≤ r ∧ r ≤ 2147483647) ∧ (r = c ∧ ((0 ≤ c ∧ h' 20 3 = h 20 3 + 1) ∨ (c < 0 ∧ h' 20 3 = h 20 3)))
set_option maxHeartbeats 1000000 in
set_option maxRecDepth 100000 in
theorem sX5_passed (h : fz_H) (hI : fz_Iv h) (c : Int) (hp0 : 0 ≤ c → h 20 3 < h 20 2) : fz_R 0 mX5_passed 0 [(0, fz_r 20), (1, fz_i c)] [] h (qX5_passed h c) := by
  refine fz_knowl (fun hk => ?_)
  have hr_c : -2147483648 ≤ c ∧ c < 2147483648 := hk _ (List.Mem.tail _ (List.Mem.head _))
  clear hk
  have hf : fz_fr [(20, 3)] h h := fz_fr_rf
  have b1 : 0 ≤ h 20 3 ∧ h 20 3 ≤ 120 := hI.1 20 _
  have b2 : 0 ≤ h 20 2 ∧ h 20 2 ≤ 120 := hI.1 20 _
  refine fz_iload_n kX5_passed rfl rfl ?_
  refine fz_if_lt (tgt := 14) kX5_passed rfl (by decide) (fun c3 => ?_) (fun c3 => ?_)
  · refine fz_iload_n kX5_passed rfl rfl ?_
    exact fz_iret kX5_passed rfl rfl (fun _ => ⟨hI, hf, _, rfl, (by omega), (by omega)⟩)
  · refine fz_aload_n kX5_passed rfl rfl ?_
    refine fz_dup rfl kX5_passed rfl ?_
    refine fz_getV (v := h 20 3) kX5_passed rfl rfl rfl ?_
    have b4 : 0 ≤ h 20 3 ∧ h 20 3 ≤ 120 := hI.1 20 _
    refine fz_iconst ⟨by decide, by decide⟩ kX5_passed rfl ?_
    refine fz_iaddN kX5_passed rfl (by omega) ?_
    refine fz_putI kX5_passed rfl rfl rfl ?_
    refine fz_nmu (S := [(20, 3)]) (h0 := h) (fz_Iv_up hI (by decide) (show (0 : Int) ≤ ((h 20 3) + 1) by omega) (show (((h 20 3) + 1) : Int) ≤ 120 by omega)) (fz_fr_up hf rfl) (fun H5 hI6 hf7 e8 => ?_)
    have k9 : H5 20 3 = ((h 20 3) + 1) := by rw [e8]; exact fz_up_e
    clear e8
    refine fz_iload_n kX5_passed rfl rfl ?_
    exact fz_iret kX5_passed rfl rfl (fun _ => ⟨hI6, hf7, _, rfl, (by omega), (by omega)⟩)

abbrev qX5_nextOf (h : fz_H) (a b c : Int) : fz_H → Option fz_V → Prop := fun h' r0 => fz_Iv h' ∧ fz_fr [(20, 3)] h h' ∧ ∃ r : Int, r0 = some (fz_i r) ∧ ((-2147483648) ≤ r ∧ r ≤ 2147483647) ∧ ((r = fl_lh h ∧ (r = a ∨ r = b ∨ r = c) ∧ h' 20 3 = h 20 3 + 1) ∨ (r = 0 ∧ fl_lh h ≠ a ∧ fl_lh h ≠ b ∧ fl_lh h ≠ c ∧ h' 20 3 = h 20 3))
set_option maxHeartbeats 1000000 in
set_option maxRecDepth 100000 in
theorem sX5_nextOf (h : fz_H) (hI : fz_Iv h) (a b c : Int) (hp0 : 1 ≤ a ∧ 1 ≤ b ∧ 1 ≤ c) : fz_R 1 mX5_nextOf 0 [(0, fz_r 20), (1, fz_i a), (2, fz_i b), (3, fz_i c)] [] h (qX5_nextOf h a b c) := by
  refine fz_knowl (fun hk => ?_)
  have hr_a : -2147483648 ≤ a ∧ a < 2147483648 := hk _ (List.Mem.tail _ (List.Mem.head _))
  have hr_b : -2147483648 ≤ b ∧ b < 2147483648 := hk _ (List.Mem.tail _ (List.Mem.tail _ (List.Mem.head _)))
  have hr_c : -2147483648 ≤ c ∧ c < 2147483648 := hk _ (List.Mem.tail _ (List.Mem.tail _ (List.Mem.tail _ (List.Mem.head _))))
  clear hk
  have hf : fz_fr [(20, 3)] h h := fz_fr_rf
  have b1 : 0 ≤ h 20 3 ∧ h 20 3 ≤ 120 := hI.1 20 _
  refine fz_aload_n kX5_nextOf rfl rfl ?_
  have b2 : 0 ≤ h 20 2 ∧ h 20 2 ≤ 120 := hI.1 20 _
  refine fz_callV (d' := 0) (M' := mX5_letterHere) (As := []) (st := []) kX5_nextOf rfl rfl vX5_letterHere rfl rfl rfl rfl (Nat.le_of_ble_eq_true rfl) (Nat.le_of_ble_eq_true rfl) (by decide) (sX5_letterHere h hI  ) (fun H3 r4 q5 o6 => ?_)
  obtain ⟨e7, y11, rfl, f8, f9, f10⟩ := q5
  subst H3
  clear o6
  refine fz_istore (ls' := [(4, fz_i y11), (0, fz_r 20), (1, fz_i a), (2, fz_i b), (3, fz_i c)]) kX5_nextOf rfl (by decide) rfl ?_
  refine fz_iload kX5_nextOf rfl rfl ?_
  refine fz_iload_n kX5_nextOf rfl rfl ?_
  refine fz_icmp_eq (tgt := 24) kX5_nextOf rfl (by decide) (fun c12 => ?_) (fun c12 => ?_)
  · refine fz_aload_n kX5_nextOf rfl rfl ?_
    refine fz_iload kX5_nextOf rfl rfl ?_
    refine fz_callV (d' := 0) (M' := mX5_passed) (As := [fz_i y11]) (st := []) kX5_nextOf rfl rfl vX5_passed rfl rfl rfl rfl (Nat.le_of_ble_eq_true rfl) (Nat.le_of_ble_eq_true rfl) (by decide) (sX5_passed h hI y11 (by omega)) (fun H13 r14 q15 o16 => ?_)
    obtain ⟨hI17, hf18, y21, rfl, f19, f20⟩ := q15
    clear o16
    have hf22 := fz_fr_tr hf hf18 (show fz_su [(20, 3)] [(20, 3)] = true from rfl)
    refine fz_goto (tgt := 34) kX5_nextOf rfl (by decide) ?_
    exact fz_iret kX5_nextOf rfl rfl (fun _ => ⟨hI17, hf22, _, rfl, (by omega), (by first | exact Or.inl ⟨by omega, by omega, by omega⟩ | exact Or.inr ⟨by omega, by omega, by omega, by omega, by omega⟩)⟩)
  · refine fz_iload kX5_nextOf rfl rfl ?_
    refine fz_iload_n kX5_nextOf rfl rfl ?_
    refine fz_icmp_eq (tgt := 24) kX5_nextOf rfl (by decide) (fun c24 => ?_) (fun c24 => ?_)
    · refine fz_aload_n kX5_nextOf rfl rfl ?_
      refine fz_iload kX5_nextOf rfl rfl ?_
      refine fz_callV (d' := 0) (M' := mX5_passed) (As := [fz_i y11]) (st := []) kX5_nextOf rfl rfl vX5_passed rfl rfl rfl rfl (Nat.le_of_ble_eq_true rfl) (Nat.le_of_ble_eq_true rfl) (by decide) (sX5_passed h hI y11 (by omega)) (fun H25 r26 q27 o28 => ?_)
      obtain ⟨hI29, hf30, y33, rfl, f31, f32⟩ := q27
      clear o28
      have hf34 := fz_fr_tr hf hf30 (show fz_su [(20, 3)] [(20, 3)] = true from rfl)
      refine fz_goto (tgt := 34) kX5_nextOf rfl (by decide) ?_
      exact fz_iret kX5_nextOf rfl rfl (fun _ => ⟨hI29, hf34, _, rfl, (by omega), (by first | exact Or.inl ⟨by omega, by omega, by omega⟩ | exact Or.inr ⟨by omega, by omega, by omega, by omega, by omega⟩)⟩)
    · refine fz_iload kX5_nextOf rfl rfl ?_
      refine fz_iload_n kX5_nextOf rfl rfl ?_
      refine fz_icmp_ne (tgt := 33) kX5_nextOf rfl (by decide) (fun c36 => ?_) (fun c36 => ?_)
      · refine fz_iconst ⟨by decide, by decide⟩ kX5_nextOf rfl ?_
        exact fz_iret kX5_nextOf rfl rfl (fun _ => ⟨hI, hf, _, rfl, (by omega), (by first | exact Or.inl ⟨by omega, by omega, by omega⟩ | exact Or.inr ⟨by omega, by omega, by omega, by omega, by omega⟩)⟩)
      · refine fz_aload_n kX5_nextOf rfl rfl ?_
        refine fz_iload kX5_nextOf rfl rfl ?_
        refine fz_callV (d' := 0) (M' := mX5_passed) (As := [fz_i y11]) (st := []) kX5_nextOf rfl rfl vX5_passed rfl rfl rfl rfl (Nat.le_of_ble_eq_true rfl) (Nat.le_of_ble_eq_true rfl) (by decide) (sX5_passed h hI y11 (by omega)) (fun H38 r39 q40 o41 => ?_)
        obtain ⟨hI42, hf43, y46, rfl, f44, f45⟩ := q40
        clear o41
        have hf47 := fz_fr_tr hf hf43 (show fz_su [(20, 3)] [(20, 3)] = true from rfl)
        refine fz_goto (tgt := 34) kX5_nextOf rfl (by decide) ?_
        exact fz_iret kX5_nextOf rfl rfl (fun _ => ⟨hI42, hf47, _, rfl, (by omega), (by first | exact Or.inl ⟨by omega, by omega, by omega⟩ | exact Or.inr ⟨by omega, by omega, by omega, by omega, by omega⟩)⟩)

abbrev qX5_readNumber (h : fz_H) : fz_H → Option fz_V → Prop := fun h' r0 => fz_Iv h' ∧ fz_fr [(20, 3), (21, 4), (22, 99999), (23, 99999)] h h' ∧ r0 = none ∧ h 20 3 + 1 ≤ h' 20 3 ∧ h' 21 4 = h 21 4 + 1 ∧ fl_rnC h h'
set_option maxHeartbeats 1000000 in
set_option maxRecDepth 100000 in
theorem sX5_readNumber (h : fz_H) (hI : fz_Iv h) (hp0 : 48 ≤ fl_lh h ∧ fl_lh h ≤ 57) (hp1 : h 20 4 = 0) (hp2 : h 21 4 ≤ h 20 3) : fz_R 1 mX5_readNumber 0 [(0, fz_r 20)] [] h (qX5_readNumber h) := by
  have hf : fz_fr [(20, 3), (21, 4), (22, 99999), (23, 99999)] h h := fz_fr_rf
  have b1 : 0 ≤ h 20 4 ∧ h 20 4 ≤ 1 := hI.1 20 _
  have b2 : 0 ≤ h 21 4 ∧ h 21 4 ≤ 128 := hI.1 21 _
  have b3 : 0 ≤ h 20 3 ∧ h 20 3 ≤ 120 := hI.1 20 _
  refine fz_iconst ⟨by decide, by decide⟩ kX5_readNumber rfl ?_
  refine fz_istore_n (ls' := [(1, fz_i 0), (0, fz_r 20)]) kX5_readNumber rfl (by decide) rfl ?_
  refine fz_iconst ⟨by decide, by decide⟩ kX5_readNumber rfl ?_
  refine fz_istore_n (ls' := [(2, fz_i 0), (1, fz_i 0), (0, fz_r 20)]) kX5_readNumber rfl (by decide) rfl ?_
  have lp10 : ∀ (n9 : Nat) (x4 : Int) (x5 : Int) (H6 : fz_H), fz_Iv H6 → fz_fr [(20, 3), (21, 4), (22, 99999), (23, 99999)] h H6 → (0 ≤ x4 ∧ x4 ≤ 4) → (0 ≤ x5 ∧ x5 ≤ 9999) → ((x4 = 0 ∧ x5 = 0) ∨ (x4 = 1 ∧ x5 ≤ 9) ∨ (x4 = 2 ∧ x5 ≤ 99) ∨ (x4 = 3 ∧ x5 ≤ 999) ∨ x4 = 4) → (H6 20 3 = h 20 3 + x4) → (H6 20 4 = 0) → (H6 21 4 = h 21 4) → (fl_dg (fl_gC h) (4 - x4).toNat (x5, H6 20 3) = fl_dg (fl_gC h) 4 (0, h 20 3)) → (H6 22 = h 22 ∧ H6 23 = h 23) → (4 - x4).toNat < n9 → fz_R 1 mX5_readNumber 4 [(2, fz_i x4), (1, fz_i x5), (0, fz_r 20)] [] H6 (qX5_readNumber h) := by
    intro n9
    induction n9 with
    | zero => intro x4 x5 H6 hI7 hf8 hv13 hv14 hv15 hv16 hv17 hv18 hv19 hv20 hm12; exact absurd hm12 (by omega)
    | succ n9 ih11 =>
      intro x4 x5 H6 hI7 hf8 hv13 hv14 hv15 hv16 hv17 hv18 hv19 hv20 hm12
      refine fz_iload_n kX5_readNumber rfl rfl ?_
      refine fz_iconst ⟨by decide, by decide⟩ kX5_readNumber rfl ?_
      refine fz_icmp_ge (tgt := 56) kX5_readNumber rfl (by decide) (fun c21 => ?_) (fun c21 => ?_)
      · have k22 := fl_dg_x hv19 (by omega)
        have k24 : h 20 3 + 1 ≤ H6 20 3 := by have z := fl_dg_1 (g := fl_gC h) (fl_gl_lt (f := h 26) (n := h 20 2)) (a := h 20 3) (by omega) (by have := fl_lh_lt (h := h) (by omega); omega) (by have := fl_lh_g (h := h) (by omega); omega); rw [k22] at z; exact z.2.1
        refine fz_aload_n kX5_readNumber rfl rfl ?_
        refine fz_getR (t := 21) kX5_readNumber rfl rfl ?_
        refine fz_bipush ⟨by decide, by decide⟩ kX5_readNumber rfl ?_
        refine fz_iload_n kX5_readNumber rfl rfl ?_
        have b25 : 0 ≤ H6 21 4 ∧ H6 21 4 ≤ 128 := hI7.1 21 _
        refine fz_callV (d' := 0) (M' := mX3_add) (As := [fz_i 35, fz_i x5]) (st := []) kX5_readNumber rfl rfl vX3_add rfl rfl rfl rfl (Nat.le_of_ble_eq_true rfl) (Nat.le_of_ble_eq_true rfl) (by decide) (sX3_add H6 hI7 35 x5 ) (fun H26 r27 q28 o29 => ?_)
        obtain ⟨hI30, hf31, y35, rfl, f32, f33, f34⟩ := q28
        clear o29
        have hf36 := fz_fr_tr hf8 hf31 (show fz_su [(21, 4), (22, 99999), (23, 99999)] [(20, 3), (21, 4), (22, 99999), (23, 99999)] = true from rfl)
        have t37 : H26 20 3 = H6 20 3 := hf31 20 3 rfl
        have t38 : H26 20 4 = H6 20 4 := hf31 20 4 rfl
        refine fz_pop rfl kX5_readNumber rfl ?_
        have k39 := fl_rn_in (by omega) k22 rfl f34 (by omega) (hf31 20 3 rfl) (by omega) hv20.1 hv20.2
        exact fz_vret kX5_readNumber rfl rfl ⟨hI30, hf36, rfl, (by omega), (by omega), (by exact k39)⟩
      · have k42 : fl_lh H6 = fl_gC h (H6 20 3) := fl_lh_gh (by omega) (funext fun s => hf8 26 s rfl) (hf8 20 2 rfl)
        refine fz_aload_n kX5_readNumber rfl rfl ?_
        have b43 : 0 ≤ H6 20 3 ∧ H6 20 3 ≤ 120 := hI7.1 20 _
        have b44 : 0 ≤ h 20 2 ∧ h 20 2 ≤ 120 := hI.1 20 _
        have e45 : H6 20 2 = h 20 2 := hf8 20 2 rfl
        refine fz_callV (d' := 0) (M' := mX5_letterHere) (As := []) (st := []) kX5_readNumber rfl rfl vX5_letterHere rfl rfl rfl rfl (Nat.le_of_ble_eq_true rfl) (Nat.le_of_ble_eq_true rfl) (by decide) (sX5_letterHere H6 hI7  ) (fun H46 r47 q48 o49 => ?_)
        obtain ⟨e50, y54, rfl, f51, f52, f53⟩ := q48
        subst H46
        clear o49
        refine fz_bipush ⟨by decide, by decide⟩ kX5_readNumber rfl ?_
        refine fz_icmp_lt (tgt := 56) kX5_readNumber rfl (by decide) (fun c55 => ?_) (fun c55 => ?_)
        · have k56 := fl_dg_x hv19 (by omega)
          have k58 : h 20 3 + 1 ≤ H6 20 3 := by have z := fl_dg_1 (g := fl_gC h) (fl_gl_lt (f := h 26) (n := h 20 2)) (a := h 20 3) (by omega) (by have := fl_lh_lt (h := h) (by omega); omega) (by have := fl_lh_g (h := h) (by omega); omega); rw [k56] at z; exact z.2.1
          refine fz_aload_n kX5_readNumber rfl rfl ?_
          refine fz_getR (t := 21) kX5_readNumber rfl rfl ?_
          refine fz_bipush ⟨by decide, by decide⟩ kX5_readNumber rfl ?_
          refine fz_iload_n kX5_readNumber rfl rfl ?_
          have b59 : 0 ≤ H6 21 4 ∧ H6 21 4 ≤ 128 := hI7.1 21 _
          refine fz_callV (d' := 0) (M' := mX3_add) (As := [fz_i 35, fz_i x5]) (st := []) kX5_readNumber rfl rfl vX3_add rfl rfl rfl rfl (Nat.le_of_ble_eq_true rfl) (Nat.le_of_ble_eq_true rfl) (by decide) (sX3_add H6 hI7 35 x5 ) (fun H60 r61 q62 o63 => ?_)
          obtain ⟨hI64, hf65, y69, rfl, f66, f67, f68⟩ := q62
          clear o63
          have hf70 := fz_fr_tr hf8 hf65 (show fz_su [(21, 4), (22, 99999), (23, 99999)] [(20, 3), (21, 4), (22, 99999), (23, 99999)] = true from rfl)
          have t71 : H60 20 3 = H6 20 3 := hf65 20 3 rfl
          have t72 : H60 20 4 = H6 20 4 := hf65 20 4 rfl
          refine fz_pop rfl kX5_readNumber rfl ?_
          have k73 := fl_rn_in (by omega) k56 rfl f68 (by omega) (hf65 20 3 rfl) (by omega) hv20.1 hv20.2
          exact fz_vret kX5_readNumber rfl rfl ⟨hI64, hf70, rfl, (by omega), (by omega), (by exact k73)⟩
        · refine fz_aload_n kX5_readNumber rfl rfl ?_
          refine fz_callV (d' := 0) (M' := mX5_letterHere) (As := []) (st := []) kX5_readNumber rfl rfl vX5_letterHere rfl rfl rfl rfl (Nat.le_of_ble_eq_true rfl) (Nat.le_of_ble_eq_true rfl) (by decide) (sX5_letterHere H6 hI7  ) (fun H76 r77 q78 o79 => ?_)
          obtain ⟨e80, y84, rfl, f81, f82, f83⟩ := q78
          subst H76
          clear o79
          refine fz_bipush ⟨by decide, by decide⟩ kX5_readNumber rfl ?_
          refine fz_icmp_gt (tgt := 56) kX5_readNumber rfl (by decide) (fun c85 => ?_) (fun c85 => ?_)
          · have k86 := fl_dg_x hv19 (by omega)
            have k88 : h 20 3 + 1 ≤ H6 20 3 := by have z := fl_dg_1 (g := fl_gC h) (fl_gl_lt (f := h 26) (n := h 20 2)) (a := h 20 3) (by omega) (by have := fl_lh_lt (h := h) (by omega); omega) (by have := fl_lh_g (h := h) (by omega); omega); rw [k86] at z; exact z.2.1
            refine fz_aload_n kX5_readNumber rfl rfl ?_
            refine fz_getR (t := 21) kX5_readNumber rfl rfl ?_
            refine fz_bipush ⟨by decide, by decide⟩ kX5_readNumber rfl ?_
            refine fz_iload_n kX5_readNumber rfl rfl ?_
            have b89 : 0 ≤ H6 21 4 ∧ H6 21 4 ≤ 128 := hI7.1 21 _
            refine fz_callV (d' := 0) (M' := mX3_add) (As := [fz_i 35, fz_i x5]) (st := []) kX5_readNumber rfl rfl vX3_add rfl rfl rfl rfl (Nat.le_of_ble_eq_true rfl) (Nat.le_of_ble_eq_true rfl) (by decide) (sX3_add H6 hI7 35 x5 ) (fun H90 r91 q92 o93 => ?_)
            obtain ⟨hI94, hf95, y99, rfl, f96, f97, f98⟩ := q92
            clear o93
            have hf100 := fz_fr_tr hf8 hf95 (show fz_su [(21, 4), (22, 99999), (23, 99999)] [(20, 3), (21, 4), (22, 99999), (23, 99999)] = true from rfl)
            have t101 : H90 20 3 = H6 20 3 := hf95 20 3 rfl
            have t102 : H90 20 4 = H6 20 4 := hf95 20 4 rfl
            refine fz_pop rfl kX5_readNumber rfl ?_
            have k103 := fl_rn_in (by omega) k86 rfl f98 (by omega) (hf95 20 3 rfl) (by omega) hv20.1 hv20.2
            exact fz_vret kX5_readNumber rfl rfl ⟨hI94, hf100, rfl, (by omega), (by omega), (by exact k103)⟩
          · refine fz_iload_n kX5_readNumber rfl rfl ?_
            refine fz_bipush ⟨by decide, by decide⟩ kX5_readNumber rfl ?_
            refine fz_imulN kX5_readNumber rfl (by omega) ?_
            refine fz_aload_n kX5_readNumber rfl rfl ?_
            refine fz_callV (d' := 0) (M' := mX5_letterHere) (As := []) (st := [fz_i (x5 * 10)]) kX5_readNumber rfl rfl vX5_letterHere rfl rfl rfl rfl (Nat.le_of_ble_eq_true rfl) (Nat.le_of_ble_eq_true rfl) (by decide) (sX5_letterHere H6 hI7  ) (fun H106 r107 q108 o109 => ?_)
            obtain ⟨e110, y114, rfl, f111, f112, f113⟩ := q108
            subst H106
            clear o109
            refine fz_iaddN kX5_readNumber rfl (by omega) ?_
            refine fz_bipush ⟨by decide, by decide⟩ kX5_readNumber rfl ?_
            refine fz_isubN kX5_readNumber rfl (by omega) ?_
            refine fz_istore_n (ls' := [(1, fz_i (((x5 * 10) + y114) - 48)), (2, fz_i x4), (0, fz_r 20)]) kX5_readNumber rfl (by decide) rfl ?_
            refine fz_aload_n kX5_readNumber rfl rfl ?_
            refine fz_dup rfl kX5_readNumber rfl ?_
            obtain ⟨v115, e116⟩ : ∃ z, H6 20 (3) = z := ⟨_, rfl⟩
            refine fz_getV (v := v115) kX5_readNumber rfl rfl e116 ?_
            have b117 : 0 ≤ v115 ∧ v115 ≤ 120 := by rw [← e116]; exact hI7.1 20 _
            refine fz_iconst ⟨by decide, by decide⟩ kX5_readNumber rfl ?_
            refine fz_iaddN kX5_readNumber rfl (by omega) ?_
            refine fz_putI kX5_readNumber rfl rfl rfl ?_
            refine fz_nmu (S := [(20, 3), (21, 4), (22, 99999), (23, 99999)]) (h0 := h) (fz_Iv_up hI7 (by decide) (show (0 : Int) ≤ (v115 + 1) by omega) (show ((v115 + 1) : Int) ≤ 120 by omega)) (fz_fr_up hf8 rfl) (fun H118 hI119 hf120 e121 => ?_)
            have k122 : H118 20 3 = (v115 + 1) := by rw [e121]; exact fz_up_e
            have t123 : H118 20 4 = H6 20 4 := by rw [e121]; exact fz_up_s (by decide)
            have t124 : H118 21 4 = H6 21 4 := by rw [e121]; exact fz_up_o (by decide)
            refine fz_iincN (ls' := [(2, fz_i (x4 + 1)), (1, fz_i (((x5 * 10) + y114) - 48)), (0, fz_r 20)]) kX5_readNumber rfl (by decide) rfl (by omega) rfl ?_
            refine fz_goto (tgt := 4) kX5_readNumber rfl (by decide) ?_
            exact ih11 (x4 + 1) (((x5 * 10) + y114) - 48) H118 hI119 hf120 (by omega) (by omega) (by omega) (by omega) (by omega) (by omega) (fl_dg_st hv19 (by omega) ⟨by omega, by omega⟩ (by omega) (by omega)) (by rw [e121]; exact ⟨(fz_up_ne (by decide)).trans hv20.1, (fz_up_ne (by decide)).trans hv20.2⟩) (by omega)
  exact lp10 _ 0 0 h hI hf (by omega) (by omega) (by omega) (by omega) (by omega) (by omega) (rfl) (⟨rfl, rfl⟩) (Nat.lt_succ_self _)

abbrev qX5_readO_6 (h : fz_H) : fz_H → Option fz_V → Prop := fun h' r0 => fz_Iv h' ∧ fz_fr [(20, 3), (20, 4), (21, 4), (22, 99999), (23, 99999)] h h' ∧ r0 = none ∧ (h 20 4 = 0 ∨ (h' 20 4 = 1 ∧ h' 20 3 = h 20 3)) ∧ (h' 20 4 = 1 ∨ (h' 21 4 - h 21 4 ≤ h' 20 3 - h 20 3 ∧ h 20 3 + 1 ≤ h' 20 3)) ∧ fl_rdC h h' (fl_pO (fl_gC h) 0 (h 20 3))
set_option maxHeartbeats 1000000 in
set_option maxRecDepth 100000 in
theorem sX5_readO_6 (h : fz_H) (hI : fz_Iv h) (hp0 : h 20 4 = 1 ∨ h 21 4 ≤ h 20 3) : fz_R 2 mX5_readO 0 [(0, fz_r 20), (1, fz_i 6)] [] h (qX5_readO_6 h) := by
  have hf : fz_fr [(20, 3), (20, 4), (21, 4), (22, 99999), (23, 99999)] h h := fz_fr_rf
  have b1 : 0 ≤ h 20 4 ∧ h 20 4 ≤ 1 := hI.1 20 _
  have b2 : 0 ≤ h 21 4 ∧ h 21 4 ≤ 128 := hI.1 21 _
  have b3 : 0 ≤ h 20 3 ∧ h 20 3 ≤ 120 := hI.1 20 _
  refine fz_aload_n kX5_readO rfl rfl ?_
  have b4 : 0 ≤ h 20 2 ∧ h 20 2 ≤ 120 := hI.1 20 _
  refine fz_callV (d' := 0) (M' := mX5_letterHere) (As := []) (st := []) kX5_readO rfl rfl vX5_letterHere rfl rfl rfl rfl (Nat.le_of_ble_eq_true rfl) (Nat.le_of_ble_eq_true rfl) (by decide) (sX5_letterHere h hI  ) (fun H5 r6 q7 o8 => ?_)
  obtain ⟨e9, y13, rfl, f10, f11, f12⟩ := q7
  subst H5
  clear o8
  refine fz_istore_n (ls' := [(2, fz_i y13), (0, fz_r 20), (1, fz_i 6)]) kX5_readO rfl (by decide) rfl ?_
  have k14 : 0 ≤ fl_lh h → h 20 4 = 0 := fl_lh_0
  have k15 : 0 ≤ fl_lh h → h 20 3 < h 20 2 := fl_lh_lt
  have k16 : 0 ≤ h 20 4 ∧ h 20 4 ≤ 1 := hI.1 20 _
  refine fz_iload_n kX5_readO rfl rfl ?_
  refine fz_callS (d' := 0) (M' := mX5_nameOf) (As := [fz_i y13]) (st := []) kX5_readO rfl rfl vX5_nameOf rfl rfl (Nat.le_of_ble_eq_true rfl) (Nat.le_of_ble_eq_true rfl) (by decide) (sX5_nameOf h hI y13 ) (fun H17 r18 q19 o20 => ?_)
  obtain ⟨e21, y25, rfl, f22, f23, f24⟩ := q19
  subst H17
  clear o20
  refine fz_istore_n (ls' := [(3, fz_i y25), (2, fz_i y13), (0, fz_r 20), (1, fz_i 6)]) kX5_readO rfl (by decide) rfl ?_
  refine fz_iload_n kX5_readO rfl rfl ?_
  refine fz_bipush ⟨by decide, by decide⟩ kX5_readO rfl ?_
  refine fz_icmp_lt (tgt := 29) kX5_readO rfl (by decide) (fun c26 => ?_) (fun c26 => ?_)
  · refine fz_iload_n kX5_readO rfl rfl ?_
    refine fz_if_lt (tgt := 57) kX5_readO rfl (by decide) (fun c27 => ?_) (fun c27 => ?_)
    · refine fz_iload_n kX5_readO rfl rfl ?_
      refine fz_bipush ⟨by decide, by decide⟩ kX5_readO rfl ?_
      refine fz_icmp_lt (tgt := 71) kX5_readO rfl (by decide) (fun c28 => ?_) (fun c28 => ?_)
      · exfalso; omega
      · refine fz_aload_n kX5_readO rfl rfl ?_
        refine fz_iconst ⟨by decide, by decide⟩ kX5_readO rfl ?_
        refine fz_putZ kX5_readO rfl rfl rfl (by omega) ?_
        refine fz_nmu (S := [(20, 3), (20, 4), (21, 4), (22, 99999), (23, 99999)]) (h0 := h) (fz_Iv_up hI (by decide) (show (0 : Int) ≤ 1 by decide) (show (1 : Int) ≤ 1 by decide)) (fz_fr_up hf rfl) (fun H29 hI30 hf31 e32 => ?_)
        have k33 : H29 21 4 = (h 21 4) := by rw [e32]; exact (fz_up_o (by decide)).trans rfl
        have k34 : H29 20 3 = (h 20 3) := by rw [e32]; exact (fz_up_s (by decide)).trans rfl
        have k35 : H29 20 4 = 1 := by rw [e32]; exact fz_up_e
        have t36 : H29 20 3 = h 20 3 := by rw [e32]; exact fz_up_s (by decide)
        have t37 : H29 21 4 = h 21 4 := by rw [e32]; exact fz_up_o (by decide)
        refine fz_goto (tgt := 180) kX5_readO rfl (by decide) ?_
        exact fz_vret kX5_readO rfl rfl ⟨hI30, hf31, rfl, (by omega), (by omega), (by first | exact fl_O_num f12 ⟨by omega, by omega⟩ lost (lost 20 4 rfl) | exact fl_O_nam f12 f24 (by omega) (by omega) lost rfl lost (by omega) (lost 20 3 rfl) (lost 20 4 rfl) | exact fl_O_f0 f12 f24 (by omega) (by omega) (Or.inl rfl) (by omega) (by omega))⟩
    · refine fz_aload_n kX5_readO rfl rfl ?_
      refine fz_dup rfl kX5_readO rfl ?_
      refine fz_getV (v := h 20 3) kX5_readO rfl rfl rfl ?_
      have b39 : 0 ≤ h 20 3 ∧ h 20 3 ≤ 120 := hI.1 20 _
      refine fz_iconst ⟨by decide, by decide⟩ kX5_readO rfl ?_
      refine fz_iaddN kX5_readO rfl (by omega) ?_
      refine fz_putI kX5_readO rfl rfl rfl ?_
      refine fz_nmu (S := [(20, 3), (20, 4), (21, 4), (22, 99999), (23, 99999)]) (h0 := h) (fz_Iv_up hI (by decide) (show (0 : Int) ≤ ((h 20 3) + 1) by omega) (show (((h 20 3) + 1) : Int) ≤ 120 by omega)) (fz_fr_up hf rfl) (fun H40 hI41 hf42 e43 => ?_)
      have k44 : H40 20 4 = (h 20 4) := by rw [e43]; exact (fz_up_s (by decide)).trans rfl
      have k45 : H40 21 4 = (h 21 4) := by rw [e43]; exact (fz_up_o (by decide)).trans rfl
      have k46 : H40 20 3 = ((h 20 3) + 1) := by rw [e43]; exact fz_up_e
      have t47 : H40 20 4 = h 20 4 := by rw [e43]; exact fz_up_s (by decide)
      have t48 : H40 21 4 = h 21 4 := by rw [e43]; exact fz_up_o (by decide)
      refine fz_aload_n kX5_readO rfl rfl ?_
      refine fz_getR (t := 21) kX5_readO rfl rfl ?_
      refine fz_bipush ⟨by decide, by decide⟩ kX5_readO rfl ?_
      refine fz_iload_n kX5_readO rfl rfl ?_
      have b49 : 0 ≤ H40 21 4 ∧ H40 21 4 ≤ 128 := hI41.1 21 _
      refine fz_callV (d' := 0) (M' := mX3_add) (As := [fz_i 64, fz_i y25]) (st := []) kX5_readO rfl rfl vX3_add rfl rfl rfl rfl (Nat.le_of_ble_eq_true rfl) (Nat.le_of_ble_eq_true rfl) (by decide) (sX3_add H40 hI41 64 y25 ) (fun H50 r51 q52 o53 => ?_)
      obtain ⟨hI54, hf55, y59, rfl, f56, f57, f58⟩ := q52
      clear o53
      have hf60 := fz_fr_tr hf42 hf55 (show fz_su [(21, 4), (22, 99999), (23, 99999)] [(20, 3), (20, 4), (21, 4), (22, 99999), (23, 99999)] = true from rfl)
      have k61 : H50 20 4 = (h 20 4) := (hf55 20 4 rfl).trans k44
      have k62 : H50 20 3 = ((h 20 3) + 1) := (hf55 20 3 rfl).trans k46
      have t63 : H50 20 3 = H40 20 3 := hf55 20 3 rfl
      have t64 : H50 20 4 = H40 20 4 := hf55 20 4 rfl
      refine fz_pop rfl kX5_readO rfl ?_
      refine fz_goto (tgt := 180) kX5_readO rfl (by decide) ?_
      exact fz_vret kX5_readO rfl rfl ⟨hI54, hf60, rfl, (by omega), (by omega), (by first | exact fl_O_num f12 ⟨by omega, by omega⟩ lost (lost 20 4 rfl) | exact fl_O_nam f12 f24 (by omega) (by omega) e43 rfl f58 (by omega) (hf55 20 3 rfl) (hf55 20 4 rfl) | exact fl_O_f0 f12 f24 (by omega) (by omega) (Or.inl rfl) (by omega) (by omega))⟩
  · refine fz_iload_n kX5_readO rfl rfl ?_
    refine fz_bipush ⟨by decide, by decide⟩ kX5_readO rfl ?_
    refine fz_icmp_gt (tgt := 29) kX5_readO rfl (by decide) (fun c66 => ?_) (fun c66 => ?_)
    · refine fz_iload_n kX5_readO rfl rfl ?_
      refine fz_if_lt (tgt := 57) kX5_readO rfl (by decide) (fun c67 => ?_) (fun c67 => ?_)
      · refine fz_iload_n kX5_readO rfl rfl ?_
        refine fz_bipush ⟨by decide, by decide⟩ kX5_readO rfl ?_
        refine fz_icmp_lt (tgt := 71) kX5_readO rfl (by decide) (fun c68 => ?_) (fun c68 => ?_)
        · exfalso; omega
        · refine fz_aload_n kX5_readO rfl rfl ?_
          refine fz_iconst ⟨by decide, by decide⟩ kX5_readO rfl ?_
          refine fz_putZ kX5_readO rfl rfl rfl (by omega) ?_
          refine fz_nmu (S := [(20, 3), (20, 4), (21, 4), (22, 99999), (23, 99999)]) (h0 := h) (fz_Iv_up hI (by decide) (show (0 : Int) ≤ 1 by decide) (show (1 : Int) ≤ 1 by decide)) (fz_fr_up hf rfl) (fun H69 hI70 hf71 e72 => ?_)
          have k73 : H69 21 4 = (h 21 4) := by rw [e72]; exact (fz_up_o (by decide)).trans rfl
          have k74 : H69 20 3 = (h 20 3) := by rw [e72]; exact (fz_up_s (by decide)).trans rfl
          have k75 : H69 20 4 = 1 := by rw [e72]; exact fz_up_e
          have t76 : H69 20 3 = h 20 3 := by rw [e72]; exact fz_up_s (by decide)
          have t77 : H69 21 4 = h 21 4 := by rw [e72]; exact fz_up_o (by decide)
          refine fz_goto (tgt := 180) kX5_readO rfl (by decide) ?_
          exact fz_vret kX5_readO rfl rfl ⟨hI70, hf71, rfl, (by omega), (by omega), (by first | exact fl_O_num f12 ⟨by omega, by omega⟩ lost (lost 20 4 rfl) | exact fl_O_nam f12 f24 (by omega) (by omega) lost rfl lost (by omega) (lost 20 3 rfl) (lost 20 4 rfl) | exact fl_O_f0 f12 f24 (by omega) (by omega) (Or.inl rfl) (by omega) (by omega))⟩
      · refine fz_aload_n kX5_readO rfl rfl ?_
        refine fz_dup rfl kX5_readO rfl ?_
        refine fz_getV (v := h 20 3) kX5_readO rfl rfl rfl ?_
        have b79 : 0 ≤ h 20 3 ∧ h 20 3 ≤ 120 := hI.1 20 _
        refine fz_iconst ⟨by decide, by decide⟩ kX5_readO rfl ?_
        refine fz_iaddN kX5_readO rfl (by omega) ?_
        refine fz_putI kX5_readO rfl rfl rfl ?_
        refine fz_nmu (S := [(20, 3), (20, 4), (21, 4), (22, 99999), (23, 99999)]) (h0 := h) (fz_Iv_up hI (by decide) (show (0 : Int) ≤ ((h 20 3) + 1) by omega) (show (((h 20 3) + 1) : Int) ≤ 120 by omega)) (fz_fr_up hf rfl) (fun H80 hI81 hf82 e83 => ?_)
        have k84 : H80 20 4 = (h 20 4) := by rw [e83]; exact (fz_up_s (by decide)).trans rfl
        have k85 : H80 21 4 = (h 21 4) := by rw [e83]; exact (fz_up_o (by decide)).trans rfl
        have k86 : H80 20 3 = ((h 20 3) + 1) := by rw [e83]; exact fz_up_e
        have t87 : H80 20 4 = h 20 4 := by rw [e83]; exact fz_up_s (by decide)
        have t88 : H80 21 4 = h 21 4 := by rw [e83]; exact fz_up_o (by decide)
        refine fz_aload_n kX5_readO rfl rfl ?_
        refine fz_getR (t := 21) kX5_readO rfl rfl ?_
        refine fz_bipush ⟨by decide, by decide⟩ kX5_readO rfl ?_
        refine fz_iload_n kX5_readO rfl rfl ?_
        have b89 : 0 ≤ H80 21 4 ∧ H80 21 4 ≤ 128 := hI81.1 21 _
        refine fz_callV (d' := 0) (M' := mX3_add) (As := [fz_i 64, fz_i y25]) (st := []) kX5_readO rfl rfl vX3_add rfl rfl rfl rfl (Nat.le_of_ble_eq_true rfl) (Nat.le_of_ble_eq_true rfl) (by decide) (sX3_add H80 hI81 64 y25 ) (fun H90 r91 q92 o93 => ?_)
        obtain ⟨hI94, hf95, y99, rfl, f96, f97, f98⟩ := q92
        clear o93
        have hf100 := fz_fr_tr hf82 hf95 (show fz_su [(21, 4), (22, 99999), (23, 99999)] [(20, 3), (20, 4), (21, 4), (22, 99999), (23, 99999)] = true from rfl)
        have k101 : H90 20 4 = (h 20 4) := (hf95 20 4 rfl).trans k84
        have k102 : H90 20 3 = ((h 20 3) + 1) := (hf95 20 3 rfl).trans k86
        have t103 : H90 20 3 = H80 20 3 := hf95 20 3 rfl
        have t104 : H90 20 4 = H80 20 4 := hf95 20 4 rfl
        refine fz_pop rfl kX5_readO rfl ?_
        refine fz_goto (tgt := 180) kX5_readO rfl (by decide) ?_
        exact fz_vret kX5_readO rfl rfl ⟨hI94, hf100, rfl, (by omega), (by omega), (by first | exact fl_O_num f12 ⟨by omega, by omega⟩ lost (lost 20 4 rfl) | exact fl_O_nam f12 f24 (by omega) (by omega) e83 rfl f98 (by omega) (hf95 20 3 rfl) (hf95 20 4 rfl) | exact fl_O_f0 f12 f24 (by omega) (by omega) (Or.inl rfl) (by omega) (by omega))⟩
    · refine fz_aload_n kX5_readO rfl rfl ?_
      refine fz_callV (d' := 1) (M' := mX5_readNumber) (As := []) (st := []) kX5_readO rfl rfl vX5_readNumber rfl rfl rfl rfl (Nat.le_of_ble_eq_true rfl) (Nat.le_of_ble_eq_true rfl) (by decide) (sX5_readNumber h hI  (by omega) (by omega) (by omega)) (fun H106 r107 q108 o109 => ?_)
      obtain ⟨hI110, hf111, rfl, f112, f113, f114⟩ := q108
      clear o109
      have hf115 := fz_fr_tr hf hf111 (show fz_su [(20, 3), (21, 4), (22, 99999), (23, 99999)] [(20, 3), (20, 4), (21, 4), (22, 99999), (23, 99999)] = true from rfl)
      have k116 : H106 20 4 = (h 20 4) := (hf111 20 4 rfl).trans rfl
      have t117 : H106 20 4 = h 20 4 := hf111 20 4 rfl
      refine fz_goto (tgt := 180) kX5_readO rfl (by decide) ?_
      exact fz_vret kX5_readO rfl rfl ⟨hI110, hf115, rfl, (by omega), (by omega), (by first | exact fl_O_num f12 ⟨by omega, by omega⟩ f114 (hf111 20 4 rfl) | exact fl_O_nam f12 f24 (by omega) (by omega) lost rfl lost (by omega) (lost 20 3 rfl) (lost 20 4 rfl) | exact fl_O_f0 f12 f24 (by omega) (by omega) (Or.inl rfl) (by omega) (by omega))⟩

abbrev qX5_readP_6 (h : fz_H) : fz_H → Option fz_V → Prop := fun h' r0 => fz_Iv h' ∧ fz_fr [(20, 3), (20, 4), (21, 4), (22, 99999), (23, 99999)] h h' ∧ r0 = none ∧ (h 20 4 = 0 ∨ (h' 20 4 = 1 ∧ h' 20 3 = h 20 3)) ∧ (h' 20 4 = 1 ∨ (h' 21 4 - h 21 4 ≤ h' 20 3 - h 20 3 ∧ h 20 3 + 1 ≤ h' 20 3)) ∧ fl_rdC h h' (fl_eP (fl_gC h) (fl_pO (fl_gC h) 0) (h 20 3))
set_option maxHeartbeats 1000000 in
set_option maxRecDepth 100000 in
theorem sX5_readP_6 (h : fz_H) (hI : fz_Iv h) (hp0 : h 20 4 = 1 ∨ h 21 4 ≤ h 20 3) : fz_R 3 mX5_readP 0 [(0, fz_r 20), (1, fz_i 6)] [] h (qX5_readP_6 h) := by
  have hf : fz_fr [(20, 3), (20, 4), (21, 4), (22, 99999), (23, 99999)] h h := fz_fr_rf
  have b1 : 0 ≤ h 20 4 ∧ h 20 4 ≤ 1 := hI.1 20 _
  have b2 : 0 ≤ h 21 4 ∧ h 21 4 ≤ 128 := hI.1 21 _
  have b3 : 0 ≤ h 20 3 ∧ h 20 3 ≤ 120 := hI.1 20 _
  refine fz_aload_n kX5_readP rfl rfl ?_
  refine fz_iload_n kX5_readP rfl rfl ?_
  refine fz_callV (d' := 2) (M' := mX5_readO) (As := [fz_i 6]) (st := []) kX5_readP rfl rfl vX5_readO rfl rfl rfl rfl (Nat.le_of_ble_eq_true rfl) (Nat.le_of_ble_eq_true rfl) (by decide) (sX5_readO_6 h hI  (by omega)) (fun H4 r5 q6 o7 => ?_)
  obtain ⟨hI8, hf9, rfl, f10, f11, f12⟩ := q6
  clear o7
  have hf13 := fz_fr_tr hf hf9 (show fz_su [(20, 3), (20, 4), (21, 4), (22, 99999), (23, 99999)] [(20, 3), (20, 4), (21, 4), (22, 99999), (23, 99999)] = true from rfl)
  have k14 := fl_st_1 (op := fl_oP) (k := 200) (g := fl_gC h) f12 rfl
  have k16 : 0 ≤ fl_lh H4 → H4 20 4 = 0 := fl_lh_0
  refine fz_aload_n kX5_readP rfl rfl ?_
  refine fz_bipush ⟨by decide, by decide⟩ kX5_readP rfl ?_
  refine fz_bipush ⟨by decide, by decide⟩ kX5_readP rfl ?_
  refine fz_bipush ⟨by decide, by decide⟩ kX5_readP rfl ?_
  have b17 : 0 ≤ H4 20 3 ∧ H4 20 3 ≤ 120 := hI8.1 20 _
  refine fz_callV (d' := 1) (M' := mX5_nextOf) (As := [fz_i 42, fz_i 47, fz_i 37]) (st := []) kX5_readP rfl rfl vX5_nextOf rfl rfl rfl rfl (Nat.le_of_ble_eq_true rfl) (Nat.le_of_ble_eq_true rfl) (by decide) (sX5_nextOf H4 hI8 42 47 37 (by omega)) (fun H18 r19 q20 o21 => ?_)
  obtain ⟨hI22, hf23, y26, rfl, f24, f25⟩ := q20
  clear o21
  have hf27 := fz_fr_tr hf13 hf23 (show fz_su [(20, 3)] [(20, 3), (20, 4), (21, 4), (22, 99999), (23, 99999)] = true from rfl)
  have t28 : H18 20 4 = H4 20 4 := hf23 20 4 rfl
  have t29 : H18 21 4 = H4 21 4 := hf23 21 4 rfl
  have k30 := fl_st_nx k14 (fl_gC_e (funext fun s => hf13 26 s rfl) (hf13 20 2 rfl)) (fl_nxP f25) (hf23 20 4 rfl) (hf23 21 4 rfl) (funext fun s => hf23 22 s rfl) (funext fun s => hf23 23 s rfl)
  refine fz_istore_n (ls' := [(2, fz_i y26), (0, fz_r 20), (1, fz_i 6)]) kX5_readP rfl (by decide) rfl ?_
  refine fz_iconst ⟨by decide, by decide⟩ kX5_readP rfl ?_
  refine fz_istore_n (ls' := [(3, fz_i 0), (2, fz_i y26), (0, fz_r 20), (1, fz_i 6)]) kX5_readP rfl (by decide) rfl ?_
  have lp38 : ∀ (n37 : Nat) (x32 : Int) (x33 : Int) (H34 : fz_H), fz_Iv H34 → fz_fr [(20, 3), (20, 4), (21, 4), (22, 99999), (23, 99999)] h H34 → (0 ≤ x32 ∧ x32 ≤ 2147483647) → ((-2147483648) ≤ x33 ∧ x33 ≤ 2147483647) → (x33 = 0 ∨ x33 = 42 ∨ x33 = 47 ∨ x33 = 37) → (h 20 4 = 0 ∨ (H34 20 4 = 1 ∧ H34 20 3 = h 20 3)) → (H34 20 4 = 1 ∨ (x33 = 0 ∧ H34 21 4 - h 21 4 ≤ H34 20 3 - h 20 3 ∧ h 20 3 + x32 + 1 ≤ H34 20 3) ∨ (x33 ≠ 0 ∧ H34 21 4 - h 21 4 + 1 ≤ H34 20 3 - h 20 3 ∧ h 20 3 + x32 + 2 ≤ H34 20 3)) → (fl_stC h H34 (fl_eP (fl_gC h) (fl_pO (fl_gC h) 0) (h 20 3)) (fl_nx fl_oP (fl_pO (fl_gC h) 0) (fl_gC h) (199 - x32).toNat x33 (H34 20 3))) → (120 - x32).toNat < n37 → fz_R 3 mX5_readP 18 [(3, fz_i x32), (2, fz_i x33), (0, fz_r 20), (1, fz_i 6)] [] H34 (qX5_readP_6 h) := by
    intro n37
    induction n37 with
    | zero => intro x32 x33 H34 hI35 hf36 hv41 hv42 hv43 hv44 hv45 hv46 hm40; exact absurd hm40 (by omega)
    | succ n37 ih39 =>
      intro x32 x33 H34 hI35 hf36 hv41 hv42 hv43 hv44 hv45 hv46 hm40
      refine fz_iload_n kX5_readP rfl rfl ?_
      refine fz_bipush ⟨by decide, by decide⟩ kX5_readP rfl ?_
      refine fz_icmp_ge (tgt := 60) kX5_readP rfl (by decide) (fun c47 => ?_) (fun c47 => ?_)
      · have k48 : 0 ≤ H34 20 3 ∧ H34 20 3 ≤ 120 := hI35.1 20 _
        exact fz_vret kX5_readP rfl rfl ⟨hI35, hf36, rfl, (by omega), (by omega), (by first | exact fl_st_x0 hv46 (by omega) | exact fl_st_xf hv46 (by omega))⟩
      · refine fz_iload_n kX5_readP rfl rfl ?_
        refine fz_if_eq (tgt := 60) kX5_readP rfl (by decide) (fun c50 => ?_) (fun c50 => ?_)
        · have k51 : 0 ≤ H34 20 3 ∧ H34 20 3 ≤ 120 := hI35.1 20 _
          exact fz_vret kX5_readP rfl rfl ⟨hI35, hf36, rfl, (by omega), (by omega), (by first | exact fl_st_x0 hv46 (by omega) | exact fl_st_xf hv46 (by omega))⟩
        · refine fz_aload_n kX5_readP rfl rfl ?_
          refine fz_iload_n kX5_readP rfl rfl ?_
          have b53 : 0 ≤ H34 20 4 ∧ H34 20 4 ≤ 1 := hI35.1 20 _
          have b54 : 0 ≤ H34 21 4 ∧ H34 21 4 ≤ 128 := hI35.1 21 _
          have b55 : 0 ≤ H34 20 3 ∧ H34 20 3 ≤ 120 := hI35.1 20 _
          refine fz_callV (d' := 2) (M' := mX5_readO) (As := [fz_i 6]) (st := []) kX5_readP rfl rfl vX5_readO rfl rfl rfl rfl (Nat.le_of_ble_eq_true rfl) (Nat.le_of_ble_eq_true rfl) (by decide) (sX5_readO_6 H34 hI35  (by omega)) (fun H56 r57 q58 o59 => ?_)
          obtain ⟨hI60, hf61, rfl, f62, f63, f64⟩ := q58
          clear o59
          have hf65 := fz_fr_tr hf36 hf61 (show fz_su [(20, 3), (20, 4), (21, 4), (22, 99999), (23, 99999)] [(20, 3), (20, 4), (21, 4), (22, 99999), (23, 99999)] = true from rfl)
          have k66 : 0 ≤ H56 20 3 ∧ H56 20 3 ≤ 120 := hI60.1 20 _
          refine fz_aload_n kX5_readP rfl rfl ?_
          refine fz_getR (t := 21) kX5_readP rfl rfl ?_
          refine fz_iload_n kX5_readP rfl rfl ?_
          refine fz_iconst ⟨by decide, by decide⟩ kX5_readP rfl ?_
          have b67 : 0 ≤ H56 21 4 ∧ H56 21 4 ≤ 128 := hI60.1 21 _
          refine fz_callV (d' := 0) (M' := mX3_add) (As := [fz_i x33, fz_i 0]) (st := []) kX5_readP rfl rfl vX3_add rfl rfl rfl rfl (Nat.le_of_ble_eq_true rfl) (Nat.le_of_ble_eq_true rfl) (by decide) (sX3_add H56 hI60 x33 0 ) (fun H68 r69 q70 o71 => ?_)
          obtain ⟨hI72, hf73, y77, rfl, f74, f75, f76⟩ := q70
          clear o71
          have hf78 := fz_fr_tr hf65 hf73 (show fz_su [(21, 4), (22, 99999), (23, 99999)] [(20, 3), (20, 4), (21, 4), (22, 99999), (23, 99999)] = true from rfl)
          have t79 : H68 20 3 = H56 20 3 := hf73 20 3 rfl
          have t80 : H68 20 4 = H56 20 4 := hf73 20 4 rfl
          refine fz_pop rfl kX5_readP rfl ?_
          have k81 : 0 ≤ fl_lh H68 → H68 20 4 = 0 := fl_lh_0
          have k82 := fl_st_k (k' := (199 - (x32 + 1)).toNat + 1) (fl_st_it ⟨by omega, by omega⟩ hv46 (by omega) f64 (congrArg (fun g => fl_pO g 0) (fl_gC_e (funext fun s => hf36 26 s rfl) (hf36 20 2 rfl))) f76 (fl_cmP (by omega)) (by omega) (hf73 20 3 rfl) (hf73 20 4 rfl)) (by omega)
          refine fz_aload_n kX5_readP rfl rfl ?_
          refine fz_bipush ⟨by decide, by decide⟩ kX5_readP rfl ?_
          refine fz_bipush ⟨by decide, by decide⟩ kX5_readP rfl ?_
          refine fz_bipush ⟨by decide, by decide⟩ kX5_readP rfl ?_
          have b84 : 0 ≤ H68 20 3 ∧ H68 20 3 ≤ 120 := hI72.1 20 _
          refine fz_callV (d' := 1) (M' := mX5_nextOf) (As := [fz_i 42, fz_i 47, fz_i 37]) (st := []) kX5_readP rfl rfl vX5_nextOf rfl rfl rfl rfl (Nat.le_of_ble_eq_true rfl) (Nat.le_of_ble_eq_true rfl) (by decide) (sX5_nextOf H68 hI72 42 47 37 (by omega)) (fun H85 r86 q87 o88 => ?_)
          obtain ⟨hI89, hf90, y93, rfl, f91, f92⟩ := q87
          clear o88
          have hf94 := fz_fr_tr hf78 hf90 (show fz_su [(20, 3)] [(20, 3), (20, 4), (21, 4), (22, 99999), (23, 99999)] = true from rfl)
          have t95 : H85 20 4 = H68 20 4 := hf90 20 4 rfl
          have t96 : H85 21 4 = H68 21 4 := hf90 21 4 rfl
          have k97 := fl_st_nx k82 (fl_gC_e (funext fun s => hf78 26 s rfl) (hf78 20 2 rfl)) (fl_nxP f92) (hf90 20 4 rfl) (hf90 21 4 rfl) (funext fun s => hf90 22 s rfl) (funext fun s => hf90 23 s rfl)
          refine fz_istore_n (ls' := [(2, fz_i y93), (3, fz_i x32), (0, fz_r 20), (1, fz_i 6)]) kX5_readP rfl (by decide) rfl ?_
          refine fz_iincN (ls' := [(3, fz_i (x32 + 1)), (2, fz_i y93), (0, fz_r 20), (1, fz_i 6)]) kX5_readP rfl (by decide) rfl (by omega) rfl ?_
          refine fz_goto (tgt := 18) kX5_readP rfl (by decide) ?_
          exact ih39 (x32 + 1) y93 H85 hI89 hf94 (by omega) (by omega) (by omega) (by omega) (by omega) (k97) (by omega)
  exact lp38 _ 0 y26 H18 hI22 hf27 (by omega) (by omega) (by omega) (by omega) (by omega) (fl_st_kn k30 (by omega)) (Nat.lt_succ_self _)

abbrev qX5_readS_6 (h : fz_H) : fz_H → Option fz_V → Prop := fun h' r0 => fz_Iv h' ∧ fz_fr [(20, 3), (20, 4), (21, 4), (22, 99999), (23, 99999)] h h' ∧ r0 = none ∧ (h 20 4 = 0 ∨ (h' 20 4 = 1 ∧ h' 20 3 = h 20 3)) ∧ (h' 20 4 = 1 ∨ (h' 21 4 - h 21 4 ≤ h' 20 3 - h 20 3 ∧ h 20 3 + 1 ≤ h' 20 3)) ∧ fl_rdC h h' (fl_eS (fl_gC h) (fl_pO (fl_gC h) 0) (h 20 3))
set_option maxHeartbeats 1000000 in
set_option maxRecDepth 100000 in
theorem sX5_readS_6 (h : fz_H) (hI : fz_Iv h) (hp0 : h 20 4 = 1 ∨ h 21 4 ≤ h 20 3) : fz_R 4 mX5_readS 0 [(0, fz_r 20), (1, fz_i 6)] [] h (qX5_readS_6 h) := by
  have hf : fz_fr [(20, 3), (20, 4), (21, 4), (22, 99999), (23, 99999)] h h := fz_fr_rf
  have b1 : 0 ≤ h 20 4 ∧ h 20 4 ≤ 1 := hI.1 20 _
  have b2 : 0 ≤ h 21 4 ∧ h 21 4 ≤ 128 := hI.1 21 _
  have b3 : 0 ≤ h 20 3 ∧ h 20 3 ≤ 120 := hI.1 20 _
  refine fz_aload_n kX5_readS rfl rfl ?_
  refine fz_iload_n kX5_readS rfl rfl ?_
  refine fz_callV (d' := 3) (M' := mX5_readP) (As := [fz_i 6]) (st := []) kX5_readS rfl rfl vX5_readP rfl rfl rfl rfl (Nat.le_of_ble_eq_true rfl) (Nat.le_of_ble_eq_true rfl) (by decide) (sX5_readP_6 h hI  (by omega)) (fun H4 r5 q6 o7 => ?_)
  obtain ⟨hI8, hf9, rfl, f10, f11, f12⟩ := q6
  clear o7
  have hf13 := fz_fr_tr hf hf9 (show fz_su [(20, 3), (20, 4), (21, 4), (22, 99999), (23, 99999)] [(20, 3), (20, 4), (21, 4), (22, 99999), (23, 99999)] = true from rfl)
  have k14 := fl_st_1 (op := fl_oS) (k := 200) (g := fl_gC h) f12 rfl
  have k16 : 0 ≤ fl_lh H4 → H4 20 4 = 0 := fl_lh_0
  refine fz_aload_n kX5_readS rfl rfl ?_
  refine fz_bipush ⟨by decide, by decide⟩ kX5_readS rfl ?_
  refine fz_bipush ⟨by decide, by decide⟩ kX5_readS rfl ?_
  refine fz_bipush ⟨by decide, by decide⟩ kX5_readS rfl ?_
  have b17 : 0 ≤ H4 20 3 ∧ H4 20 3 ≤ 120 := hI8.1 20 _
  refine fz_callV (d' := 1) (M' := mX5_nextOf) (As := [fz_i 43, fz_i 45, fz_i 45]) (st := []) kX5_readS rfl rfl vX5_nextOf rfl rfl rfl rfl (Nat.le_of_ble_eq_true rfl) (Nat.le_of_ble_eq_true rfl) (by decide) (sX5_nextOf H4 hI8 43 45 45 (by omega)) (fun H18 r19 q20 o21 => ?_)
  obtain ⟨hI22, hf23, y26, rfl, f24, f25⟩ := q20
  clear o21
  have hf27 := fz_fr_tr hf13 hf23 (show fz_su [(20, 3)] [(20, 3), (20, 4), (21, 4), (22, 99999), (23, 99999)] = true from rfl)
  have t28 : H18 20 4 = H4 20 4 := hf23 20 4 rfl
  have t29 : H18 21 4 = H4 21 4 := hf23 21 4 rfl
  have k30 := fl_st_nx k14 (fl_gC_e (funext fun s => hf13 26 s rfl) (hf13 20 2 rfl)) (fl_nxS f25) (hf23 20 4 rfl) (hf23 21 4 rfl) (funext fun s => hf23 22 s rfl) (funext fun s => hf23 23 s rfl)
  refine fz_istore_n (ls' := [(2, fz_i y26), (0, fz_r 20), (1, fz_i 6)]) kX5_readS rfl (by decide) rfl ?_
  refine fz_iconst ⟨by decide, by decide⟩ kX5_readS rfl ?_
  refine fz_istore_n (ls' := [(3, fz_i 0), (2, fz_i y26), (0, fz_r 20), (1, fz_i 6)]) kX5_readS rfl (by decide) rfl ?_
  have lp38 : ∀ (n37 : Nat) (x32 : Int) (x33 : Int) (H34 : fz_H), fz_Iv H34 → fz_fr [(20, 3), (20, 4), (21, 4), (22, 99999), (23, 99999)] h H34 → (0 ≤ x32 ∧ x32 ≤ 2147483647) → ((-2147483648) ≤ x33 ∧ x33 ≤ 2147483647) → (x33 = 0 ∨ x33 = 43 ∨ x33 = 45 ∨ x33 = 45) → (h 20 4 = 0 ∨ (H34 20 4 = 1 ∧ H34 20 3 = h 20 3)) → (H34 20 4 = 1 ∨ (x33 = 0 ∧ H34 21 4 - h 21 4 ≤ H34 20 3 - h 20 3 ∧ h 20 3 + x32 + 1 ≤ H34 20 3) ∨ (x33 ≠ 0 ∧ H34 21 4 - h 21 4 + 1 ≤ H34 20 3 - h 20 3 ∧ h 20 3 + x32 + 2 ≤ H34 20 3)) → (fl_stC h H34 (fl_eS (fl_gC h) (fl_pO (fl_gC h) 0) (h 20 3)) (fl_nx fl_oS (fl_eP (fl_gC h) (fl_pO (fl_gC h) 0)) (fl_gC h) (199 - x32).toNat x33 (H34 20 3))) → (120 - x32).toNat < n37 → fz_R 4 mX5_readS 18 [(3, fz_i x32), (2, fz_i x33), (0, fz_r 20), (1, fz_i 6)] [] H34 (qX5_readS_6 h) := by
    intro n37
    induction n37 with
    | zero => intro x32 x33 H34 hI35 hf36 hv41 hv42 hv43 hv44 hv45 hv46 hm40; exact absurd hm40 (by omega)
    | succ n37 ih39 =>
      intro x32 x33 H34 hI35 hf36 hv41 hv42 hv43 hv44 hv45 hv46 hm40
      refine fz_iload_n kX5_readS rfl rfl ?_
      refine fz_bipush ⟨by decide, by decide⟩ kX5_readS rfl ?_
      refine fz_icmp_ge (tgt := 60) kX5_readS rfl (by decide) (fun c47 => ?_) (fun c47 => ?_)
      · have k48 : 0 ≤ H34 20 3 ∧ H34 20 3 ≤ 120 := hI35.1 20 _
        exact fz_vret kX5_readS rfl rfl ⟨hI35, hf36, rfl, (by omega), (by omega), (by first | exact fl_st_x0 hv46 (by omega) | exact fl_st_xf hv46 (by omega))⟩
      · refine fz_iload_n kX5_readS rfl rfl ?_
        refine fz_if_eq (tgt := 60) kX5_readS rfl (by decide) (fun c50 => ?_) (fun c50 => ?_)
        · have k51 : 0 ≤ H34 20 3 ∧ H34 20 3 ≤ 120 := hI35.1 20 _
          exact fz_vret kX5_readS rfl rfl ⟨hI35, hf36, rfl, (by omega), (by omega), (by first | exact fl_st_x0 hv46 (by omega) | exact fl_st_xf hv46 (by omega))⟩
        · refine fz_aload_n kX5_readS rfl rfl ?_
          refine fz_iload_n kX5_readS rfl rfl ?_
          have b53 : 0 ≤ H34 20 4 ∧ H34 20 4 ≤ 1 := hI35.1 20 _
          have b54 : 0 ≤ H34 21 4 ∧ H34 21 4 ≤ 128 := hI35.1 21 _
          have b55 : 0 ≤ H34 20 3 ∧ H34 20 3 ≤ 120 := hI35.1 20 _
          refine fz_callV (d' := 3) (M' := mX5_readP) (As := [fz_i 6]) (st := []) kX5_readS rfl rfl vX5_readP rfl rfl rfl rfl (Nat.le_of_ble_eq_true rfl) (Nat.le_of_ble_eq_true rfl) (by decide) (sX5_readP_6 H34 hI35  (by omega)) (fun H56 r57 q58 o59 => ?_)
          obtain ⟨hI60, hf61, rfl, f62, f63, f64⟩ := q58
          clear o59
          have hf65 := fz_fr_tr hf36 hf61 (show fz_su [(20, 3), (20, 4), (21, 4), (22, 99999), (23, 99999)] [(20, 3), (20, 4), (21, 4), (22, 99999), (23, 99999)] = true from rfl)
          have k66 : 0 ≤ H56 20 3 ∧ H56 20 3 ≤ 120 := hI60.1 20 _
          refine fz_aload_n kX5_readS rfl rfl ?_
          refine fz_getR (t := 21) kX5_readS rfl rfl ?_
          refine fz_iload_n kX5_readS rfl rfl ?_
          refine fz_iconst ⟨by decide, by decide⟩ kX5_readS rfl ?_
          have b67 : 0 ≤ H56 21 4 ∧ H56 21 4 ≤ 128 := hI60.1 21 _
          refine fz_callV (d' := 0) (M' := mX3_add) (As := [fz_i x33, fz_i 0]) (st := []) kX5_readS rfl rfl vX3_add rfl rfl rfl rfl (Nat.le_of_ble_eq_true rfl) (Nat.le_of_ble_eq_true rfl) (by decide) (sX3_add H56 hI60 x33 0 ) (fun H68 r69 q70 o71 => ?_)
          obtain ⟨hI72, hf73, y77, rfl, f74, f75, f76⟩ := q70
          clear o71
          have hf78 := fz_fr_tr hf65 hf73 (show fz_su [(21, 4), (22, 99999), (23, 99999)] [(20, 3), (20, 4), (21, 4), (22, 99999), (23, 99999)] = true from rfl)
          have t79 : H68 20 3 = H56 20 3 := hf73 20 3 rfl
          have t80 : H68 20 4 = H56 20 4 := hf73 20 4 rfl
          refine fz_pop rfl kX5_readS rfl ?_
          have k81 : 0 ≤ fl_lh H68 → H68 20 4 = 0 := fl_lh_0
          have k82 := fl_st_k (k' := (199 - (x32 + 1)).toNat + 1) (fl_st_it ⟨by omega, by omega⟩ hv46 (by omega) f64 (congrArg (fun g => fl_eP g (fl_pO g 0)) (fl_gC_e (funext fun s => hf36 26 s rfl) (hf36 20 2 rfl))) f76 (fl_cmS (by omega)) (by omega) (hf73 20 3 rfl) (hf73 20 4 rfl)) (by omega)
          refine fz_aload_n kX5_readS rfl rfl ?_
          refine fz_bipush ⟨by decide, by decide⟩ kX5_readS rfl ?_
          refine fz_bipush ⟨by decide, by decide⟩ kX5_readS rfl ?_
          refine fz_bipush ⟨by decide, by decide⟩ kX5_readS rfl ?_
          have b84 : 0 ≤ H68 20 3 ∧ H68 20 3 ≤ 120 := hI72.1 20 _
          refine fz_callV (d' := 1) (M' := mX5_nextOf) (As := [fz_i 43, fz_i 45, fz_i 45]) (st := []) kX5_readS rfl rfl vX5_nextOf rfl rfl rfl rfl (Nat.le_of_ble_eq_true rfl) (Nat.le_of_ble_eq_true rfl) (by decide) (sX5_nextOf H68 hI72 43 45 45 (by omega)) (fun H85 r86 q87 o88 => ?_)
          obtain ⟨hI89, hf90, y93, rfl, f91, f92⟩ := q87
          clear o88
          have hf94 := fz_fr_tr hf78 hf90 (show fz_su [(20, 3)] [(20, 3), (20, 4), (21, 4), (22, 99999), (23, 99999)] = true from rfl)
          have t95 : H85 20 4 = H68 20 4 := hf90 20 4 rfl
          have t96 : H85 21 4 = H68 21 4 := hf90 21 4 rfl
          have k97 := fl_st_nx k82 (fl_gC_e (funext fun s => hf78 26 s rfl) (hf78 20 2 rfl)) (fl_nxS f92) (hf90 20 4 rfl) (hf90 21 4 rfl) (funext fun s => hf90 22 s rfl) (funext fun s => hf90 23 s rfl)
          refine fz_istore_n (ls' := [(2, fz_i y93), (3, fz_i x32), (0, fz_r 20), (1, fz_i 6)]) kX5_readS rfl (by decide) rfl ?_
          refine fz_iincN (ls' := [(3, fz_i (x32 + 1)), (2, fz_i y93), (0, fz_r 20), (1, fz_i 6)]) kX5_readS rfl (by decide) rfl (by omega) rfl ?_
          refine fz_goto (tgt := 18) kX5_readS rfl (by decide) ?_
          exact ih39 (x32 + 1) y93 H85 hI89 hf94 (by omega) (by omega) (by omega) (by omega) (by omega) (k97) (by omega)
  exact lp38 _ 0 y26 H18 hI22 hf27 (by omega) (by omega) (by omega) (by omega) (by omega) (fl_st_kn k30 (by omega)) (Nat.lt_succ_self _)

abbrev qX5_readB_6 (h : fz_H) : fz_H → Option fz_V → Prop := fun h' r0 => fz_Iv h' ∧ fz_fr [(20, 3), (20, 4), (21, 4), (22, 99999), (23, 99999)] h h' ∧ r0 = none ∧ (h 20 4 = 0 ∨ (h' 20 4 = 1 ∧ h' 20 3 = h 20 3)) ∧ (h' 20 4 = 1 ∨ (h' 21 4 - h 21 4 ≤ h' 20 3 - h 20 3 ∧ h 20 3 + 1 ≤ h' 20 3)) ∧ fl_rdC h h' (fl_eB (fl_gC h) (fl_pO (fl_gC h) 0) (h 20 3))
set_option maxHeartbeats 1000000 in
set_option maxRecDepth 100000 in
theorem sX5_readB_6 (h : fz_H) (hI : fz_Iv h) (hp0 : h 20 4 = 1 ∨ h 21 4 ≤ h 20 3) : fz_R 5 mX5_readB 0 [(0, fz_r 20), (1, fz_i 6)] [] h (qX5_readB_6 h) := by
  have hf : fz_fr [(20, 3), (20, 4), (21, 4), (22, 99999), (23, 99999)] h h := fz_fr_rf
  have b1 : 0 ≤ h 20 4 ∧ h 20 4 ≤ 1 := hI.1 20 _
  have b2 : 0 ≤ h 21 4 ∧ h 21 4 ≤ 128 := hI.1 21 _
  have b3 : 0 ≤ h 20 3 ∧ h 20 3 ≤ 120 := hI.1 20 _
  refine fz_aload_n kX5_readB rfl rfl ?_
  refine fz_iload_n kX5_readB rfl rfl ?_
  refine fz_callV (d' := 4) (M' := mX5_readS) (As := [fz_i 6]) (st := []) kX5_readB rfl rfl vX5_readS rfl rfl rfl rfl (Nat.le_of_ble_eq_true rfl) (Nat.le_of_ble_eq_true rfl) (by decide) (sX5_readS_6 h hI  (by omega)) (fun H4 r5 q6 o7 => ?_)
  obtain ⟨hI8, hf9, rfl, f10, f11, f12⟩ := q6
  clear o7
  have hf13 := fz_fr_tr hf hf9 (show fz_su [(20, 3), (20, 4), (21, 4), (22, 99999), (23, 99999)] [(20, 3), (20, 4), (21, 4), (22, 99999), (23, 99999)] = true from rfl)
  have k14 := fl_st_1 (op := fl_oB) (k := 1) (g := fl_gC h) f12 rfl
  have k16 : 0 ≤ fl_lh H4 → H4 20 4 = 0 := fl_lh_0
  refine fz_aload_n kX5_readB rfl rfl ?_
  refine fz_bipush ⟨by decide, by decide⟩ kX5_readB rfl ?_
  refine fz_bipush ⟨by decide, by decide⟩ kX5_readB rfl ?_
  refine fz_bipush ⟨by decide, by decide⟩ kX5_readB rfl ?_
  have b17 : 0 ≤ H4 20 3 ∧ H4 20 3 ≤ 120 := hI8.1 20 _
  refine fz_callV (d' := 1) (M' := mX5_nextOf) (As := [fz_i 60, fz_i 61, fz_i 62]) (st := []) kX5_readB rfl rfl vX5_nextOf rfl rfl rfl rfl (Nat.le_of_ble_eq_true rfl) (Nat.le_of_ble_eq_true rfl) (by decide) (sX5_nextOf H4 hI8 60 61 62 (by omega)) (fun H18 r19 q20 o21 => ?_)
  obtain ⟨hI22, hf23, y26, rfl, f24, f25⟩ := q20
  clear o21
  have hf27 := fz_fr_tr hf13 hf23 (show fz_su [(20, 3)] [(20, 3), (20, 4), (21, 4), (22, 99999), (23, 99999)] = true from rfl)
  have t28 : H18 20 4 = H4 20 4 := hf23 20 4 rfl
  have t29 : H18 21 4 = H4 21 4 := hf23 21 4 rfl
  have k30 := fl_st_nx k14 (fl_gC_e (funext fun s => hf13 26 s rfl) (hf13 20 2 rfl)) (fl_nxB f25) (hf23 20 4 rfl) (hf23 21 4 rfl) (funext fun s => hf23 22 s rfl) (funext fun s => hf23 23 s rfl)
  refine fz_istore_n (ls' := [(2, fz_i y26), (0, fz_r 20), (1, fz_i 6)]) kX5_readB rfl (by decide) rfl ?_
  refine fz_iload_n kX5_readB rfl rfl ?_
  refine fz_if_eq (tgt := 35) kX5_readB rfl (by decide) (fun c32 => ?_) (fun c32 => ?_)
  · exact fz_vret kX5_readB rfl rfl ⟨hI22, hf27, rfl, (by omega), (by omega), (by first | exact fl_st_x0 k30 (by omega) | exact fl_st_x (fl_st_it ⟨by omega, by omega⟩ k30 (by omega) lost (congrArg (fun g => fl_eS g (fl_pO g 0)) (fl_gC_e (funext fun s => lost 26 s rfl) (lost 20 2 rfl))) lost (fl_cmB (by omega)) (by omega) (lost 20 3 rfl) (lost 20 4 rfl)))⟩
  · refine fz_aload_n kX5_readB rfl rfl ?_
    refine fz_iload_n kX5_readB rfl rfl ?_
    have b34 : 0 ≤ H18 20 4 ∧ H18 20 4 ≤ 1 := hI22.1 20 _
    have b35 : 0 ≤ H18 21 4 ∧ H18 21 4 ≤ 128 := hI22.1 21 _
    have b36 : 0 ≤ H18 20 3 ∧ H18 20 3 ≤ 120 := hI22.1 20 _
    refine fz_callV (d' := 4) (M' := mX5_readS) (As := [fz_i 6]) (st := []) kX5_readB rfl rfl vX5_readS rfl rfl rfl rfl (Nat.le_of_ble_eq_true rfl) (Nat.le_of_ble_eq_true rfl) (by decide) (sX5_readS_6 H18 hI22  (by omega)) (fun H37 r38 q39 o40 => ?_)
    obtain ⟨hI41, hf42, rfl, f43, f44, f45⟩ := q39
    clear o40
    have hf46 := fz_fr_tr hf27 hf42 (show fz_su [(20, 3), (20, 4), (21, 4), (22, 99999), (23, 99999)] [(20, 3), (20, 4), (21, 4), (22, 99999), (23, 99999)] = true from rfl)
    have k47 : 0 ≤ H37 20 3 ∧ H37 20 3 ≤ 120 := hI41.1 20 _
    refine fz_aload_n kX5_readB rfl rfl ?_
    refine fz_getR (t := 21) kX5_readB rfl rfl ?_
    refine fz_iload_n kX5_readB rfl rfl ?_
    refine fz_iconst ⟨by decide, by decide⟩ kX5_readB rfl ?_
    have b48 : 0 ≤ H37 21 4 ∧ H37 21 4 ≤ 128 := hI41.1 21 _
    refine fz_callV (d' := 0) (M' := mX3_add) (As := [fz_i y26, fz_i 0]) (st := []) kX5_readB rfl rfl vX3_add rfl rfl rfl rfl (Nat.le_of_ble_eq_true rfl) (Nat.le_of_ble_eq_true rfl) (by decide) (sX3_add H37 hI41 y26 0 ) (fun H49 r50 q51 o52 => ?_)
    obtain ⟨hI53, hf54, y58, rfl, f55, f56, f57⟩ := q51
    clear o52
    have hf59 := fz_fr_tr hf46 hf54 (show fz_su [(21, 4), (22, 99999), (23, 99999)] [(20, 3), (20, 4), (21, 4), (22, 99999), (23, 99999)] = true from rfl)
    have t60 : H49 20 3 = H37 20 3 := hf54 20 3 rfl
    have t61 : H49 20 4 = H37 20 4 := hf54 20 4 rfl
    refine fz_pop rfl kX5_readB rfl ?_
    exact fz_vret kX5_readB rfl rfl ⟨hI53, hf59, rfl, (by omega), (by omega), (by first | exact fl_st_x0 k30 (by omega) | exact fl_st_x (fl_st_it ⟨by omega, by omega⟩ k30 (by omega) f45 (congrArg (fun g => fl_eS g (fl_pO g 0)) (fl_gC_e (funext fun s => hf27 26 s rfl) (hf27 20 2 rfl))) f57 (fl_cmB (by omega)) (by omega) (hf54 20 3 rfl) (hf54 20 4 rfl)))⟩

abbrev qX5_readA_6 (h : fz_H) : fz_H → Option fz_V → Prop := fun h' r0 => fz_Iv h' ∧ fz_fr [(20, 3), (20, 4), (21, 4), (22, 99999), (23, 99999)] h h' ∧ r0 = none ∧ (h 20 4 = 0 ∨ (h' 20 4 = 1 ∧ h' 20 3 = h 20 3)) ∧ (h' 20 4 = 1 ∨ (h' 21 4 - h 21 4 ≤ h' 20 3 - h 20 3 ∧ h 20 3 + 1 ≤ h' 20 3)) ∧ fl_rdC h h' (fl_eA (fl_gC h) (fl_pO (fl_gC h) 0) (h 20 3))
set_option maxHeartbeats 1000000 in
set_option maxRecDepth 100000 in
theorem sX5_readA_6 (h : fz_H) (hI : fz_Iv h) (hp0 : h 20 4 = 1 ∨ h 21 4 ≤ h 20 3) : fz_R 6 mX5_readA 0 [(0, fz_r 20), (1, fz_i 6)] [] h (qX5_readA_6 h) := by
  have hf : fz_fr [(20, 3), (20, 4), (21, 4), (22, 99999), (23, 99999)] h h := fz_fr_rf
  have b1 : 0 ≤ h 20 4 ∧ h 20 4 ≤ 1 := hI.1 20 _
  have b2 : 0 ≤ h 21 4 ∧ h 21 4 ≤ 128 := hI.1 21 _
  have b3 : 0 ≤ h 20 3 ∧ h 20 3 ≤ 120 := hI.1 20 _
  refine fz_aload_n kX5_readA rfl rfl ?_
  refine fz_iload_n kX5_readA rfl rfl ?_
  refine fz_callV (d' := 5) (M' := mX5_readB) (As := [fz_i 6]) (st := []) kX5_readA rfl rfl vX5_readB rfl rfl rfl rfl (Nat.le_of_ble_eq_true rfl) (Nat.le_of_ble_eq_true rfl) (by decide) (sX5_readB_6 h hI  (by omega)) (fun H4 r5 q6 o7 => ?_)
  obtain ⟨hI8, hf9, rfl, f10, f11, f12⟩ := q6
  clear o7
  have hf13 := fz_fr_tr hf hf9 (show fz_su [(20, 3), (20, 4), (21, 4), (22, 99999), (23, 99999)] [(20, 3), (20, 4), (21, 4), (22, 99999), (23, 99999)] = true from rfl)
  have k14 := fl_st_1 (op := fl_oA) (k := 200) (g := fl_gC h) f12 rfl
  refine fz_iconst ⟨by decide, by decide⟩ kX5_readA rfl ?_
  refine fz_istore_n (ls' := [(2, fz_i 0), (0, fz_r 20), (1, fz_i 6)]) kX5_readA rfl (by decide) rfl ?_
  have lp21 : ∀ (n20 : Nat) (x16 : Int) (H17 : fz_H), fz_Iv H17 → fz_fr [(20, 3), (20, 4), (21, 4), (22, 99999), (23, 99999)] h H17 → (0 ≤ x16 ∧ x16 ≤ 2147483647) → (h 20 4 = 0 ∨ (H17 20 4 = 1 ∧ H17 20 3 = h 20 3)) → (H17 20 4 = 1 ∨ (H17 21 4 - h 21 4 ≤ H17 20 3 - h 20 3 ∧ h 20 3 + x16 + 1 ≤ H17 20 3)) → (fl_stC h H17 (fl_eA (fl_gC h) (fl_pO (fl_gC h) 0) (h 20 3)) (fl_ch fl_oA (fl_eB (fl_gC h) (fl_pO (fl_gC h) 0)) (fl_gC h) (200 - x16).toNat (H17 20 3))) → (120 - x16).toNat < n20 → fz_R 6 mX5_readA 7 [(2, fz_i x16), (0, fz_r 20), (1, fz_i 6)] [] H17 (qX5_readA_6 h) := by
    intro n20
    induction n20 with
    | zero => intro x16 H17 hI18 hf19 hv24 hv25 hv26 hv27 hm23; exact absurd hm23 (by omega)
    | succ n20 ih22 =>
      intro x16 H17 hI18 hf19 hv24 hv25 hv26 hv27 hm23
      refine fz_iload_n kX5_readA rfl rfl ?_
      refine fz_bipush ⟨by decide, by decide⟩ kX5_readA rfl ?_
      refine fz_icmp_ge (tgt := 44) kX5_readA rfl (by decide) (fun c28 => ?_) (fun c28 => ?_)
      · have k29 : 0 ≤ H17 20 3 ∧ H17 20 3 ≤ 120 := hI18.1 20 _
        exact fz_vret kX5_readA rfl rfl ⟨hI18, hf19, rfl, (by omega), (by omega), (by first | exact fl_st_x0 (fl_st_nx (y := 0) (fl_st_k (k' := (200 - (x16 + 1)).toNat + 1) hv27 (by omega)) (fl_gC_e (funext fun s => lost 26 s rfl) (lost 20 2 rfl)) (fl_nxA lost (Or.inr ⟨by omega, rfl⟩)) (lost 20 4 rfl) (lost 21 4 rfl) (funext fun s => lost 22 s rfl) (funext fun s => lost 23 s rfl)) rfl | exact fl_st_xf hv27 (by omega))⟩
      · have k31 : 0 ≤ fl_lh H17 → H17 20 4 = 0 := fl_lh_0
        refine fz_aload_n kX5_readA rfl rfl ?_
        refine fz_bipush ⟨by decide, by decide⟩ kX5_readA rfl ?_
        have b32 : 0 ≤ H17 20 3 ∧ H17 20 3 ≤ 120 := hI18.1 20 _
        have b33 : 0 ≤ h 20 2 ∧ h 20 2 ≤ 120 := hI.1 20 _
        have e34 : H17 20 2 = h 20 2 := hf19 20 2 rfl
        refine fz_callV (d' := 1) (M' := mX5_goesOnWith) (As := [fz_i 38]) (st := []) kX5_readA rfl rfl vX5_goesOnWith rfl rfl rfl rfl (Nat.le_of_ble_eq_true rfl) (Nat.le_of_ble_eq_true rfl) (by decide) (sX5_goesOnWith H17 hI18 38 (by omega)) (fun H35 r36 q37 o38 => ?_)
        obtain ⟨hI39, hf40, y42, rfl, p43, f41⟩ := q37
        clear o38
        have hf44 := fz_fr_tr hf19 hf40 (show fz_su [(20, 3)] [(20, 3), (20, 4), (21, 4), (22, 99999), (23, 99999)] = true from rfl)
        have t45 : H35 20 4 = H17 20 4 := hf40 20 4 rfl
        have t46 : H35 21 4 = H17 21 4 := hf40 21 4 rfl
        refine fz_if_eq (tgt := 44) kX5_readA rfl (by decide) (fun c47 => ?_) (fun c47 => ?_)
        · have k48 : 0 ≤ H35 20 3 ∧ H35 20 3 ≤ 120 := hI39.1 20 _
          exact fz_vret kX5_readA rfl rfl ⟨hI39, hf44, rfl, (by omega), (by omega), (by first | exact fl_st_x0 (fl_st_nx (y := 0) (fl_st_k (k' := (200 - (x16 + 1)).toNat + 1) hv27 (by omega)) (fl_gC_e (funext fun s => hf19 26 s rfl) (hf19 20 2 rfl)) (fl_nxA f41 (Or.inr ⟨by omega, rfl⟩)) (hf40 20 4 rfl) (hf40 21 4 rfl) (funext fun s => hf40 22 s rfl) (funext fun s => hf40 23 s rfl)) rfl | exact fl_st_xf hv27 (by omega))⟩
        · have k50 := fl_st_nx (y := 38) (fl_st_k (k' := (200 - (x16 + 1)).toNat + 1) hv27 (by omega)) (fl_gC_e (funext fun s => hf19 26 s rfl) (hf19 20 2 rfl)) (fl_nxA f41 (Or.inl ⟨by omega, rfl⟩)) (hf40 20 4 rfl) (hf40 21 4 rfl) (funext fun s => hf40 22 s rfl) (funext fun s => hf40 23 s rfl)
          refine fz_aload_n kX5_readA rfl rfl ?_
          refine fz_iload_n kX5_readA rfl rfl ?_
          have b52 : 0 ≤ H35 20 4 ∧ H35 20 4 ≤ 1 := hI39.1 20 _
          have b53 : 0 ≤ H35 21 4 ∧ H35 21 4 ≤ 128 := hI39.1 21 _
          have b54 : 0 ≤ H35 20 3 ∧ H35 20 3 ≤ 120 := hI39.1 20 _
          refine fz_callV (d' := 5) (M' := mX5_readB) (As := [fz_i 6]) (st := []) kX5_readA rfl rfl vX5_readB rfl rfl rfl rfl (Nat.le_of_ble_eq_true rfl) (Nat.le_of_ble_eq_true rfl) (by decide) (sX5_readB_6 H35 hI39  (by omega)) (fun H55 r56 q57 o58 => ?_)
          obtain ⟨hI59, hf60, rfl, f61, f62, f63⟩ := q57
          clear o58
          have hf64 := fz_fr_tr hf44 hf60 (show fz_su [(20, 3), (20, 4), (21, 4), (22, 99999), (23, 99999)] [(20, 3), (20, 4), (21, 4), (22, 99999), (23, 99999)] = true from rfl)
          have k65 : 0 ≤ H55 20 3 ∧ H55 20 3 ≤ 120 := hI59.1 20 _
          refine fz_aload_n kX5_readA rfl rfl ?_
          refine fz_getR (t := 21) kX5_readA rfl rfl ?_
          refine fz_bipush ⟨by decide, by decide⟩ kX5_readA rfl ?_
          refine fz_iconst ⟨by decide, by decide⟩ kX5_readA rfl ?_
          have b66 : 0 ≤ H55 21 4 ∧ H55 21 4 ≤ 128 := hI59.1 21 _
          refine fz_callV (d' := 0) (M' := mX3_add) (As := [fz_i 38, fz_i 0]) (st := []) kX5_readA rfl rfl vX3_add rfl rfl rfl rfl (Nat.le_of_ble_eq_true rfl) (Nat.le_of_ble_eq_true rfl) (by decide) (sX3_add H55 hI59 38 0 ) (fun H67 r68 q69 o70 => ?_)
          obtain ⟨hI71, hf72, y76, rfl, f73, f74, f75⟩ := q69
          clear o70
          have hf77 := fz_fr_tr hf64 hf72 (show fz_su [(21, 4), (22, 99999), (23, 99999)] [(20, 3), (20, 4), (21, 4), (22, 99999), (23, 99999)] = true from rfl)
          have t78 : H67 20 3 = H55 20 3 := hf72 20 3 rfl
          have t79 : H67 20 4 = H55 20 4 := hf72 20 4 rfl
          refine fz_pop rfl kX5_readA rfl ?_
          have k80 := fl_st_it ⟨by omega, by omega⟩ k50 (by decide) f63 (congrArg (fun g => fl_eB g (fl_pO g 0)) (fl_gC_e (funext fun s => hf44 26 s rfl) (hf44 20 2 rfl))) f75 rfl (by omega) (hf72 20 3 rfl) (hf72 20 4 rfl)
          refine fz_iincN (ls' := [(2, fz_i (x16 + 1)), (0, fz_r 20), (1, fz_i 6)]) kX5_readA rfl (by decide) rfl (by omega) rfl ?_
          refine fz_goto (tgt := 7) kX5_readA rfl (by decide) ?_
          exact ih22 (x16 + 1) H67 hI71 hf77 (by omega) (by omega) (by omega) (k80) (by omega)
  exact lp21 _ 0 H4 hI8 hf13 (by omega) (by omega) (by omega) (fl_st_k k14 (by omega)) (Nat.lt_succ_self _)

abbrev qX5_readE_6 (h : fz_H) : fz_H → Option fz_V → Prop := fun h' r0 => fz_Iv h' ∧ fz_fr [(20, 3), (20, 4), (21, 4), (22, 99999), (23, 99999)] h h' ∧ r0 = none ∧ (h 20 4 = 0 ∨ (h' 20 4 = 1 ∧ h' 20 3 = h 20 3)) ∧ (h' 20 4 = 1 ∨ (h' 21 4 - h 21 4 ≤ h' 20 3 - h 20 3 ∧ h 20 3 + 1 ≤ h' 20 3)) ∧ fl_rdC h h' (fl_eE (fl_gC h) (fl_pO (fl_gC h) 0) (h 20 3))
set_option maxHeartbeats 1000000 in
set_option maxRecDepth 100000 in
theorem sX5_readE_6 (h : fz_H) (hI : fz_Iv h) (hp0 : h 20 4 = 1 ∨ h 21 4 ≤ h 20 3) : fz_R 7 mX5_readE 0 [(0, fz_r 20), (1, fz_i 6)] [] h (qX5_readE_6 h) := by
  have hf : fz_fr [(20, 3), (20, 4), (21, 4), (22, 99999), (23, 99999)] h h := fz_fr_rf
  have b1 : 0 ≤ h 20 4 ∧ h 20 4 ≤ 1 := hI.1 20 _
  have b2 : 0 ≤ h 21 4 ∧ h 21 4 ≤ 128 := hI.1 21 _
  have b3 : 0 ≤ h 20 3 ∧ h 20 3 ≤ 120 := hI.1 20 _
  refine fz_aload_n kX5_readE rfl rfl ?_
  refine fz_iload_n kX5_readE rfl rfl ?_
  refine fz_callV (d' := 6) (M' := mX5_readA) (As := [fz_i 6]) (st := []) kX5_readE rfl rfl vX5_readA rfl rfl rfl rfl (Nat.le_of_ble_eq_true rfl) (Nat.le_of_ble_eq_true rfl) (by decide) (sX5_readA_6 h hI  (by omega)) (fun H4 r5 q6 o7 => ?_)
  obtain ⟨hI8, hf9, rfl, f10, f11, f12⟩ := q6
  clear o7
  have hf13 := fz_fr_tr hf hf9 (show fz_su [(20, 3), (20, 4), (21, 4), (22, 99999), (23, 99999)] [(20, 3), (20, 4), (21, 4), (22, 99999), (23, 99999)] = true from rfl)
  have k14 := fl_st_1 (op := fl_oE) (k := 200) (g := fl_gC h) f12 rfl
  refine fz_iconst ⟨by decide, by decide⟩ kX5_readE rfl ?_
  refine fz_istore_n (ls' := [(2, fz_i 0), (0, fz_r 20), (1, fz_i 6)]) kX5_readE rfl (by decide) rfl ?_
  have lp21 : ∀ (n20 : Nat) (x16 : Int) (H17 : fz_H), fz_Iv H17 → fz_fr [(20, 3), (20, 4), (21, 4), (22, 99999), (23, 99999)] h H17 → (0 ≤ x16 ∧ x16 ≤ 2147483647) → (h 20 4 = 0 ∨ (H17 20 4 = 1 ∧ H17 20 3 = h 20 3)) → (H17 20 4 = 1 ∨ (H17 21 4 - h 21 4 ≤ H17 20 3 - h 20 3 ∧ h 20 3 + x16 + 1 ≤ H17 20 3)) → (fl_stC h H17 (fl_eE (fl_gC h) (fl_pO (fl_gC h) 0) (h 20 3)) (fl_ch fl_oE (fl_eA (fl_gC h) (fl_pO (fl_gC h) 0)) (fl_gC h) (200 - x16).toNat (H17 20 3))) → (120 - x16).toNat < n20 → fz_R 7 mX5_readE 7 [(2, fz_i x16), (0, fz_r 20), (1, fz_i 6)] [] H17 (qX5_readE_6 h) := by
    intro n20
    induction n20 with
    | zero => intro x16 H17 hI18 hf19 hv24 hv25 hv26 hv27 hm23; exact absurd hm23 (by omega)
    | succ n20 ih22 =>
      intro x16 H17 hI18 hf19 hv24 hv25 hv26 hv27 hm23
      refine fz_iload_n kX5_readE rfl rfl ?_
      refine fz_bipush ⟨by decide, by decide⟩ kX5_readE rfl ?_
      refine fz_icmp_ge (tgt := 44) kX5_readE rfl (by decide) (fun c28 => ?_) (fun c28 => ?_)
      · have k29 : 0 ≤ H17 20 3 ∧ H17 20 3 ≤ 120 := hI18.1 20 _
        exact fz_vret kX5_readE rfl rfl ⟨hI18, hf19, rfl, (by omega), (by omega), (by first | exact fl_st_x0 (fl_st_nx (y := 0) (fl_st_k (k' := (200 - (x16 + 1)).toNat + 1) hv27 (by omega)) (fl_gC_e (funext fun s => lost 26 s rfl) (lost 20 2 rfl)) (fl_nxE lost (Or.inr ⟨by omega, rfl⟩)) (lost 20 4 rfl) (lost 21 4 rfl) (funext fun s => lost 22 s rfl) (funext fun s => lost 23 s rfl)) rfl | exact fl_st_xf hv27 (by omega))⟩
      · have k31 : 0 ≤ fl_lh H17 → H17 20 4 = 0 := fl_lh_0
        refine fz_aload_n kX5_readE rfl rfl ?_
        refine fz_bipush ⟨by decide, by decide⟩ kX5_readE rfl ?_
        have b32 : 0 ≤ H17 20 3 ∧ H17 20 3 ≤ 120 := hI18.1 20 _
        have b33 : 0 ≤ h 20 2 ∧ h 20 2 ≤ 120 := hI.1 20 _
        have e34 : H17 20 2 = h 20 2 := hf19 20 2 rfl
        refine fz_callV (d' := 1) (M' := mX5_goesOnWith) (As := [fz_i 124]) (st := []) kX5_readE rfl rfl vX5_goesOnWith rfl rfl rfl rfl (Nat.le_of_ble_eq_true rfl) (Nat.le_of_ble_eq_true rfl) (by decide) (sX5_goesOnWith H17 hI18 124 (by omega)) (fun H35 r36 q37 o38 => ?_)
        obtain ⟨hI39, hf40, y42, rfl, p43, f41⟩ := q37
        clear o38
        have hf44 := fz_fr_tr hf19 hf40 (show fz_su [(20, 3)] [(20, 3), (20, 4), (21, 4), (22, 99999), (23, 99999)] = true from rfl)
        have t45 : H35 20 4 = H17 20 4 := hf40 20 4 rfl
        have t46 : H35 21 4 = H17 21 4 := hf40 21 4 rfl
        refine fz_if_eq (tgt := 44) kX5_readE rfl (by decide) (fun c47 => ?_) (fun c47 => ?_)
        · have k48 : 0 ≤ H35 20 3 ∧ H35 20 3 ≤ 120 := hI39.1 20 _
          exact fz_vret kX5_readE rfl rfl ⟨hI39, hf44, rfl, (by omega), (by omega), (by first | exact fl_st_x0 (fl_st_nx (y := 0) (fl_st_k (k' := (200 - (x16 + 1)).toNat + 1) hv27 (by omega)) (fl_gC_e (funext fun s => hf19 26 s rfl) (hf19 20 2 rfl)) (fl_nxE f41 (Or.inr ⟨by omega, rfl⟩)) (hf40 20 4 rfl) (hf40 21 4 rfl) (funext fun s => hf40 22 s rfl) (funext fun s => hf40 23 s rfl)) rfl | exact fl_st_xf hv27 (by omega))⟩
        · have k50 := fl_st_nx (y := 124) (fl_st_k (k' := (200 - (x16 + 1)).toNat + 1) hv27 (by omega)) (fl_gC_e (funext fun s => hf19 26 s rfl) (hf19 20 2 rfl)) (fl_nxE f41 (Or.inl ⟨by omega, rfl⟩)) (hf40 20 4 rfl) (hf40 21 4 rfl) (funext fun s => hf40 22 s rfl) (funext fun s => hf40 23 s rfl)
          refine fz_aload_n kX5_readE rfl rfl ?_
          refine fz_iload_n kX5_readE rfl rfl ?_
          have b52 : 0 ≤ H35 20 4 ∧ H35 20 4 ≤ 1 := hI39.1 20 _
          have b53 : 0 ≤ H35 21 4 ∧ H35 21 4 ≤ 128 := hI39.1 21 _
          have b54 : 0 ≤ H35 20 3 ∧ H35 20 3 ≤ 120 := hI39.1 20 _
          refine fz_callV (d' := 6) (M' := mX5_readA) (As := [fz_i 6]) (st := []) kX5_readE rfl rfl vX5_readA rfl rfl rfl rfl (Nat.le_of_ble_eq_true rfl) (Nat.le_of_ble_eq_true rfl) (by decide) (sX5_readA_6 H35 hI39  (by omega)) (fun H55 r56 q57 o58 => ?_)
          obtain ⟨hI59, hf60, rfl, f61, f62, f63⟩ := q57
          clear o58
          have hf64 := fz_fr_tr hf44 hf60 (show fz_su [(20, 3), (20, 4), (21, 4), (22, 99999), (23, 99999)] [(20, 3), (20, 4), (21, 4), (22, 99999), (23, 99999)] = true from rfl)
          have k65 : 0 ≤ H55 20 3 ∧ H55 20 3 ≤ 120 := hI59.1 20 _
          refine fz_aload_n kX5_readE rfl rfl ?_
          refine fz_getR (t := 21) kX5_readE rfl rfl ?_
          refine fz_bipush ⟨by decide, by decide⟩ kX5_readE rfl ?_
          refine fz_iconst ⟨by decide, by decide⟩ kX5_readE rfl ?_
          have b66 : 0 ≤ H55 21 4 ∧ H55 21 4 ≤ 128 := hI59.1 21 _
          refine fz_callV (d' := 0) (M' := mX3_add) (As := [fz_i 124, fz_i 0]) (st := []) kX5_readE rfl rfl vX3_add rfl rfl rfl rfl (Nat.le_of_ble_eq_true rfl) (Nat.le_of_ble_eq_true rfl) (by decide) (sX3_add H55 hI59 124 0 ) (fun H67 r68 q69 o70 => ?_)
          obtain ⟨hI71, hf72, y76, rfl, f73, f74, f75⟩ := q69
          clear o70
          have hf77 := fz_fr_tr hf64 hf72 (show fz_su [(21, 4), (22, 99999), (23, 99999)] [(20, 3), (20, 4), (21, 4), (22, 99999), (23, 99999)] = true from rfl)
          have t78 : H67 20 3 = H55 20 3 := hf72 20 3 rfl
          have t79 : H67 20 4 = H55 20 4 := hf72 20 4 rfl
          refine fz_pop rfl kX5_readE rfl ?_
          have k80 := fl_st_it ⟨by omega, by omega⟩ k50 (by decide) f63 (congrArg (fun g => fl_eA g (fl_pO g 0)) (fl_gC_e (funext fun s => hf44 26 s rfl) (hf44 20 2 rfl))) f75 rfl (by omega) (hf72 20 3 rfl) (hf72 20 4 rfl)
          refine fz_iincN (ls' := [(2, fz_i (x16 + 1)), (0, fz_r 20), (1, fz_i 6)]) kX5_readE rfl (by decide) rfl (by omega) rfl ?_
          refine fz_goto (tgt := 7) kX5_readE rfl (by decide) ?_
          exact ih22 (x16 + 1) H67 hI71 hf77 (by omega) (by omega) (by omega) (k80) (by omega)
  exact lp21 _ 0 H4 hI8 hf13 (by omega) (by omega) (by omega) (fl_st_k k14 (by omega)) (Nat.lt_succ_self _)

abbrev qX5_readO_g (f : Nat) (L : Int) (h : fz_H) : fz_H → Option fz_V → Prop := fun h' r0 => fz_Iv h' ∧ fz_fr [(20, 3), (20, 4), (21, 4), (22, 99999), (23, 99999)] h h' ∧ r0 = none ∧ (h 20 4 = 0 ∨ (h' 20 4 = 1 ∧ h' 20 3 = h 20 3)) ∧ (h' 20 4 = 1 ∨ (h' 21 4 - h 21 4 ≤ h' 20 3 - h 20 3 ∧ h 20 3 + 1 ≤ h' 20 3)) ∧ fl_rdC h h' (fl_pO (fl_gC h) f (h 20 3))
abbrev qX5_readP_g (f : Nat) (L : Int) (h : fz_H) : fz_H → Option fz_V → Prop := fun h' r0 => fz_Iv h' ∧ fz_fr [(20, 3), (20, 4), (21, 4), (22, 99999), (23, 99999)] h h' ∧ r0 = none ∧ (h 20 4 = 0 ∨ (h' 20 4 = 1 ∧ h' 20 3 = h 20 3)) ∧ (h' 20 4 = 1 ∨ (h' 21 4 - h 21 4 ≤ h' 20 3 - h 20 3 ∧ h 20 3 + 1 ≤ h' 20 3)) ∧ fl_rdC h h' (fl_eP (fl_gC h) (fl_pO (fl_gC h) f) (h 20 3))
abbrev qX5_readS_g (f : Nat) (L : Int) (h : fz_H) : fz_H → Option fz_V → Prop := fun h' r0 => fz_Iv h' ∧ fz_fr [(20, 3), (20, 4), (21, 4), (22, 99999), (23, 99999)] h h' ∧ r0 = none ∧ (h 20 4 = 0 ∨ (h' 20 4 = 1 ∧ h' 20 3 = h 20 3)) ∧ (h' 20 4 = 1 ∨ (h' 21 4 - h 21 4 ≤ h' 20 3 - h 20 3 ∧ h 20 3 + 1 ≤ h' 20 3)) ∧ fl_rdC h h' (fl_eS (fl_gC h) (fl_pO (fl_gC h) f) (h 20 3))
abbrev qX5_readB_g (f : Nat) (L : Int) (h : fz_H) : fz_H → Option fz_V → Prop := fun h' r0 => fz_Iv h' ∧ fz_fr [(20, 3), (20, 4), (21, 4), (22, 99999), (23, 99999)] h h' ∧ r0 = none ∧ (h 20 4 = 0 ∨ (h' 20 4 = 1 ∧ h' 20 3 = h 20 3)) ∧ (h' 20 4 = 1 ∨ (h' 21 4 - h 21 4 ≤ h' 20 3 - h 20 3 ∧ h 20 3 + 1 ≤ h' 20 3)) ∧ fl_rdC h h' (fl_eB (fl_gC h) (fl_pO (fl_gC h) f) (h 20 3))
abbrev qX5_readA_g (f : Nat) (L : Int) (h : fz_H) : fz_H → Option fz_V → Prop := fun h' r0 => fz_Iv h' ∧ fz_fr [(20, 3), (20, 4), (21, 4), (22, 99999), (23, 99999)] h h' ∧ r0 = none ∧ (h 20 4 = 0 ∨ (h' 20 4 = 1 ∧ h' 20 3 = h 20 3)) ∧ (h' 20 4 = 1 ∨ (h' 21 4 - h 21 4 ≤ h' 20 3 - h 20 3 ∧ h 20 3 + 1 ≤ h' 20 3)) ∧ fl_rdC h h' (fl_eA (fl_gC h) (fl_pO (fl_gC h) f) (h 20 3))
abbrev qX5_readE_g (f : Nat) (L : Int) (h : fz_H) : fz_H → Option fz_V → Prop := fun h' r0 => fz_Iv h' ∧ fz_fr [(20, 3), (20, 4), (21, 4), (22, 99999), (23, 99999)] h h' ∧ r0 = none ∧ (h 20 4 = 0 ∨ (h' 20 4 = 1 ∧ h' 20 3 = h 20 3)) ∧ (h' 20 4 = 1 ∨ (h' 21 4 - h 21 4 ≤ h' 20 3 - h 20 3 ∧ h 20 3 + 1 ≤ h' 20 3)) ∧ fl_rdC h h' (fl_eE (fl_gC h) (fl_pO (fl_gC h) f) (h 20 3))

set_option maxHeartbeats 1000000 in
set_option maxRecDepth 100000 in
theorem sX5_readO_g (k : Nat) (L : Int) (D : Nat) (hL : 0 ≤ L ∧ L ≤ 5) (ihO : ∀ (h : fz_H) (hI : fz_Iv h) (hp0 : h 20 4 = 1 ∨ h 21 4 ≤ h 20 3), fz_R (D + 2) mX5_readO 0 [(0, fz_r 20), (1, fz_i (L + 1))] [] h (qX5_readO_g k (L + 1) h)) (ihE : ∀ (h : fz_H) (hI : fz_Iv h) (hp0 : h 20 4 = 1 ∨ h 21 4 ≤ h 20 3), fz_R (D + 7) mX5_readE 0 [(0, fz_r 20), (1, fz_i (L + 1))] [] h (qX5_readE_g k (L + 1) h)) (h : fz_H) (hI : fz_Iv h) (hp0 : h 20 4 = 1 ∨ h 21 4 ≤ h 20 3) : fz_R (D + 8) mX5_readO 0 [(0, fz_r 20), (1, fz_i L)] [] h (qX5_readO_g (k + 1) L h) := by
  have hf : fz_fr [(20, 3), (20, 4), (21, 4), (22, 99999), (23, 99999)] h h := fz_fr_rf
  have b1 : 0 ≤ h 20 4 ∧ h 20 4 ≤ 1 := hI.1 20 _
  have b2 : 0 ≤ h 21 4 ∧ h 21 4 ≤ 128 := hI.1 21 _
  have b3 : 0 ≤ h 20 3 ∧ h 20 3 ≤ 120 := hI.1 20 _
  refine fz_aload_n kX5_readO rfl rfl ?_
  have b4 : 0 ≤ h 20 2 ∧ h 20 2 ≤ 120 := hI.1 20 _
  refine fz_callV (d' := 0) (M' := mX5_letterHere) (As := []) (st := []) kX5_readO rfl rfl vX5_letterHere rfl rfl rfl rfl (Nat.le_of_ble_eq_true rfl) (Nat.le_of_ble_eq_true rfl) (by omega) (sX5_letterHere h hI  ) (fun H5 r6 q7 o8 => ?_)
  obtain ⟨e9, y13, rfl, f10, f11, f12⟩ := q7
  subst H5
  clear o8
  refine fz_istore_n (ls' := [(2, fz_i y13), (0, fz_r 20), (1, fz_i L)]) kX5_readO rfl (by decide) rfl ?_
  have k14 : 0 ≤ fl_lh h → h 20 4 = 0 := fl_lh_0
  have k15 : 0 ≤ fl_lh h → h 20 3 < h 20 2 := fl_lh_lt
  have k16 : 0 ≤ h 20 4 ∧ h 20 4 ≤ 1 := hI.1 20 _
  refine fz_iload_n kX5_readO rfl rfl ?_
  refine fz_callS (d' := 0) (M' := mX5_nameOf) (As := [fz_i y13]) (st := []) kX5_readO rfl rfl vX5_nameOf rfl rfl (Nat.le_of_ble_eq_true rfl) (Nat.le_of_ble_eq_true rfl) (by omega) (sX5_nameOf h hI y13 ) (fun H17 r18 q19 o20 => ?_)
  obtain ⟨e21, y25, rfl, f22, f23, f24⟩ := q19
  subst H17
  clear o20
  refine fz_istore_n (ls' := [(3, fz_i y25), (2, fz_i y13), (0, fz_r 20), (1, fz_i L)]) kX5_readO rfl (by decide) rfl ?_
  refine fz_iload_n kX5_readO rfl rfl ?_
  refine fz_bipush ⟨by decide, by decide⟩ kX5_readO rfl ?_
  refine fz_icmp_lt (tgt := 29) kX5_readO rfl (by decide) (fun c26 => ?_) (fun c26 => ?_)
  · refine fz_iload_n kX5_readO rfl rfl ?_
    refine fz_if_lt (tgt := 57) kX5_readO rfl (by decide) (fun c27 => ?_) (fun c27 => ?_)
    · refine fz_iload_n kX5_readO rfl rfl ?_
      refine fz_bipush ⟨by decide, by decide⟩ kX5_readO rfl ?_
      refine fz_icmp_lt (tgt := 71) kX5_readO rfl (by decide) (fun c28 => ?_) (fun c28 => ?_)
      · refine fz_aload_n kX5_readO rfl rfl ?_
        refine fz_bipush ⟨by decide, by decide⟩ kX5_readO rfl ?_
        refine fz_callV (d' := 1) (M' := mX5_goesOnWith) (As := [fz_i 40]) (st := []) kX5_readO rfl rfl vX5_goesOnWith rfl rfl rfl rfl (Nat.le_of_ble_eq_true rfl) (Nat.le_of_ble_eq_true rfl) (by omega) (sX5_goesOnWith h hI 40 (by omega)) (fun H29 r30 q31 o32 => ?_)
        obtain ⟨hI33, hf34, y36, rfl, p37, f35⟩ := q31
        clear o32
        have hf38 := fz_fr_tr hf hf34 (show fz_su [(20, 3)] [(20, 3), (20, 4), (21, 4), (22, 99999), (23, 99999)] = true from rfl)
        have k39 : H29 20 4 = (h 20 4) := (hf34 20 4 rfl).trans rfl
        have k40 : H29 21 4 = (h 21 4) := (hf34 21 4 rfl).trans rfl
        have t41 : H29 20 4 = h 20 4 := hf34 20 4 rfl
        have t42 : H29 21 4 = h 21 4 := hf34 21 4 rfl
        refine fz_if_eq (tgt := 115) kX5_readO rfl (by decide) (fun c43 => ?_) (fun c43 => ?_)
        · refine fz_aload_n kX5_readO rfl rfl ?_
          refine fz_bipush ⟨by decide, by decide⟩ kX5_readO rfl ?_
          have b44 : 0 ≤ H29 20 3 ∧ H29 20 3 ≤ 120 := hI33.1 20 _
          have e45 : H29 20 2 = h 20 2 := hf38 20 2 rfl
          refine fz_callV (d' := 1) (M' := mX5_goesOnWith) (As := [fz_i 33]) (st := []) kX5_readO rfl rfl vX5_goesOnWith rfl rfl rfl rfl (Nat.le_of_ble_eq_true rfl) (Nat.le_of_ble_eq_true rfl) (by omega) (sX5_goesOnWith H29 hI33 33 (by omega)) (fun H46 r47 q48 o49 => ?_)
          obtain ⟨hI50, hf51, y53, rfl, p54, f52⟩ := q48
          clear o49
          have hf55 := fz_fr_tr hf38 hf51 (show fz_su [(20, 3)] [(20, 3), (20, 4), (21, 4), (22, 99999), (23, 99999)] = true from rfl)
          have k56 : H46 20 4 = (h 20 4) := (hf51 20 4 rfl).trans k39
          have k57 : H46 21 4 = (h 21 4) := (hf51 21 4 rfl).trans k40
          have t58 : H46 20 4 = H29 20 4 := hf51 20 4 rfl
          have t59 : H46 21 4 = H29 21 4 := hf51 21 4 rfl
          refine fz_if_eq (tgt := 145) kX5_readO rfl (by decide) (fun c60 => ?_) (fun c60 => ?_)
          · refine fz_aload_n kX5_readO rfl rfl ?_
            refine fz_bipush ⟨by decide, by decide⟩ kX5_readO rfl ?_
            have b61 : 0 ≤ H46 20 3 ∧ H46 20 3 ≤ 120 := hI50.1 20 _
            have e62 : H46 20 2 = h 20 2 := hf55 20 2 rfl
            refine fz_callV (d' := 1) (M' := mX5_goesOnWith) (As := [fz_i 45]) (st := []) kX5_readO rfl rfl vX5_goesOnWith rfl rfl rfl rfl (Nat.le_of_ble_eq_true rfl) (Nat.le_of_ble_eq_true rfl) (by omega) (sX5_goesOnWith H46 hI50 45 (by omega)) (fun H63 r64 q65 o66 => ?_)
            obtain ⟨hI67, hf68, y70, rfl, p71, f69⟩ := q65
            clear o66
            have hf72 := fz_fr_tr hf55 hf68 (show fz_su [(20, 3)] [(20, 3), (20, 4), (21, 4), (22, 99999), (23, 99999)] = true from rfl)
            have k73 : H63 20 4 = (h 20 4) := (hf68 20 4 rfl).trans k56
            have k74 : H63 21 4 = (h 21 4) := (hf68 21 4 rfl).trans k57
            have t75 : H63 20 4 = H46 20 4 := hf68 20 4 rfl
            have t76 : H63 21 4 = H46 21 4 := hf68 21 4 rfl
            refine fz_if_eq (tgt := 175) kX5_readO rfl (by decide) (fun c77 => ?_) (fun c77 => ?_)
            · refine fz_aload_n kX5_readO rfl rfl ?_
              refine fz_iconst ⟨by decide, by decide⟩ kX5_readO rfl ?_
              refine fz_putZ kX5_readO rfl rfl rfl (by omega) ?_
              refine fz_nmu (S := [(20, 3), (20, 4), (21, 4), (22, 99999), (23, 99999)]) (h0 := h) (fz_Iv_up hI67 (by decide) (show (0 : Int) ≤ 1 by decide) (show (1 : Int) ≤ 1 by decide)) (fz_fr_up hf72 rfl) (fun H78 hI79 hf80 e81 => ?_)
              have k82 : H78 21 4 = (h 21 4) := by rw [e81]; exact (fz_up_o (by decide)).trans k74
              have k83 : H78 20 4 = 1 := by rw [e81]; exact fz_up_e
              have t84 : H78 20 3 = H63 20 3 := by rw [e81]; exact fz_up_s (by decide)
              have t85 : H78 21 4 = H63 21 4 := by rw [e81]; exact fz_up_o (by decide)
              exact fz_vret kX5_readO rfl rfl ⟨hI79, hf80, rfl, (by omega), (by omega), (by first | exact fl_O_num f12 ⟨by omega, by omega⟩ lost (lost 20 4 rfl) | exact fl_O_nam f12 f24 (by omega) (by omega) lost rfl lost (by omega) (lost 20 3 rfl) (lost 20 4 rfl) | exact fl_O_un (k := k) f12 f24 (by omega) (by omega) (Or.inr ⟨by omega, rfl, rfl⟩) (by omega) (by omega) (by omega) (funext fun s => (hf68 22 s rfl).trans ((hf51 22 s rfl).trans (hf34 22 s rfl))) (funext fun s => (hf68 23 s rfl).trans ((hf51 23 s rfl).trans (hf34 23 s rfl))) (by omega) (fl_gC_e (funext fun s => (hf68 26 s rfl).trans ((hf51 26 s rfl).trans (hf34 26 s rfl))) ((hf68 20 2 rfl).trans ((hf51 20 2 rfl).trans (hf34 20 2 rfl)))) lost lost (by omega) (lost 20 3 rfl) (lost 20 4 rfl) | exact fl_O_un (k := k) f12 f24 (by omega) (by omega) (Or.inl ⟨by omega, rfl, rfl⟩) (by omega) (by omega) (by omega) (funext fun s => (hf51 22 s rfl).trans (hf34 22 s rfl)) (funext fun s => (hf51 23 s rfl).trans (hf34 23 s rfl)) (by omega) (fl_gC_e (funext fun s => (hf51 26 s rfl).trans (hf34 26 s rfl)) ((hf51 20 2 rfl).trans (hf34 20 2 rfl))) lost lost (by omega) (lost 20 3 rfl) (lost 20 4 rfl) | exact fl_O_par (k := k) f12 f24 (by omega) (by omega) (by omega) (by omega) (hf34 20 4 rfl) (hf34 21 4 rfl) (funext fun s => hf34 22 s rfl) (funext fun s => hf34 23 s rfl) (fl_gC_e (funext fun s => hf34 26 s rfl) (hf34 20 2 rfl)) lost (fl_gC_e (funext fun s => (lost 26 s rfl).trans (hf34 26 s rfl)) ((lost 20 2 rfl).trans (hf34 20 2 rfl))) (Or.inr (Or.inl ⟨by omega, by omega, by omega, by omega⟩)) (by rw [lost]; exact (fz_up_o (by decide)).trans (lost 21 4 rfl)) (by rw [lost, fz_up_ne (by decide)]; exact (funext fun s => lost 22 s rfl)) (by rw [lost, fz_up_ne (by decide)]; exact (funext fun s => lost 23 s rfl)) | exact fl_O_par (k := k) f12 f24 (by omega) (by omega) (by omega) (by omega) (hf34 20 4 rfl) (hf34 21 4 rfl) (funext fun s => hf34 22 s rfl) (funext fun s => hf34 23 s rfl) (fl_gC_e (funext fun s => hf34 26 s rfl) (hf34 20 2 rfl)) lost (fl_gC_e (funext fun s => (lost 26 s rfl).trans (hf34 26 s rfl)) ((lost 20 2 rfl).trans (hf34 20 2 rfl))) (Or.inr (Or.inr ⟨by omega, by omega, by omega, by omega⟩)) (by rw [lost]; exact (fz_up_o (by decide)).trans (lost 21 4 rfl)) (by rw [lost, fz_up_ne (by decide)]; exact (funext fun s => lost 22 s rfl)) (by rw [lost, fz_up_ne (by decide)]; exact (funext fun s => lost 23 s rfl)) | exact fl_O_par (k := k) f12 f24 (by omega) (by omega) (by omega) (by omega) (hf34 20 4 rfl) (hf34 21 4 rfl) (funext fun s => hf34 22 s rfl) (funext fun s => hf34 23 s rfl) (fl_gC_e (funext fun s => hf34 26 s rfl) (hf34 20 2 rfl)) lost (fl_gC_e (funext fun s => (lost 26 s rfl).trans (hf34 26 s rfl)) ((lost 20 2 rfl).trans (hf34 20 2 rfl))) (Or.inl ⟨by omega, by omega, by omega⟩) (by rw [lost]; exact fz_up_o (by decide)) (by rw [lost]; exact fz_up_ne (by decide)) (by rw [lost]; exact fz_up_ne (by decide)) | exact fl_O_f0 f12 f24 (by omega) (by omega) (Or.inr ⟨by omega, by omega, by omega⟩) (by omega) (by omega))⟩
            · refine fz_aload_n kX5_readO rfl rfl ?_
              refine fz_iload_n kX5_readO rfl rfl ?_
              refine fz_iconst ⟨by decide, by decide⟩ kX5_readO rfl ?_
              refine fz_iaddN kX5_readO rfl (by omega) ?_
              refine fz_eqi (y := (L + 1)) (by omega) ?_
              have b87 : 0 ≤ H63 20 4 ∧ H63 20 4 ≤ 1 := hI67.1 20 _
              have b88 : 0 ≤ H63 21 4 ∧ H63 21 4 ≤ 128 := hI67.1 21 _
              have b89 : 0 ≤ H63 20 3 ∧ H63 20 3 ≤ 120 := hI67.1 20 _
              refine fz_callV (d' := (D + 2)) (M' := mX5_readO) (As := [fz_i (L + 1)]) (st := []) kX5_readO rfl rfl vX5_readO rfl rfl rfl rfl (Nat.le_of_ble_eq_true rfl) (Nat.le_of_ble_eq_true rfl) (by omega) (ihO H63 hI67  (by omega)) (fun H90 r91 q92 o93 => ?_)
              obtain ⟨hI94, hf95, rfl, f96, f97, f98⟩ := q92
              clear o93
              have hf99 := fz_fr_tr hf72 hf95 (show fz_su [(20, 3), (20, 4), (21, 4), (22, 99999), (23, 99999)] [(20, 3), (20, 4), (21, 4), (22, 99999), (23, 99999)] = true from rfl)
              have k100 : 0 ≤ H90 20 3 ∧ H90 20 3 ≤ 120 := hI94.1 20 _
              refine fz_aload_n kX5_readO rfl rfl ?_
              refine fz_getR (t := 21) kX5_readO rfl rfl ?_
              refine fz_bipush ⟨by decide, by decide⟩ kX5_readO rfl ?_
              refine fz_iconst ⟨by decide, by decide⟩ kX5_readO rfl ?_
              have b101 : 0 ≤ H90 21 4 ∧ H90 21 4 ≤ 128 := hI94.1 21 _
              refine fz_callV (d' := 0) (M' := mX3_add) (As := [fz_i 126, fz_i 0]) (st := []) kX5_readO rfl rfl vX3_add rfl rfl rfl rfl (Nat.le_of_ble_eq_true rfl) (Nat.le_of_ble_eq_true rfl) (by omega) (sX3_add H90 hI94 126 0 ) (fun H102 r103 q104 o105 => ?_)
              obtain ⟨hI106, hf107, y111, rfl, f108, f109, f110⟩ := q104
              clear o105
              have hf112 := fz_fr_tr hf99 hf107 (show fz_su [(21, 4), (22, 99999), (23, 99999)] [(20, 3), (20, 4), (21, 4), (22, 99999), (23, 99999)] = true from rfl)
              have t113 : H102 20 3 = H90 20 3 := hf107 20 3 rfl
              have t114 : H102 20 4 = H90 20 4 := hf107 20 4 rfl
              refine fz_pop rfl kX5_readO rfl ?_
              refine fz_goto (tgt := 180) kX5_readO rfl (by decide) ?_
              exact fz_vret kX5_readO rfl rfl ⟨hI106, hf112, rfl, (by omega), (by omega), (by first | exact fl_O_num f12 ⟨by omega, by omega⟩ lost (lost 20 4 rfl) | exact fl_O_nam f12 f24 (by omega) (by omega) lost rfl f110 (by omega) (lost 20 3 rfl) (lost 20 4 rfl) | exact fl_O_un (k := k) f12 f24 (by omega) (by omega) (Or.inr ⟨by omega, rfl, rfl⟩) (by omega) (by omega) (by omega) (funext fun s => (hf68 22 s rfl).trans ((hf51 22 s rfl).trans (hf34 22 s rfl))) (funext fun s => (hf68 23 s rfl).trans ((hf51 23 s rfl).trans (hf34 23 s rfl))) (by omega) (fl_gC_e (funext fun s => (hf68 26 s rfl).trans ((hf51 26 s rfl).trans (hf34 26 s rfl))) ((hf68 20 2 rfl).trans ((hf51 20 2 rfl).trans (hf34 20 2 rfl)))) f98 f110 (by omega) (hf107 20 3 rfl) (hf107 20 4 rfl) | exact fl_O_un (k := k) f12 f24 (by omega) (by omega) (Or.inl ⟨by omega, rfl, rfl⟩) (by omega) (by omega) (by omega) (funext fun s => (hf51 22 s rfl).trans (hf34 22 s rfl)) (funext fun s => (hf51 23 s rfl).trans (hf34 23 s rfl)) (by omega) (fl_gC_e (funext fun s => (hf51 26 s rfl).trans (hf34 26 s rfl)) ((hf51 20 2 rfl).trans (hf34 20 2 rfl))) f98 f110 (by omega) (lost 20 3 rfl) (lost 20 4 rfl) | exact fl_O_par (k := k) f12 f24 (by omega) (by omega) (by omega) (by omega) (hf34 20 4 rfl) (hf34 21 4 rfl) (funext fun s => hf34 22 s rfl) (funext fun s => hf34 23 s rfl) (fl_gC_e (funext fun s => hf34 26 s rfl) (hf34 20 2 rfl)) f98 (fl_gC_e (funext fun s => (lost 26 s rfl).trans (hf34 26 s rfl)) ((lost 20 2 rfl).trans (hf34 20 2 rfl))) (Or.inr (Or.inl ⟨by omega, by omega, by omega, by omega⟩)) (by rw [lost]; exact (fz_up_o (by decide)).trans (lost 21 4 rfl)) (by rw [lost, fz_up_ne (by decide)]; exact (funext fun s => lost 22 s rfl)) (by rw [lost, fz_up_ne (by decide)]; exact (funext fun s => lost 23 s rfl)) | exact fl_O_par (k := k) f12 f24 (by omega) (by omega) (by omega) (by omega) (hf34 20 4 rfl) (hf34 21 4 rfl) (funext fun s => hf34 22 s rfl) (funext fun s => hf34 23 s rfl) (fl_gC_e (funext fun s => hf34 26 s rfl) (hf34 20 2 rfl)) f98 (fl_gC_e (funext fun s => (lost 26 s rfl).trans (hf34 26 s rfl)) ((lost 20 2 rfl).trans (hf34 20 2 rfl))) (Or.inr (Or.inr ⟨by omega, by omega, by omega, by omega⟩)) (by rw [lost]; exact (fz_up_o (by decide)).trans (lost 21 4 rfl)) (by rw [lost, fz_up_ne (by decide)]; exact (funext fun s => lost 22 s rfl)) (by rw [lost, fz_up_ne (by decide)]; exact (funext fun s => lost 23 s rfl)) | exact fl_O_par (k := k) f12 f24 (by omega) (by omega) (by omega) (by omega) (hf34 20 4 rfl) (hf34 21 4 rfl) (funext fun s => hf34 22 s rfl) (funext fun s => hf34 23 s rfl) (fl_gC_e (funext fun s => hf34 26 s rfl) (hf34 20 2 rfl)) f98 (fl_gC_e (funext fun s => (lost 26 s rfl).trans (hf34 26 s rfl)) ((lost 20 2 rfl).trans (hf34 20 2 rfl))) (Or.inl ⟨by omega, by omega, by omega⟩) (by rw [lost]; exact fz_up_o (by decide)) (by rw [lost]; exact fz_up_ne (by decide)) (by rw [lost]; exact fz_up_ne (by decide)) | exact fl_O_f0 f12 f24 (by omega) (by omega) (Or.inr ⟨by omega, by omega, by omega⟩) (by omega) (by omega))⟩
          · refine fz_aload_n kX5_readO rfl rfl ?_
            refine fz_iload_n kX5_readO rfl rfl ?_
            refine fz_iconst ⟨by decide, by decide⟩ kX5_readO rfl ?_
            refine fz_iaddN kX5_readO rfl (by omega) ?_
            refine fz_eqi (y := (L + 1)) (by omega) ?_
            have b116 : 0 ≤ H46 20 4 ∧ H46 20 4 ≤ 1 := hI50.1 20 _
            have b117 : 0 ≤ H46 21 4 ∧ H46 21 4 ≤ 128 := hI50.1 21 _
            have b118 : 0 ≤ H46 20 3 ∧ H46 20 3 ≤ 120 := hI50.1 20 _
            refine fz_callV (d' := (D + 2)) (M' := mX5_readO) (As := [fz_i (L + 1)]) (st := []) kX5_readO rfl rfl vX5_readO rfl rfl rfl rfl (Nat.le_of_ble_eq_true rfl) (Nat.le_of_ble_eq_true rfl) (by omega) (ihO H46 hI50  (by omega)) (fun H119 r120 q121 o122 => ?_)
            obtain ⟨hI123, hf124, rfl, f125, f126, f127⟩ := q121
            clear o122
            have hf128 := fz_fr_tr hf55 hf124 (show fz_su [(20, 3), (20, 4), (21, 4), (22, 99999), (23, 99999)] [(20, 3), (20, 4), (21, 4), (22, 99999), (23, 99999)] = true from rfl)
            have k129 : 0 ≤ H119 20 3 ∧ H119 20 3 ≤ 120 := hI123.1 20 _
            refine fz_aload_n kX5_readO rfl rfl ?_
            refine fz_getR (t := 21) kX5_readO rfl rfl ?_
            refine fz_bipush ⟨by decide, by decide⟩ kX5_readO rfl ?_
            refine fz_iconst ⟨by decide, by decide⟩ kX5_readO rfl ?_
            have b130 : 0 ≤ H119 21 4 ∧ H119 21 4 ≤ 128 := hI123.1 21 _
            refine fz_callV (d' := 0) (M' := mX3_add) (As := [fz_i 33, fz_i 0]) (st := []) kX5_readO rfl rfl vX3_add rfl rfl rfl rfl (Nat.le_of_ble_eq_true rfl) (Nat.le_of_ble_eq_true rfl) (by omega) (sX3_add H119 hI123 33 0 ) (fun H131 r132 q133 o134 => ?_)
            obtain ⟨hI135, hf136, y140, rfl, f137, f138, f139⟩ := q133
            clear o134
            have hf141 := fz_fr_tr hf128 hf136 (show fz_su [(21, 4), (22, 99999), (23, 99999)] [(20, 3), (20, 4), (21, 4), (22, 99999), (23, 99999)] = true from rfl)
            have t142 : H131 20 3 = H119 20 3 := hf136 20 3 rfl
            have t143 : H131 20 4 = H119 20 4 := hf136 20 4 rfl
            refine fz_pop rfl kX5_readO rfl ?_
            refine fz_goto (tgt := 180) kX5_readO rfl (by decide) ?_
            exact fz_vret kX5_readO rfl rfl ⟨hI135, hf141, rfl, (by omega), (by omega), (by first | exact fl_O_num f12 ⟨by omega, by omega⟩ lost (lost 20 4 rfl) | exact fl_O_nam f12 f24 (by omega) (by omega) lost rfl f139 (by omega) (lost 20 3 rfl) (lost 20 4 rfl) | exact fl_O_un (k := k) f12 f24 (by omega) (by omega) (Or.inr ⟨by omega, rfl, rfl⟩) (by omega) (by omega) (by omega) (funext fun s => (lost 22 s rfl).trans ((hf51 22 s rfl).trans (hf34 22 s rfl))) (funext fun s => (lost 23 s rfl).trans ((hf51 23 s rfl).trans (hf34 23 s rfl))) (by omega) (fl_gC_e (funext fun s => (lost 26 s rfl).trans ((hf51 26 s rfl).trans (hf34 26 s rfl))) ((lost 20 2 rfl).trans ((hf51 20 2 rfl).trans (hf34 20 2 rfl)))) f127 f139 (by omega) (lost 20 3 rfl) (lost 20 4 rfl) | exact fl_O_un (k := k) f12 f24 (by omega) (by omega) (Or.inl ⟨by omega, rfl, rfl⟩) (by omega) (by omega) (by omega) (funext fun s => (hf51 22 s rfl).trans (hf34 22 s rfl)) (funext fun s => (hf51 23 s rfl).trans (hf34 23 s rfl)) (by omega) (fl_gC_e (funext fun s => (hf51 26 s rfl).trans (hf34 26 s rfl)) ((hf51 20 2 rfl).trans (hf34 20 2 rfl))) f127 f139 (by omega) (hf136 20 3 rfl) (hf136 20 4 rfl) | exact fl_O_par (k := k) f12 f24 (by omega) (by omega) (by omega) (by omega) (hf34 20 4 rfl) (hf34 21 4 rfl) (funext fun s => hf34 22 s rfl) (funext fun s => hf34 23 s rfl) (fl_gC_e (funext fun s => hf34 26 s rfl) (hf34 20 2 rfl)) f127 (fl_gC_e (funext fun s => (lost 26 s rfl).trans (hf34 26 s rfl)) ((lost 20 2 rfl).trans (hf34 20 2 rfl))) (Or.inr (Or.inl ⟨by omega, by omega, by omega, by omega⟩)) (by rw [lost]; exact (fz_up_o (by decide)).trans (lost 21 4 rfl)) (by rw [lost, fz_up_ne (by decide)]; exact (funext fun s => lost 22 s rfl)) (by rw [lost, fz_up_ne (by decide)]; exact (funext fun s => lost 23 s rfl)) | exact fl_O_par (k := k) f12 f24 (by omega) (by omega) (by omega) (by omega) (hf34 20 4 rfl) (hf34 21 4 rfl) (funext fun s => hf34 22 s rfl) (funext fun s => hf34 23 s rfl) (fl_gC_e (funext fun s => hf34 26 s rfl) (hf34 20 2 rfl)) f127 (fl_gC_e (funext fun s => (lost 26 s rfl).trans (hf34 26 s rfl)) ((lost 20 2 rfl).trans (hf34 20 2 rfl))) (Or.inr (Or.inr ⟨by omega, by omega, by omega, by omega⟩)) (by rw [lost]; exact (fz_up_o (by decide)).trans (lost 21 4 rfl)) (by rw [lost, fz_up_ne (by decide)]; exact (funext fun s => lost 22 s rfl)) (by rw [lost, fz_up_ne (by decide)]; exact (funext fun s => lost 23 s rfl)) | exact fl_O_par (k := k) f12 f24 (by omega) (by omega) (by omega) (by omega) (hf34 20 4 rfl) (hf34 21 4 rfl) (funext fun s => hf34 22 s rfl) (funext fun s => hf34 23 s rfl) (fl_gC_e (funext fun s => hf34 26 s rfl) (hf34 20 2 rfl)) f127 (fl_gC_e (funext fun s => (lost 26 s rfl).trans (hf34 26 s rfl)) ((lost 20 2 rfl).trans (hf34 20 2 rfl))) (Or.inl ⟨by omega, by omega, by omega⟩) (by rw [lost]; exact fz_up_o (by decide)) (by rw [lost]; exact fz_up_ne (by decide)) (by rw [lost]; exact fz_up_ne (by decide)) | exact fl_O_f0 f12 f24 (by omega) (by omega) (Or.inr ⟨by omega, by omega, by omega⟩) (by omega) (by omega))⟩
        · refine fz_aload_n kX5_readO rfl rfl ?_
          refine fz_iload_n kX5_readO rfl rfl ?_
          refine fz_iconst ⟨by decide, by decide⟩ kX5_readO rfl ?_
          refine fz_iaddN kX5_readO rfl (by omega) ?_
          refine fz_eqi (y := (L + 1)) (by omega) ?_
          have b145 : 0 ≤ H29 20 4 ∧ H29 20 4 ≤ 1 := hI33.1 20 _
          have b146 : 0 ≤ H29 21 4 ∧ H29 21 4 ≤ 128 := hI33.1 21 _
          have b147 : 0 ≤ H29 20 3 ∧ H29 20 3 ≤ 120 := hI33.1 20 _
          refine fz_callV (d' := (D + 7)) (M' := mX5_readE) (As := [fz_i (L + 1)]) (st := []) kX5_readO rfl rfl vX5_readE rfl rfl rfl rfl (Nat.le_of_ble_eq_true rfl) (Nat.le_of_ble_eq_true rfl) (by omega) (ihE H29 hI33  (by omega)) (fun H148 r149 q150 o151 => ?_)
          obtain ⟨hI152, hf153, rfl, f154, f155, f156⟩ := q150
          clear o151
          have hf157 := fz_fr_tr hf38 hf153 (show fz_su [(20, 3), (20, 4), (21, 4), (22, 99999), (23, 99999)] [(20, 3), (20, 4), (21, 4), (22, 99999), (23, 99999)] = true from rfl)
          refine fz_aload_n kX5_readO rfl rfl ?_
          refine fz_aload_n kX5_readO rfl rfl ?_
          have k158 : 0 ≤ H148 20 4 ∧ H148 20 4 ≤ 1 := hI152.1 20 _
          obtain ⟨v159, e160⟩ : ∃ z, H148 20 (4) = z := ⟨_, rfl⟩
          refine fz_getV (v := v159) kX5_readO rfl rfl e160 ?_
          have b161 : 0 ≤ v159 ∧ v159 ≤ 1 := by rw [← e160]; exact hI152.1 20 _
          refine fz_if_ne (tgt := 104) kX5_readO rfl (by decide) (fun c162 => ?_) (fun c162 => ?_)
          · refine fz_iconst ⟨by decide, by decide⟩ kX5_readO rfl ?_
            refine fz_goto (tgt := 109) kX5_readO rfl (by decide) ?_
            refine fz_putZ kX5_readO rfl rfl rfl (by omega) ?_
            refine fz_nmu (S := [(20, 3), (20, 4), (21, 4), (22, 99999), (23, 99999)]) (h0 := h) (fz_Iv_up hI152 (by decide) (show (0 : Int) ≤ 1 by decide) (show (1 : Int) ≤ 1 by decide)) (fz_fr_up hf157 rfl) (fun H163 hI164 hf165 e166 => ?_)
            have k167 : H163 20 4 = 1 := by rw [e166]; exact fz_up_e
            have t168 : H163 20 3 = H148 20 3 := by rw [e166]; exact fz_up_s (by decide)
            have t169 : H163 21 4 = H148 21 4 := by rw [e166]; exact fz_up_o (by decide)
            refine fz_goto (tgt := 180) kX5_readO rfl (by decide) ?_
            exact fz_vret kX5_readO rfl rfl ⟨hI164, hf165, rfl, (by omega), (by omega), (by first | exact fl_O_num f12 ⟨by omega, by omega⟩ lost (lost 20 4 rfl) | exact fl_O_nam f12 f24 (by omega) (by omega) lost rfl lost (by omega) (lost 20 3 rfl) (lost 20 4 rfl) | exact fl_O_un (k := k) f12 f24 (by omega) (by omega) (Or.inr ⟨by omega, rfl, rfl⟩) (by omega) (by omega) (by omega) (funext fun s => (lost 22 s rfl).trans ((lost 22 s rfl).trans (hf34 22 s rfl))) (funext fun s => (lost 23 s rfl).trans ((lost 23 s rfl).trans (hf34 23 s rfl))) (by omega) (fl_gC_e (funext fun s => (lost 26 s rfl).trans ((lost 26 s rfl).trans (hf34 26 s rfl))) ((lost 20 2 rfl).trans ((lost 20 2 rfl).trans (hf34 20 2 rfl)))) f156 lost (by omega) (lost 20 3 rfl) (lost 20 4 rfl) | exact fl_O_un (k := k) f12 f24 (by omega) (by omega) (Or.inl ⟨by omega, rfl, rfl⟩) (by omega) (by omega) (by omega) (funext fun s => (lost 22 s rfl).trans (hf34 22 s rfl)) (funext fun s => (lost 23 s rfl).trans (hf34 23 s rfl)) (by omega) (fl_gC_e (funext fun s => (lost 26 s rfl).trans (hf34 26 s rfl)) ((lost 20 2 rfl).trans (hf34 20 2 rfl))) f156 lost (by omega) (lost 20 3 rfl) (lost 20 4 rfl) | exact fl_O_par (k := k) f12 f24 (by omega) (by omega) (by omega) (by omega) (hf34 20 4 rfl) (hf34 21 4 rfl) (funext fun s => hf34 22 s rfl) (funext fun s => hf34 23 s rfl) (fl_gC_e (funext fun s => hf34 26 s rfl) (hf34 20 2 rfl)) f156 (fl_gC_e (funext fun s => (hf153 26 s rfl).trans (hf34 26 s rfl)) ((hf153 20 2 rfl).trans (hf34 20 2 rfl))) (Or.inr (Or.inl ⟨by omega, by omega, by omega, by omega⟩)) (by rw [e166]; exact (fz_up_o (by decide)).trans (lost 21 4 rfl)) (by rw [e166, fz_up_ne (by decide)]; exact (funext fun s => lost 22 s rfl)) (by rw [e166, fz_up_ne (by decide)]; exact (funext fun s => lost 23 s rfl)) | exact fl_O_par (k := k) f12 f24 (by omega) (by omega) (by omega) (by omega) (hf34 20 4 rfl) (hf34 21 4 rfl) (funext fun s => hf34 22 s rfl) (funext fun s => hf34 23 s rfl) (fl_gC_e (funext fun s => hf34 26 s rfl) (hf34 20 2 rfl)) f156 (fl_gC_e (funext fun s => (hf153 26 s rfl).trans (hf34 26 s rfl)) ((hf153 20 2 rfl).trans (hf34 20 2 rfl))) (Or.inr (Or.inr ⟨by omega, by omega, by omega, by omega⟩)) (by rw [e166]; exact (fz_up_o (by decide)).trans (lost 21 4 rfl)) (by rw [e166, fz_up_ne (by decide)]; exact (funext fun s => lost 22 s rfl)) (by rw [e166, fz_up_ne (by decide)]; exact (funext fun s => lost 23 s rfl)) | exact fl_O_par (k := k) f12 f24 (by omega) (by omega) (by omega) (by omega) (hf34 20 4 rfl) (hf34 21 4 rfl) (funext fun s => hf34 22 s rfl) (funext fun s => hf34 23 s rfl) (fl_gC_e (funext fun s => hf34 26 s rfl) (hf34 20 2 rfl)) f156 (fl_gC_e (funext fun s => (hf153 26 s rfl).trans (hf34 26 s rfl)) ((hf153 20 2 rfl).trans (hf34 20 2 rfl))) (Or.inl ⟨by omega, by omega, by omega⟩) (by rw [e166]; exact fz_up_o (by decide)) (by rw [e166]; exact fz_up_ne (by decide)) (by rw [e166]; exact fz_up_ne (by decide)) | exact fl_O_f0 f12 f24 (by omega) (by omega) (Or.inr ⟨by omega, by omega, by omega⟩) (by omega) (by omega))⟩
          · refine fz_aload_n kX5_readO rfl rfl ?_
            refine fz_bipush ⟨by decide, by decide⟩ kX5_readO rfl ?_
            have b171 : 0 ≤ H148 20 3 ∧ H148 20 3 ≤ 120 := hI152.1 20 _
            have e172 : H148 20 2 = h 20 2 := hf157 20 2 rfl
            refine fz_callV (d' := 1) (M' := mX5_goesOnWith) (As := [fz_i 41]) (st := [fz_r 20]) kX5_readO rfl rfl vX5_goesOnWith rfl rfl rfl rfl (Nat.le_of_ble_eq_true rfl) (Nat.le_of_ble_eq_true rfl) (by omega) (sX5_goesOnWith H148 hI152 41 (by omega)) (fun H173 r174 q175 o176 => ?_)
            obtain ⟨hI177, hf178, y180, rfl, p181, f179⟩ := q175
            clear o176
            have hf182 := fz_fr_tr hf157 hf178 (show fz_su [(20, 3)] [(20, 3), (20, 4), (21, 4), (22, 99999), (23, 99999)] = true from rfl)
            have k183 : H173 20 4 = v159 := (hf178 20 4 rfl).trans e160
            have t184 : H173 20 4 = H148 20 4 := hf178 20 4 rfl
            have t185 : H173 21 4 = H148 21 4 := hf178 21 4 rfl
            refine fz_if_ne (tgt := 108) kX5_readO rfl (by decide) (fun c186 => ?_) (fun c186 => ?_)
            · refine fz_iconst ⟨by decide, by decide⟩ kX5_readO rfl ?_
              refine fz_putZ kX5_readO rfl rfl rfl (by omega) ?_
              refine fz_nmu (S := [(20, 3), (20, 4), (21, 4), (22, 99999), (23, 99999)]) (h0 := h) (fz_Iv_up hI177 (by decide) (show (0 : Int) ≤ 0 by decide) (show (0 : Int) ≤ 1 by decide)) (fz_fr_up hf182 rfl) (fun H187 hI188 hf189 e190 => ?_)
              have k191 : H187 20 4 = 0 := by rw [e190]; exact fz_up_e
              have t192 : H187 20 3 = H173 20 3 := by rw [e190]; exact fz_up_s (by decide)
              have t193 : H187 21 4 = H173 21 4 := by rw [e190]; exact fz_up_o (by decide)
              refine fz_goto (tgt := 180) kX5_readO rfl (by decide) ?_
              exact fz_vret kX5_readO rfl rfl ⟨hI188, hf189, rfl, (by omega), (by omega), (by first | exact fl_O_num f12 ⟨by omega, by omega⟩ lost (lost 20 4 rfl) | exact fl_O_nam f12 f24 (by omega) (by omega) lost rfl lost (by omega) (lost 20 3 rfl) (lost 20 4 rfl) | exact fl_O_un (k := k) f12 f24 (by omega) (by omega) (Or.inr ⟨by omega, rfl, rfl⟩) (by omega) (by omega) (by omega) (funext fun s => (lost 22 s rfl).trans ((lost 22 s rfl).trans (hf34 22 s rfl))) (funext fun s => (lost 23 s rfl).trans ((lost 23 s rfl).trans (hf34 23 s rfl))) (by omega) (fl_gC_e (funext fun s => (lost 26 s rfl).trans ((lost 26 s rfl).trans (hf34 26 s rfl))) ((lost 20 2 rfl).trans ((lost 20 2 rfl).trans (hf34 20 2 rfl)))) f156 lost (by omega) (lost 20 3 rfl) (lost 20 4 rfl) | exact fl_O_un (k := k) f12 f24 (by omega) (by omega) (Or.inl ⟨by omega, rfl, rfl⟩) (by omega) (by omega) (by omega) (funext fun s => (lost 22 s rfl).trans (hf34 22 s rfl)) (funext fun s => (lost 23 s rfl).trans (hf34 23 s rfl)) (by omega) (fl_gC_e (funext fun s => (lost 26 s rfl).trans (hf34 26 s rfl)) ((lost 20 2 rfl).trans (hf34 20 2 rfl))) f156 lost (by omega) (lost 20 3 rfl) (lost 20 4 rfl) | exact fl_O_par (k := k) f12 f24 (by omega) (by omega) (by omega) (by omega) (hf34 20 4 rfl) (hf34 21 4 rfl) (funext fun s => hf34 22 s rfl) (funext fun s => hf34 23 s rfl) (fl_gC_e (funext fun s => hf34 26 s rfl) (hf34 20 2 rfl)) f156 (fl_gC_e (funext fun s => (hf153 26 s rfl).trans (hf34 26 s rfl)) ((hf153 20 2 rfl).trans (hf34 20 2 rfl))) (Or.inr (Or.inl ⟨by omega, by omega, by omega, by omega⟩)) (by rw [e190]; exact (fz_up_o (by decide)).trans (hf178 21 4 rfl)) (by rw [e190, fz_up_ne (by decide)]; exact (funext fun s => hf178 22 s rfl)) (by rw [e190, fz_up_ne (by decide)]; exact (funext fun s => hf178 23 s rfl)) | exact fl_O_par (k := k) f12 f24 (by omega) (by omega) (by omega) (by omega) (hf34 20 4 rfl) (hf34 21 4 rfl) (funext fun s => hf34 22 s rfl) (funext fun s => hf34 23 s rfl) (fl_gC_e (funext fun s => hf34 26 s rfl) (hf34 20 2 rfl)) f156 (fl_gC_e (funext fun s => (hf153 26 s rfl).trans (hf34 26 s rfl)) ((hf153 20 2 rfl).trans (hf34 20 2 rfl))) (Or.inr (Or.inr ⟨by omega, by omega, by omega, by omega⟩)) (by rw [e190]; exact (fz_up_o (by decide)).trans (hf178 21 4 rfl)) (by rw [e190, fz_up_ne (by decide)]; exact (funext fun s => hf178 22 s rfl)) (by rw [e190, fz_up_ne (by decide)]; exact (funext fun s => hf178 23 s rfl)) | exact fl_O_par (k := k) f12 f24 (by omega) (by omega) (by omega) (by omega) (hf34 20 4 rfl) (hf34 21 4 rfl) (funext fun s => hf34 22 s rfl) (funext fun s => hf34 23 s rfl) (fl_gC_e (funext fun s => hf34 26 s rfl) (hf34 20 2 rfl)) f156 (fl_gC_e (funext fun s => (hf153 26 s rfl).trans (hf34 26 s rfl)) ((hf153 20 2 rfl).trans (hf34 20 2 rfl))) (Or.inl ⟨by omega, by omega, by omega⟩) (by rw [e190]; exact fz_up_o (by decide)) (by rw [e190]; exact fz_up_ne (by decide)) (by rw [e190]; exact fz_up_ne (by decide)) | exact fl_O_f0 f12 f24 (by omega) (by omega) (Or.inr ⟨by omega, by omega, by omega⟩) (by omega) (by omega))⟩
            · refine fz_iconst ⟨by decide, by decide⟩ kX5_readO rfl ?_
              refine fz_goto (tgt := 109) kX5_readO rfl (by decide) ?_
              refine fz_putZ kX5_readO rfl rfl rfl (by omega) ?_
              refine fz_nmu (S := [(20, 3), (20, 4), (21, 4), (22, 99999), (23, 99999)]) (h0 := h) (fz_Iv_up hI177 (by decide) (show (0 : Int) ≤ 1 by decide) (show (1 : Int) ≤ 1 by decide)) (fz_fr_up hf182 rfl) (fun H195 hI196 hf197 e198 => ?_)
              have k199 : H195 20 4 = 1 := by rw [e198]; exact fz_up_e
              have t200 : H195 20 3 = H173 20 3 := by rw [e198]; exact fz_up_s (by decide)
              have t201 : H195 21 4 = H173 21 4 := by rw [e198]; exact fz_up_o (by decide)
              refine fz_goto (tgt := 180) kX5_readO rfl (by decide) ?_
              exact fz_vret kX5_readO rfl rfl ⟨hI196, hf197, rfl, (by omega), (by omega), (by first | exact fl_O_num f12 ⟨by omega, by omega⟩ lost (lost 20 4 rfl) | exact fl_O_nam f12 f24 (by omega) (by omega) lost rfl lost (by omega) (lost 20 3 rfl) (lost 20 4 rfl) | exact fl_O_un (k := k) f12 f24 (by omega) (by omega) (Or.inr ⟨by omega, rfl, rfl⟩) (by omega) (by omega) (by omega) (funext fun s => (lost 22 s rfl).trans ((lost 22 s rfl).trans (hf34 22 s rfl))) (funext fun s => (lost 23 s rfl).trans ((lost 23 s rfl).trans (hf34 23 s rfl))) (by omega) (fl_gC_e (funext fun s => (lost 26 s rfl).trans ((lost 26 s rfl).trans (hf34 26 s rfl))) ((lost 20 2 rfl).trans ((lost 20 2 rfl).trans (hf34 20 2 rfl)))) f156 lost (by omega) (lost 20 3 rfl) (lost 20 4 rfl) | exact fl_O_un (k := k) f12 f24 (by omega) (by omega) (Or.inl ⟨by omega, rfl, rfl⟩) (by omega) (by omega) (by omega) (funext fun s => (lost 22 s rfl).trans (hf34 22 s rfl)) (funext fun s => (lost 23 s rfl).trans (hf34 23 s rfl)) (by omega) (fl_gC_e (funext fun s => (lost 26 s rfl).trans (hf34 26 s rfl)) ((lost 20 2 rfl).trans (hf34 20 2 rfl))) f156 lost (by omega) (lost 20 3 rfl) (lost 20 4 rfl) | exact fl_O_par (k := k) f12 f24 (by omega) (by omega) (by omega) (by omega) (hf34 20 4 rfl) (hf34 21 4 rfl) (funext fun s => hf34 22 s rfl) (funext fun s => hf34 23 s rfl) (fl_gC_e (funext fun s => hf34 26 s rfl) (hf34 20 2 rfl)) f156 (fl_gC_e (funext fun s => (hf153 26 s rfl).trans (hf34 26 s rfl)) ((hf153 20 2 rfl).trans (hf34 20 2 rfl))) (Or.inr (Or.inl ⟨by omega, by omega, by omega, by omega⟩)) (by rw [e198]; exact (fz_up_o (by decide)).trans (hf178 21 4 rfl)) (by rw [e198, fz_up_ne (by decide)]; exact (funext fun s => hf178 22 s rfl)) (by rw [e198, fz_up_ne (by decide)]; exact (funext fun s => hf178 23 s rfl)) | exact fl_O_par (k := k) f12 f24 (by omega) (by omega) (by omega) (by omega) (hf34 20 4 rfl) (hf34 21 4 rfl) (funext fun s => hf34 22 s rfl) (funext fun s => hf34 23 s rfl) (fl_gC_e (funext fun s => hf34 26 s rfl) (hf34 20 2 rfl)) f156 (fl_gC_e (funext fun s => (hf153 26 s rfl).trans (hf34 26 s rfl)) ((hf153 20 2 rfl).trans (hf34 20 2 rfl))) (Or.inr (Or.inr ⟨by omega, by omega, by omega, by omega⟩)) (by rw [e198]; exact (fz_up_o (by decide)).trans (hf178 21 4 rfl)) (by rw [e198, fz_up_ne (by decide)]; exact (funext fun s => hf178 22 s rfl)) (by rw [e198, fz_up_ne (by decide)]; exact (funext fun s => hf178 23 s rfl)) | exact fl_O_par (k := k) f12 f24 (by omega) (by omega) (by omega) (by omega) (hf34 20 4 rfl) (hf34 21 4 rfl) (funext fun s => hf34 22 s rfl) (funext fun s => hf34 23 s rfl) (fl_gC_e (funext fun s => hf34 26 s rfl) (hf34 20 2 rfl)) f156 (fl_gC_e (funext fun s => (hf153 26 s rfl).trans (hf34 26 s rfl)) ((hf153 20 2 rfl).trans (hf34 20 2 rfl))) (Or.inl ⟨by omega, by omega, by omega⟩) (by rw [e198]; exact fz_up_o (by decide)) (by rw [e198]; exact fz_up_ne (by decide)) (by rw [e198]; exact fz_up_ne (by decide)) | exact fl_O_f0 f12 f24 (by omega) (by omega) (Or.inr ⟨by omega, by omega, by omega⟩) (by omega) (by omega))⟩
      · exfalso; omega
    · refine fz_aload_n kX5_readO rfl rfl ?_
      refine fz_dup rfl kX5_readO rfl ?_
      refine fz_getV (v := h 20 3) kX5_readO rfl rfl rfl ?_
      have b203 : 0 ≤ h 20 3 ∧ h 20 3 ≤ 120 := hI.1 20 _
      refine fz_iconst ⟨by decide, by decide⟩ kX5_readO rfl ?_
      refine fz_iaddN kX5_readO rfl (by omega) ?_
      refine fz_putI kX5_readO rfl rfl rfl ?_
      refine fz_nmu (S := [(20, 3), (20, 4), (21, 4), (22, 99999), (23, 99999)]) (h0 := h) (fz_Iv_up hI (by decide) (show (0 : Int) ≤ ((h 20 3) + 1) by omega) (show (((h 20 3) + 1) : Int) ≤ 120 by omega)) (fz_fr_up hf rfl) (fun H204 hI205 hf206 e207 => ?_)
      have k208 : H204 20 4 = (h 20 4) := by rw [e207]; exact (fz_up_s (by decide)).trans rfl
      have k209 : H204 21 4 = (h 21 4) := by rw [e207]; exact (fz_up_o (by decide)).trans rfl
      have k210 : H204 20 3 = ((h 20 3) + 1) := by rw [e207]; exact fz_up_e
      have t211 : H204 20 4 = h 20 4 := by rw [e207]; exact fz_up_s (by decide)
      have t212 : H204 21 4 = h 21 4 := by rw [e207]; exact fz_up_o (by decide)
      refine fz_aload_n kX5_readO rfl rfl ?_
      refine fz_getR (t := 21) kX5_readO rfl rfl ?_
      refine fz_bipush ⟨by decide, by decide⟩ kX5_readO rfl ?_
      refine fz_iload_n kX5_readO rfl rfl ?_
      have b213 : 0 ≤ H204 21 4 ∧ H204 21 4 ≤ 128 := hI205.1 21 _
      refine fz_callV (d' := 0) (M' := mX3_add) (As := [fz_i 64, fz_i y25]) (st := []) kX5_readO rfl rfl vX3_add rfl rfl rfl rfl (Nat.le_of_ble_eq_true rfl) (Nat.le_of_ble_eq_true rfl) (by omega) (sX3_add H204 hI205 64 y25 ) (fun H214 r215 q216 o217 => ?_)
      obtain ⟨hI218, hf219, y223, rfl, f220, f221, f222⟩ := q216
      clear o217
      have hf224 := fz_fr_tr hf206 hf219 (show fz_su [(21, 4), (22, 99999), (23, 99999)] [(20, 3), (20, 4), (21, 4), (22, 99999), (23, 99999)] = true from rfl)
      have k225 : H214 20 4 = (h 20 4) := (hf219 20 4 rfl).trans k208
      have k226 : H214 20 3 = ((h 20 3) + 1) := (hf219 20 3 rfl).trans k210
      have t227 : H214 20 3 = H204 20 3 := hf219 20 3 rfl
      have t228 : H214 20 4 = H204 20 4 := hf219 20 4 rfl
      refine fz_pop rfl kX5_readO rfl ?_
      refine fz_goto (tgt := 180) kX5_readO rfl (by decide) ?_
      exact fz_vret kX5_readO rfl rfl ⟨hI218, hf224, rfl, (by omega), (by omega), (by first | exact fl_O_num f12 ⟨by omega, by omega⟩ lost (lost 20 4 rfl) | exact fl_O_nam f12 f24 (by omega) (by omega) e207 rfl f222 (by omega) (hf219 20 3 rfl) (hf219 20 4 rfl) | exact fl_O_un (k := k) f12 f24 (by omega) (by omega) (Or.inr ⟨by omega, rfl, rfl⟩) (by omega) (by omega) (by omega) (funext fun s => (lost 22 s rfl).trans ((lost 22 s rfl).trans (lost 22 s rfl))) (funext fun s => (lost 23 s rfl).trans ((lost 23 s rfl).trans (lost 23 s rfl))) (by omega) (fl_gC_e (funext fun s => (lost 26 s rfl).trans ((lost 26 s rfl).trans (lost 26 s rfl))) ((lost 20 2 rfl).trans ((lost 20 2 rfl).trans (lost 20 2 rfl)))) lost f222 (by omega) (lost 20 3 rfl) (lost 20 4 rfl) | exact fl_O_un (k := k) f12 f24 (by omega) (by omega) (Or.inl ⟨by omega, rfl, rfl⟩) (by omega) (by omega) (by omega) (funext fun s => (lost 22 s rfl).trans (lost 22 s rfl)) (funext fun s => (lost 23 s rfl).trans (lost 23 s rfl)) (by omega) (fl_gC_e (funext fun s => (lost 26 s rfl).trans (lost 26 s rfl)) ((lost 20 2 rfl).trans (lost 20 2 rfl))) lost f222 (by omega) (lost 20 3 rfl) (lost 20 4 rfl) | exact fl_O_par (k := k) f12 f24 (by omega) (by omega) (by omega) (by omega) (lost 20 4 rfl) (lost 21 4 rfl) (funext fun s => lost 22 s rfl) (funext fun s => lost 23 s rfl) (fl_gC_e (funext fun s => lost 26 s rfl) (lost 20 2 rfl)) lost (fl_gC_e (funext fun s => (lost 26 s rfl).trans (lost 26 s rfl)) ((lost 20 2 rfl).trans (lost 20 2 rfl))) (Or.inr (Or.inl ⟨by omega, by omega, by omega, by omega⟩)) (by rw [lost]; exact (fz_up_o (by decide)).trans (lost 21 4 rfl)) (by rw [lost, fz_up_ne (by decide)]; exact (funext fun s => lost 22 s rfl)) (by rw [lost, fz_up_ne (by decide)]; exact (funext fun s => lost 23 s rfl)) | exact fl_O_par (k := k) f12 f24 (by omega) (by omega) (by omega) (by omega) (lost 20 4 rfl) (lost 21 4 rfl) (funext fun s => lost 22 s rfl) (funext fun s => lost 23 s rfl) (fl_gC_e (funext fun s => lost 26 s rfl) (lost 20 2 rfl)) lost (fl_gC_e (funext fun s => (lost 26 s rfl).trans (lost 26 s rfl)) ((lost 20 2 rfl).trans (lost 20 2 rfl))) (Or.inr (Or.inr ⟨by omega, by omega, by omega, by omega⟩)) (by rw [lost]; exact (fz_up_o (by decide)).trans (lost 21 4 rfl)) (by rw [lost, fz_up_ne (by decide)]; exact (funext fun s => lost 22 s rfl)) (by rw [lost, fz_up_ne (by decide)]; exact (funext fun s => lost 23 s rfl)) | exact fl_O_par (k := k) f12 f24 (by omega) (by omega) (by omega) (by omega) (lost 20 4 rfl) (lost 21 4 rfl) (funext fun s => lost 22 s rfl) (funext fun s => lost 23 s rfl) (fl_gC_e (funext fun s => lost 26 s rfl) (lost 20 2 rfl)) lost (fl_gC_e (funext fun s => (lost 26 s rfl).trans (lost 26 s rfl)) ((lost 20 2 rfl).trans (lost 20 2 rfl))) (Or.inl ⟨by omega, by omega, by omega⟩) (by rw [lost]; exact fz_up_o (by decide)) (by rw [lost]; exact fz_up_ne (by decide)) (by rw [lost]; exact fz_up_ne (by decide)) | exact fl_O_f0 f12 f24 (by omega) (by omega) (Or.inr ⟨by omega, by omega, by omega⟩) (by omega) (by omega))⟩
  · refine fz_iload_n kX5_readO rfl rfl ?_
    refine fz_bipush ⟨by decide, by decide⟩ kX5_readO rfl ?_
    refine fz_icmp_gt (tgt := 29) kX5_readO rfl (by decide) (fun c230 => ?_) (fun c230 => ?_)
    · refine fz_iload_n kX5_readO rfl rfl ?_
      refine fz_if_lt (tgt := 57) kX5_readO rfl (by decide) (fun c231 => ?_) (fun c231 => ?_)
      · refine fz_iload_n kX5_readO rfl rfl ?_
        refine fz_bipush ⟨by decide, by decide⟩ kX5_readO rfl ?_
        refine fz_icmp_lt (tgt := 71) kX5_readO rfl (by decide) (fun c232 => ?_) (fun c232 => ?_)
        · refine fz_aload_n kX5_readO rfl rfl ?_
          refine fz_bipush ⟨by decide, by decide⟩ kX5_readO rfl ?_
          refine fz_callV (d' := 1) (M' := mX5_goesOnWith) (As := [fz_i 40]) (st := []) kX5_readO rfl rfl vX5_goesOnWith rfl rfl rfl rfl (Nat.le_of_ble_eq_true rfl) (Nat.le_of_ble_eq_true rfl) (by omega) (sX5_goesOnWith h hI 40 (by omega)) (fun H233 r234 q235 o236 => ?_)
          obtain ⟨hI237, hf238, y240, rfl, p241, f239⟩ := q235
          clear o236
          have hf242 := fz_fr_tr hf hf238 (show fz_su [(20, 3)] [(20, 3), (20, 4), (21, 4), (22, 99999), (23, 99999)] = true from rfl)
          have k243 : H233 20 4 = (h 20 4) := (hf238 20 4 rfl).trans rfl
          have k244 : H233 21 4 = (h 21 4) := (hf238 21 4 rfl).trans rfl
          have t245 : H233 20 4 = h 20 4 := hf238 20 4 rfl
          have t246 : H233 21 4 = h 21 4 := hf238 21 4 rfl
          refine fz_if_eq (tgt := 115) kX5_readO rfl (by decide) (fun c247 => ?_) (fun c247 => ?_)
          · refine fz_aload_n kX5_readO rfl rfl ?_
            refine fz_bipush ⟨by decide, by decide⟩ kX5_readO rfl ?_
            have b248 : 0 ≤ H233 20 3 ∧ H233 20 3 ≤ 120 := hI237.1 20 _
            have e249 : H233 20 2 = h 20 2 := hf242 20 2 rfl
            refine fz_callV (d' := 1) (M' := mX5_goesOnWith) (As := [fz_i 33]) (st := []) kX5_readO rfl rfl vX5_goesOnWith rfl rfl rfl rfl (Nat.le_of_ble_eq_true rfl) (Nat.le_of_ble_eq_true rfl) (by omega) (sX5_goesOnWith H233 hI237 33 (by omega)) (fun H250 r251 q252 o253 => ?_)
            obtain ⟨hI254, hf255, y257, rfl, p258, f256⟩ := q252
            clear o253
            have hf259 := fz_fr_tr hf242 hf255 (show fz_su [(20, 3)] [(20, 3), (20, 4), (21, 4), (22, 99999), (23, 99999)] = true from rfl)
            have k260 : H250 20 4 = (h 20 4) := (hf255 20 4 rfl).trans k243
            have k261 : H250 21 4 = (h 21 4) := (hf255 21 4 rfl).trans k244
            have t262 : H250 20 4 = H233 20 4 := hf255 20 4 rfl
            have t263 : H250 21 4 = H233 21 4 := hf255 21 4 rfl
            refine fz_if_eq (tgt := 145) kX5_readO rfl (by decide) (fun c264 => ?_) (fun c264 => ?_)
            · refine fz_aload_n kX5_readO rfl rfl ?_
              refine fz_bipush ⟨by decide, by decide⟩ kX5_readO rfl ?_
              have b265 : 0 ≤ H250 20 3 ∧ H250 20 3 ≤ 120 := hI254.1 20 _
              have e266 : H250 20 2 = h 20 2 := hf259 20 2 rfl
              refine fz_callV (d' := 1) (M' := mX5_goesOnWith) (As := [fz_i 45]) (st := []) kX5_readO rfl rfl vX5_goesOnWith rfl rfl rfl rfl (Nat.le_of_ble_eq_true rfl) (Nat.le_of_ble_eq_true rfl) (by omega) (sX5_goesOnWith H250 hI254 45 (by omega)) (fun H267 r268 q269 o270 => ?_)
              obtain ⟨hI271, hf272, y274, rfl, p275, f273⟩ := q269
              clear o270
              have hf276 := fz_fr_tr hf259 hf272 (show fz_su [(20, 3)] [(20, 3), (20, 4), (21, 4), (22, 99999), (23, 99999)] = true from rfl)
              have k277 : H267 20 4 = (h 20 4) := (hf272 20 4 rfl).trans k260
              have k278 : H267 21 4 = (h 21 4) := (hf272 21 4 rfl).trans k261
              have t279 : H267 20 4 = H250 20 4 := hf272 20 4 rfl
              have t280 : H267 21 4 = H250 21 4 := hf272 21 4 rfl
              refine fz_if_eq (tgt := 175) kX5_readO rfl (by decide) (fun c281 => ?_) (fun c281 => ?_)
              · refine fz_aload_n kX5_readO rfl rfl ?_
                refine fz_iconst ⟨by decide, by decide⟩ kX5_readO rfl ?_
                refine fz_putZ kX5_readO rfl rfl rfl (by omega) ?_
                refine fz_nmu (S := [(20, 3), (20, 4), (21, 4), (22, 99999), (23, 99999)]) (h0 := h) (fz_Iv_up hI271 (by decide) (show (0 : Int) ≤ 1 by decide) (show (1 : Int) ≤ 1 by decide)) (fz_fr_up hf276 rfl) (fun H282 hI283 hf284 e285 => ?_)
                have k286 : H282 21 4 = (h 21 4) := by rw [e285]; exact (fz_up_o (by decide)).trans k278
                have k287 : H282 20 4 = 1 := by rw [e285]; exact fz_up_e
                have t288 : H282 20 3 = H267 20 3 := by rw [e285]; exact fz_up_s (by decide)
                have t289 : H282 21 4 = H267 21 4 := by rw [e285]; exact fz_up_o (by decide)
                exact fz_vret kX5_readO rfl rfl ⟨hI283, hf284, rfl, (by omega), (by omega), (by first | exact fl_O_num f12 ⟨by omega, by omega⟩ lost (lost 20 4 rfl) | exact fl_O_nam f12 f24 (by omega) (by omega) lost rfl lost (by omega) (lost 20 3 rfl) (lost 20 4 rfl) | exact fl_O_un (k := k) f12 f24 (by omega) (by omega) (Or.inr ⟨by omega, rfl, rfl⟩) (by omega) (by omega) (by omega) (funext fun s => (hf272 22 s rfl).trans ((hf255 22 s rfl).trans (hf238 22 s rfl))) (funext fun s => (hf272 23 s rfl).trans ((hf255 23 s rfl).trans (hf238 23 s rfl))) (by omega) (fl_gC_e (funext fun s => (hf272 26 s rfl).trans ((hf255 26 s rfl).trans (hf238 26 s rfl))) ((hf272 20 2 rfl).trans ((hf255 20 2 rfl).trans (hf238 20 2 rfl)))) lost lost (by omega) (lost 20 3 rfl) (lost 20 4 rfl) | exact fl_O_un (k := k) f12 f24 (by omega) (by omega) (Or.inl ⟨by omega, rfl, rfl⟩) (by omega) (by omega) (by omega) (funext fun s => (hf255 22 s rfl).trans (hf238 22 s rfl)) (funext fun s => (hf255 23 s rfl).trans (hf238 23 s rfl)) (by omega) (fl_gC_e (funext fun s => (hf255 26 s rfl).trans (hf238 26 s rfl)) ((hf255 20 2 rfl).trans (hf238 20 2 rfl))) lost lost (by omega) (lost 20 3 rfl) (lost 20 4 rfl) | exact fl_O_par (k := k) f12 f24 (by omega) (by omega) (by omega) (by omega) (hf238 20 4 rfl) (hf238 21 4 rfl) (funext fun s => hf238 22 s rfl) (funext fun s => hf238 23 s rfl) (fl_gC_e (funext fun s => hf238 26 s rfl) (hf238 20 2 rfl)) lost (fl_gC_e (funext fun s => (lost 26 s rfl).trans (hf238 26 s rfl)) ((lost 20 2 rfl).trans (hf238 20 2 rfl))) (Or.inr (Or.inl ⟨by omega, by omega, by omega, by omega⟩)) (by rw [lost]; exact (fz_up_o (by decide)).trans (lost 21 4 rfl)) (by rw [lost, fz_up_ne (by decide)]; exact (funext fun s => lost 22 s rfl)) (by rw [lost, fz_up_ne (by decide)]; exact (funext fun s => lost 23 s rfl)) | exact fl_O_par (k := k) f12 f24 (by omega) (by omega) (by omega) (by omega) (hf238 20 4 rfl) (hf238 21 4 rfl) (funext fun s => hf238 22 s rfl) (funext fun s => hf238 23 s rfl) (fl_gC_e (funext fun s => hf238 26 s rfl) (hf238 20 2 rfl)) lost (fl_gC_e (funext fun s => (lost 26 s rfl).trans (hf238 26 s rfl)) ((lost 20 2 rfl).trans (hf238 20 2 rfl))) (Or.inr (Or.inr ⟨by omega, by omega, by omega, by omega⟩)) (by rw [lost]; exact (fz_up_o (by decide)).trans (lost 21 4 rfl)) (by rw [lost, fz_up_ne (by decide)]; exact (funext fun s => lost 22 s rfl)) (by rw [lost, fz_up_ne (by decide)]; exact (funext fun s => lost 23 s rfl)) | exact fl_O_par (k := k) f12 f24 (by omega) (by omega) (by omega) (by omega) (hf238 20 4 rfl) (hf238 21 4 rfl) (funext fun s => hf238 22 s rfl) (funext fun s => hf238 23 s rfl) (fl_gC_e (funext fun s => hf238 26 s rfl) (hf238 20 2 rfl)) lost (fl_gC_e (funext fun s => (lost 26 s rfl).trans (hf238 26 s rfl)) ((lost 20 2 rfl).trans (hf238 20 2 rfl))) (Or.inl ⟨by omega, by omega, by omega⟩) (by rw [lost]; exact fz_up_o (by decide)) (by rw [lost]; exact fz_up_ne (by decide)) (by rw [lost]; exact fz_up_ne (by decide)) | exact fl_O_f0 f12 f24 (by omega) (by omega) (Or.inr ⟨by omega, by omega, by omega⟩) (by omega) (by omega))⟩
              · refine fz_aload_n kX5_readO rfl rfl ?_
                refine fz_iload_n kX5_readO rfl rfl ?_
                refine fz_iconst ⟨by decide, by decide⟩ kX5_readO rfl ?_
                refine fz_iaddN kX5_readO rfl (by omega) ?_
                refine fz_eqi (y := (L + 1)) (by omega) ?_
                have b291 : 0 ≤ H267 20 4 ∧ H267 20 4 ≤ 1 := hI271.1 20 _
                have b292 : 0 ≤ H267 21 4 ∧ H267 21 4 ≤ 128 := hI271.1 21 _
                have b293 : 0 ≤ H267 20 3 ∧ H267 20 3 ≤ 120 := hI271.1 20 _
                refine fz_callV (d' := (D + 2)) (M' := mX5_readO) (As := [fz_i (L + 1)]) (st := []) kX5_readO rfl rfl vX5_readO rfl rfl rfl rfl (Nat.le_of_ble_eq_true rfl) (Nat.le_of_ble_eq_true rfl) (by omega) (ihO H267 hI271  (by omega)) (fun H294 r295 q296 o297 => ?_)
                obtain ⟨hI298, hf299, rfl, f300, f301, f302⟩ := q296
                clear o297
                have hf303 := fz_fr_tr hf276 hf299 (show fz_su [(20, 3), (20, 4), (21, 4), (22, 99999), (23, 99999)] [(20, 3), (20, 4), (21, 4), (22, 99999), (23, 99999)] = true from rfl)
                have k304 : 0 ≤ H294 20 3 ∧ H294 20 3 ≤ 120 := hI298.1 20 _
                refine fz_aload_n kX5_readO rfl rfl ?_
                refine fz_getR (t := 21) kX5_readO rfl rfl ?_
                refine fz_bipush ⟨by decide, by decide⟩ kX5_readO rfl ?_
                refine fz_iconst ⟨by decide, by decide⟩ kX5_readO rfl ?_
                have b305 : 0 ≤ H294 21 4 ∧ H294 21 4 ≤ 128 := hI298.1 21 _
                refine fz_callV (d' := 0) (M' := mX3_add) (As := [fz_i 126, fz_i 0]) (st := []) kX5_readO rfl rfl vX3_add rfl rfl rfl rfl (Nat.le_of_ble_eq_true rfl) (Nat.le_of_ble_eq_true rfl) (by omega) (sX3_add H294 hI298 126 0 ) (fun H306 r307 q308 o309 => ?_)
                obtain ⟨hI310, hf311, y315, rfl, f312, f313, f314⟩ := q308
                clear o309
                have hf316 := fz_fr_tr hf303 hf311 (show fz_su [(21, 4), (22, 99999), (23, 99999)] [(20, 3), (20, 4), (21, 4), (22, 99999), (23, 99999)] = true from rfl)
                have t317 : H306 20 3 = H294 20 3 := hf311 20 3 rfl
                have t318 : H306 20 4 = H294 20 4 := hf311 20 4 rfl
                refine fz_pop rfl kX5_readO rfl ?_
                refine fz_goto (tgt := 180) kX5_readO rfl (by decide) ?_
                exact fz_vret kX5_readO rfl rfl ⟨hI310, hf316, rfl, (by omega), (by omega), (by first | exact fl_O_num f12 ⟨by omega, by omega⟩ lost (lost 20 4 rfl) | exact fl_O_nam f12 f24 (by omega) (by omega) lost rfl f314 (by omega) (lost 20 3 rfl) (lost 20 4 rfl) | exact fl_O_un (k := k) f12 f24 (by omega) (by omega) (Or.inr ⟨by omega, rfl, rfl⟩) (by omega) (by omega) (by omega) (funext fun s => (hf272 22 s rfl).trans ((hf255 22 s rfl).trans (hf238 22 s rfl))) (funext fun s => (hf272 23 s rfl).trans ((hf255 23 s rfl).trans (hf238 23 s rfl))) (by omega) (fl_gC_e (funext fun s => (hf272 26 s rfl).trans ((hf255 26 s rfl).trans (hf238 26 s rfl))) ((hf272 20 2 rfl).trans ((hf255 20 2 rfl).trans (hf238 20 2 rfl)))) f302 f314 (by omega) (hf311 20 3 rfl) (hf311 20 4 rfl) | exact fl_O_un (k := k) f12 f24 (by omega) (by omega) (Or.inl ⟨by omega, rfl, rfl⟩) (by omega) (by omega) (by omega) (funext fun s => (hf255 22 s rfl).trans (hf238 22 s rfl)) (funext fun s => (hf255 23 s rfl).trans (hf238 23 s rfl)) (by omega) (fl_gC_e (funext fun s => (hf255 26 s rfl).trans (hf238 26 s rfl)) ((hf255 20 2 rfl).trans (hf238 20 2 rfl))) f302 f314 (by omega) (lost 20 3 rfl) (lost 20 4 rfl) | exact fl_O_par (k := k) f12 f24 (by omega) (by omega) (by omega) (by omega) (hf238 20 4 rfl) (hf238 21 4 rfl) (funext fun s => hf238 22 s rfl) (funext fun s => hf238 23 s rfl) (fl_gC_e (funext fun s => hf238 26 s rfl) (hf238 20 2 rfl)) f302 (fl_gC_e (funext fun s => (lost 26 s rfl).trans (hf238 26 s rfl)) ((lost 20 2 rfl).trans (hf238 20 2 rfl))) (Or.inr (Or.inl ⟨by omega, by omega, by omega, by omega⟩)) (by rw [lost]; exact (fz_up_o (by decide)).trans (lost 21 4 rfl)) (by rw [lost, fz_up_ne (by decide)]; exact (funext fun s => lost 22 s rfl)) (by rw [lost, fz_up_ne (by decide)]; exact (funext fun s => lost 23 s rfl)) | exact fl_O_par (k := k) f12 f24 (by omega) (by omega) (by omega) (by omega) (hf238 20 4 rfl) (hf238 21 4 rfl) (funext fun s => hf238 22 s rfl) (funext fun s => hf238 23 s rfl) (fl_gC_e (funext fun s => hf238 26 s rfl) (hf238 20 2 rfl)) f302 (fl_gC_e (funext fun s => (lost 26 s rfl).trans (hf238 26 s rfl)) ((lost 20 2 rfl).trans (hf238 20 2 rfl))) (Or.inr (Or.inr ⟨by omega, by omega, by omega, by omega⟩)) (by rw [lost]; exact (fz_up_o (by decide)).trans (lost 21 4 rfl)) (by rw [lost, fz_up_ne (by decide)]; exact (funext fun s => lost 22 s rfl)) (by rw [lost, fz_up_ne (by decide)]; exact (funext fun s => lost 23 s rfl)) | exact fl_O_par (k := k) f12 f24 (by omega) (by omega) (by omega) (by omega) (hf238 20 4 rfl) (hf238 21 4 rfl) (funext fun s => hf238 22 s rfl) (funext fun s => hf238 23 s rfl) (fl_gC_e (funext fun s => hf238 26 s rfl) (hf238 20 2 rfl)) f302 (fl_gC_e (funext fun s => (lost 26 s rfl).trans (hf238 26 s rfl)) ((lost 20 2 rfl).trans (hf238 20 2 rfl))) (Or.inl ⟨by omega, by omega, by omega⟩) (by rw [lost]; exact fz_up_o (by decide)) (by rw [lost]; exact fz_up_ne (by decide)) (by rw [lost]; exact fz_up_ne (by decide)) | exact fl_O_f0 f12 f24 (by omega) (by omega) (Or.inr ⟨by omega, by omega, by omega⟩) (by omega) (by omega))⟩
            · refine fz_aload_n kX5_readO rfl rfl ?_
              refine fz_iload_n kX5_readO rfl rfl ?_
              refine fz_iconst ⟨by decide, by decide⟩ kX5_readO rfl ?_
              refine fz_iaddN kX5_readO rfl (by omega) ?_
              refine fz_eqi (y := (L + 1)) (by omega) ?_
              have b320 : 0 ≤ H250 20 4 ∧ H250 20 4 ≤ 1 := hI254.1 20 _
              have b321 : 0 ≤ H250 21 4 ∧ H250 21 4 ≤ 128 := hI254.1 21 _
              have b322 : 0 ≤ H250 20 3 ∧ H250 20 3 ≤ 120 := hI254.1 20 _
              refine fz_callV (d' := (D + 2)) (M' := mX5_readO) (As := [fz_i (L + 1)]) (st := []) kX5_readO rfl rfl vX5_readO rfl rfl rfl rfl (Nat.le_of_ble_eq_true rfl) (Nat.le_of_ble_eq_true rfl) (by omega) (ihO H250 hI254  (by omega)) (fun H323 r324 q325 o326 => ?_)
              obtain ⟨hI327, hf328, rfl, f329, f330, f331⟩ := q325
              clear o326
              have hf332 := fz_fr_tr hf259 hf328 (show fz_su [(20, 3), (20, 4), (21, 4), (22, 99999), (23, 99999)] [(20, 3), (20, 4), (21, 4), (22, 99999), (23, 99999)] = true from rfl)
              have k333 : 0 ≤ H323 20 3 ∧ H323 20 3 ≤ 120 := hI327.1 20 _
              refine fz_aload_n kX5_readO rfl rfl ?_
              refine fz_getR (t := 21) kX5_readO rfl rfl ?_
              refine fz_bipush ⟨by decide, by decide⟩ kX5_readO rfl ?_
              refine fz_iconst ⟨by decide, by decide⟩ kX5_readO rfl ?_
              have b334 : 0 ≤ H323 21 4 ∧ H323 21 4 ≤ 128 := hI327.1 21 _
              refine fz_callV (d' := 0) (M' := mX3_add) (As := [fz_i 33, fz_i 0]) (st := []) kX5_readO rfl rfl vX3_add rfl rfl rfl rfl (Nat.le_of_ble_eq_true rfl) (Nat.le_of_ble_eq_true rfl) (by omega) (sX3_add H323 hI327 33 0 ) (fun H335 r336 q337 o338 => ?_)
              obtain ⟨hI339, hf340, y344, rfl, f341, f342, f343⟩ := q337
              clear o338
              have hf345 := fz_fr_tr hf332 hf340 (show fz_su [(21, 4), (22, 99999), (23, 99999)] [(20, 3), (20, 4), (21, 4), (22, 99999), (23, 99999)] = true from rfl)
              have t346 : H335 20 3 = H323 20 3 := hf340 20 3 rfl
              have t347 : H335 20 4 = H323 20 4 := hf340 20 4 rfl
              refine fz_pop rfl kX5_readO rfl ?_
              refine fz_goto (tgt := 180) kX5_readO rfl (by decide) ?_
              exact fz_vret kX5_readO rfl rfl ⟨hI339, hf345, rfl, (by omega), (by omega), (by first | exact fl_O_num f12 ⟨by omega, by omega⟩ lost (lost 20 4 rfl) | exact fl_O_nam f12 f24 (by omega) (by omega) lost rfl f343 (by omega) (lost 20 3 rfl) (lost 20 4 rfl) | exact fl_O_un (k := k) f12 f24 (by omega) (by omega) (Or.inr ⟨by omega, rfl, rfl⟩) (by omega) (by omega) (by omega) (funext fun s => (lost 22 s rfl).trans ((hf255 22 s rfl).trans (hf238 22 s rfl))) (funext fun s => (lost 23 s rfl).trans ((hf255 23 s rfl).trans (hf238 23 s rfl))) (by omega) (fl_gC_e (funext fun s => (lost 26 s rfl).trans ((hf255 26 s rfl).trans (hf238 26 s rfl))) ((lost 20 2 rfl).trans ((hf255 20 2 rfl).trans (hf238 20 2 rfl)))) f331 f343 (by omega) (lost 20 3 rfl) (lost 20 4 rfl) | exact fl_O_un (k := k) f12 f24 (by omega) (by omega) (Or.inl ⟨by omega, rfl, rfl⟩) (by omega) (by omega) (by omega) (funext fun s => (hf255 22 s rfl).trans (hf238 22 s rfl)) (funext fun s => (hf255 23 s rfl).trans (hf238 23 s rfl)) (by omega) (fl_gC_e (funext fun s => (hf255 26 s rfl).trans (hf238 26 s rfl)) ((hf255 20 2 rfl).trans (hf238 20 2 rfl))) f331 f343 (by omega) (hf340 20 3 rfl) (hf340 20 4 rfl) | exact fl_O_par (k := k) f12 f24 (by omega) (by omega) (by omega) (by omega) (hf238 20 4 rfl) (hf238 21 4 rfl) (funext fun s => hf238 22 s rfl) (funext fun s => hf238 23 s rfl) (fl_gC_e (funext fun s => hf238 26 s rfl) (hf238 20 2 rfl)) f331 (fl_gC_e (funext fun s => (lost 26 s rfl).trans (hf238 26 s rfl)) ((lost 20 2 rfl).trans (hf238 20 2 rfl))) (Or.inr (Or.inl ⟨by omega, by omega, by omega, by omega⟩)) (by rw [lost]; exact (fz_up_o (by decide)).trans (lost 21 4 rfl)) (by rw [lost, fz_up_ne (by decide)]; exact (funext fun s => lost 22 s rfl)) (by rw [lost, fz_up_ne (by decide)]; exact (funext fun s => lost 23 s rfl)) | exact fl_O_par (k := k) f12 f24 (by omega) (by omega) (by omega) (by omega) (hf238 20 4 rfl) (hf238 21 4 rfl) (funext fun s => hf238 22 s rfl) (funext fun s => hf238 23 s rfl) (fl_gC_e (funext fun s => hf238 26 s rfl) (hf238 20 2 rfl)) f331 (fl_gC_e (funext fun s => (lost 26 s rfl).trans (hf238 26 s rfl)) ((lost 20 2 rfl).trans (hf238 20 2 rfl))) (Or.inr (Or.inr ⟨by omega, by omega, by omega, by omega⟩)) (by rw [lost]; exact (fz_up_o (by decide)).trans (lost 21 4 rfl)) (by rw [lost, fz_up_ne (by decide)]; exact (funext fun s => lost 22 s rfl)) (by rw [lost, fz_up_ne (by decide)]; exact (funext fun s => lost 23 s rfl)) | exact fl_O_par (k := k) f12 f24 (by omega) (by omega) (by omega) (by omega) (hf238 20 4 rfl) (hf238 21 4 rfl) (funext fun s => hf238 22 s rfl) (funext fun s => hf238 23 s rfl) (fl_gC_e (funext fun s => hf238 26 s rfl) (hf238 20 2 rfl)) f331 (fl_gC_e (funext fun s => (lost 26 s rfl).trans (hf238 26 s rfl)) ((lost 20 2 rfl).trans (hf238 20 2 rfl))) (Or.inl ⟨by omega, by omega, by omega⟩) (by rw [lost]; exact fz_up_o (by decide)) (by rw [lost]; exact fz_up_ne (by decide)) (by rw [lost]; exact fz_up_ne (by decide)) | exact fl_O_f0 f12 f24 (by omega) (by omega) (Or.inr ⟨by omega, by omega, by omega⟩) (by omega) (by omega))⟩
          · refine fz_aload_n kX5_readO rfl rfl ?_
            refine fz_iload_n kX5_readO rfl rfl ?_
            refine fz_iconst ⟨by decide, by decide⟩ kX5_readO rfl ?_
            refine fz_iaddN kX5_readO rfl (by omega) ?_
            refine fz_eqi (y := (L + 1)) (by omega) ?_
            have b349 : 0 ≤ H233 20 4 ∧ H233 20 4 ≤ 1 := hI237.1 20 _
            have b350 : 0 ≤ H233 21 4 ∧ H233 21 4 ≤ 128 := hI237.1 21 _
            have b351 : 0 ≤ H233 20 3 ∧ H233 20 3 ≤ 120 := hI237.1 20 _
            refine fz_callV (d' := (D + 7)) (M' := mX5_readE) (As := [fz_i (L + 1)]) (st := []) kX5_readO rfl rfl vX5_readE rfl rfl rfl rfl (Nat.le_of_ble_eq_true rfl) (Nat.le_of_ble_eq_true rfl) (by omega) (ihE H233 hI237  (by omega)) (fun H352 r353 q354 o355 => ?_)
            obtain ⟨hI356, hf357, rfl, f358, f359, f360⟩ := q354
            clear o355
            have hf361 := fz_fr_tr hf242 hf357 (show fz_su [(20, 3), (20, 4), (21, 4), (22, 99999), (23, 99999)] [(20, 3), (20, 4), (21, 4), (22, 99999), (23, 99999)] = true from rfl)
            refine fz_aload_n kX5_readO rfl rfl ?_
            refine fz_aload_n kX5_readO rfl rfl ?_
            have k362 : 0 ≤ H352 20 4 ∧ H352 20 4 ≤ 1 := hI356.1 20 _
            obtain ⟨v363, e364⟩ : ∃ z, H352 20 (4) = z := ⟨_, rfl⟩
            refine fz_getV (v := v363) kX5_readO rfl rfl e364 ?_
            have b365 : 0 ≤ v363 ∧ v363 ≤ 1 := by rw [← e364]; exact hI356.1 20 _
            refine fz_if_ne (tgt := 104) kX5_readO rfl (by decide) (fun c366 => ?_) (fun c366 => ?_)
            · refine fz_iconst ⟨by decide, by decide⟩ kX5_readO rfl ?_
              refine fz_goto (tgt := 109) kX5_readO rfl (by decide) ?_
              refine fz_putZ kX5_readO rfl rfl rfl (by omega) ?_
              refine fz_nmu (S := [(20, 3), (20, 4), (21, 4), (22, 99999), (23, 99999)]) (h0 := h) (fz_Iv_up hI356 (by decide) (show (0 : Int) ≤ 1 by decide) (show (1 : Int) ≤ 1 by decide)) (fz_fr_up hf361 rfl) (fun H367 hI368 hf369 e370 => ?_)
              have k371 : H367 20 4 = 1 := by rw [e370]; exact fz_up_e
              have t372 : H367 20 3 = H352 20 3 := by rw [e370]; exact fz_up_s (by decide)
              have t373 : H367 21 4 = H352 21 4 := by rw [e370]; exact fz_up_o (by decide)
              refine fz_goto (tgt := 180) kX5_readO rfl (by decide) ?_
              exact fz_vret kX5_readO rfl rfl ⟨hI368, hf369, rfl, (by omega), (by omega), (by first | exact fl_O_num f12 ⟨by omega, by omega⟩ lost (lost 20 4 rfl) | exact fl_O_nam f12 f24 (by omega) (by omega) lost rfl lost (by omega) (lost 20 3 rfl) (lost 20 4 rfl) | exact fl_O_un (k := k) f12 f24 (by omega) (by omega) (Or.inr ⟨by omega, rfl, rfl⟩) (by omega) (by omega) (by omega) (funext fun s => (lost 22 s rfl).trans ((lost 22 s rfl).trans (hf238 22 s rfl))) (funext fun s => (lost 23 s rfl).trans ((lost 23 s rfl).trans (hf238 23 s rfl))) (by omega) (fl_gC_e (funext fun s => (lost 26 s rfl).trans ((lost 26 s rfl).trans (hf238 26 s rfl))) ((lost 20 2 rfl).trans ((lost 20 2 rfl).trans (hf238 20 2 rfl)))) f360 lost (by omega) (lost 20 3 rfl) (lost 20 4 rfl) | exact fl_O_un (k := k) f12 f24 (by omega) (by omega) (Or.inl ⟨by omega, rfl, rfl⟩) (by omega) (by omega) (by omega) (funext fun s => (lost 22 s rfl).trans (hf238 22 s rfl)) (funext fun s => (lost 23 s rfl).trans (hf238 23 s rfl)) (by omega) (fl_gC_e (funext fun s => (lost 26 s rfl).trans (hf238 26 s rfl)) ((lost 20 2 rfl).trans (hf238 20 2 rfl))) f360 lost (by omega) (lost 20 3 rfl) (lost 20 4 rfl) | exact fl_O_par (k := k) f12 f24 (by omega) (by omega) (by omega) (by omega) (hf238 20 4 rfl) (hf238 21 4 rfl) (funext fun s => hf238 22 s rfl) (funext fun s => hf238 23 s rfl) (fl_gC_e (funext fun s => hf238 26 s rfl) (hf238 20 2 rfl)) f360 (fl_gC_e (funext fun s => (hf357 26 s rfl).trans (hf238 26 s rfl)) ((hf357 20 2 rfl).trans (hf238 20 2 rfl))) (Or.inr (Or.inl ⟨by omega, by omega, by omega, by omega⟩)) (by rw [e370]; exact (fz_up_o (by decide)).trans (lost 21 4 rfl)) (by rw [e370, fz_up_ne (by decide)]; exact (funext fun s => lost 22 s rfl)) (by rw [e370, fz_up_ne (by decide)]; exact (funext fun s => lost 23 s rfl)) | exact fl_O_par (k := k) f12 f24 (by omega) (by omega) (by omega) (by omega) (hf238 20 4 rfl) (hf238 21 4 rfl) (funext fun s => hf238 22 s rfl) (funext fun s => hf238 23 s rfl) (fl_gC_e (funext fun s => hf238 26 s rfl) (hf238 20 2 rfl)) f360 (fl_gC_e (funext fun s => (hf357 26 s rfl).trans (hf238 26 s rfl)) ((hf357 20 2 rfl).trans (hf238 20 2 rfl))) (Or.inr (Or.inr ⟨by omega, by omega, by omega, by omega⟩)) (by rw [e370]; exact (fz_up_o (by decide)).trans (lost 21 4 rfl)) (by rw [e370, fz_up_ne (by decide)]; exact (funext fun s => lost 22 s rfl)) (by rw [e370, fz_up_ne (by decide)]; exact (funext fun s => lost 23 s rfl)) | exact fl_O_par (k := k) f12 f24 (by omega) (by omega) (by omega) (by omega) (hf238 20 4 rfl) (hf238 21 4 rfl) (funext fun s => hf238 22 s rfl) (funext fun s => hf238 23 s rfl) (fl_gC_e (funext fun s => hf238 26 s rfl) (hf238 20 2 rfl)) f360 (fl_gC_e (funext fun s => (hf357 26 s rfl).trans (hf238 26 s rfl)) ((hf357 20 2 rfl).trans (hf238 20 2 rfl))) (Or.inl ⟨by omega, by omega, by omega⟩) (by rw [e370]; exact fz_up_o (by decide)) (by rw [e370]; exact fz_up_ne (by decide)) (by rw [e370]; exact fz_up_ne (by decide)) | exact fl_O_f0 f12 f24 (by omega) (by omega) (Or.inr ⟨by omega, by omega, by omega⟩) (by omega) (by omega))⟩
            · refine fz_aload_n kX5_readO rfl rfl ?_
              refine fz_bipush ⟨by decide, by decide⟩ kX5_readO rfl ?_
              have b375 : 0 ≤ H352 20 3 ∧ H352 20 3 ≤ 120 := hI356.1 20 _
              have e376 : H352 20 2 = h 20 2 := hf361 20 2 rfl
              refine fz_callV (d' := 1) (M' := mX5_goesOnWith) (As := [fz_i 41]) (st := [fz_r 20]) kX5_readO rfl rfl vX5_goesOnWith rfl rfl rfl rfl (Nat.le_of_ble_eq_true rfl) (Nat.le_of_ble_eq_true rfl) (by omega) (sX5_goesOnWith H352 hI356 41 (by omega)) (fun H377 r378 q379 o380 => ?_)
              obtain ⟨hI381, hf382, y384, rfl, p385, f383⟩ := q379
              clear o380
              have hf386 := fz_fr_tr hf361 hf382 (show fz_su [(20, 3)] [(20, 3), (20, 4), (21, 4), (22, 99999), (23, 99999)] = true from rfl)
              have k387 : H377 20 4 = v363 := (hf382 20 4 rfl).trans e364
              have t388 : H377 20 4 = H352 20 4 := hf382 20 4 rfl
              have t389 : H377 21 4 = H352 21 4 := hf382 21 4 rfl
              refine fz_if_ne (tgt := 108) kX5_readO rfl (by decide) (fun c390 => ?_) (fun c390 => ?_)
              · refine fz_iconst ⟨by decide, by decide⟩ kX5_readO rfl ?_
                refine fz_putZ kX5_readO rfl rfl rfl (by omega) ?_
                refine fz_nmu (S := [(20, 3), (20, 4), (21, 4), (22, 99999), (23, 99999)]) (h0 := h) (fz_Iv_up hI381 (by decide) (show (0 : Int) ≤ 0 by decide) (show (0 : Int) ≤ 1 by decide)) (fz_fr_up hf386 rfl) (fun H391 hI392 hf393 e394 => ?_)
                have k395 : H391 20 4 = 0 := by rw [e394]; exact fz_up_e
                have t396 : H391 20 3 = H377 20 3 := by rw [e394]; exact fz_up_s (by decide)
                have t397 : H391 21 4 = H377 21 4 := by rw [e394]; exact fz_up_o (by decide)
                refine fz_goto (tgt := 180) kX5_readO rfl (by decide) ?_
                exact fz_vret kX5_readO rfl rfl ⟨hI392, hf393, rfl, (by omega), (by omega), (by first | exact fl_O_num f12 ⟨by omega, by omega⟩ lost (lost 20 4 rfl) | exact fl_O_nam f12 f24 (by omega) (by omega) lost rfl lost (by omega) (lost 20 3 rfl) (lost 20 4 rfl) | exact fl_O_un (k := k) f12 f24 (by omega) (by omega) (Or.inr ⟨by omega, rfl, rfl⟩) (by omega) (by omega) (by omega) (funext fun s => (lost 22 s rfl).trans ((lost 22 s rfl).trans (hf238 22 s rfl))) (funext fun s => (lost 23 s rfl).trans ((lost 23 s rfl).trans (hf238 23 s rfl))) (by omega) (fl_gC_e (funext fun s => (lost 26 s rfl).trans ((lost 26 s rfl).trans (hf238 26 s rfl))) ((lost 20 2 rfl).trans ((lost 20 2 rfl).trans (hf238 20 2 rfl)))) f360 lost (by omega) (lost 20 3 rfl) (lost 20 4 rfl) | exact fl_O_un (k := k) f12 f24 (by omega) (by omega) (Or.inl ⟨by omega, rfl, rfl⟩) (by omega) (by omega) (by omega) (funext fun s => (lost 22 s rfl).trans (hf238 22 s rfl)) (funext fun s => (lost 23 s rfl).trans (hf238 23 s rfl)) (by omega) (fl_gC_e (funext fun s => (lost 26 s rfl).trans (hf238 26 s rfl)) ((lost 20 2 rfl).trans (hf238 20 2 rfl))) f360 lost (by omega) (lost 20 3 rfl) (lost 20 4 rfl) | exact fl_O_par (k := k) f12 f24 (by omega) (by omega) (by omega) (by omega) (hf238 20 4 rfl) (hf238 21 4 rfl) (funext fun s => hf238 22 s rfl) (funext fun s => hf238 23 s rfl) (fl_gC_e (funext fun s => hf238 26 s rfl) (hf238 20 2 rfl)) f360 (fl_gC_e (funext fun s => (hf357 26 s rfl).trans (hf238 26 s rfl)) ((hf357 20 2 rfl).trans (hf238 20 2 rfl))) (Or.inr (Or.inl ⟨by omega, by omega, by omega, by omega⟩)) (by rw [e394]; exact (fz_up_o (by decide)).trans (hf382 21 4 rfl)) (by rw [e394, fz_up_ne (by decide)]; exact (funext fun s => hf382 22 s rfl)) (by rw [e394, fz_up_ne (by decide)]; exact (funext fun s => hf382 23 s rfl)) | exact fl_O_par (k := k) f12 f24 (by omega) (by omega) (by omega) (by omega) (hf238 20 4 rfl) (hf238 21 4 rfl) (funext fun s => hf238 22 s rfl) (funext fun s => hf238 23 s rfl) (fl_gC_e (funext fun s => hf238 26 s rfl) (hf238 20 2 rfl)) f360 (fl_gC_e (funext fun s => (hf357 26 s rfl).trans (hf238 26 s rfl)) ((hf357 20 2 rfl).trans (hf238 20 2 rfl))) (Or.inr (Or.inr ⟨by omega, by omega, by omega, by omega⟩)) (by rw [e394]; exact (fz_up_o (by decide)).trans (hf382 21 4 rfl)) (by rw [e394, fz_up_ne (by decide)]; exact (funext fun s => hf382 22 s rfl)) (by rw [e394, fz_up_ne (by decide)]; exact (funext fun s => hf382 23 s rfl)) | exact fl_O_par (k := k) f12 f24 (by omega) (by omega) (by omega) (by omega) (hf238 20 4 rfl) (hf238 21 4 rfl) (funext fun s => hf238 22 s rfl) (funext fun s => hf238 23 s rfl) (fl_gC_e (funext fun s => hf238 26 s rfl) (hf238 20 2 rfl)) f360 (fl_gC_e (funext fun s => (hf357 26 s rfl).trans (hf238 26 s rfl)) ((hf357 20 2 rfl).trans (hf238 20 2 rfl))) (Or.inl ⟨by omega, by omega, by omega⟩) (by rw [e394]; exact fz_up_o (by decide)) (by rw [e394]; exact fz_up_ne (by decide)) (by rw [e394]; exact fz_up_ne (by decide)) | exact fl_O_f0 f12 f24 (by omega) (by omega) (Or.inr ⟨by omega, by omega, by omega⟩) (by omega) (by omega))⟩
              · refine fz_iconst ⟨by decide, by decide⟩ kX5_readO rfl ?_
                refine fz_goto (tgt := 109) kX5_readO rfl (by decide) ?_
                refine fz_putZ kX5_readO rfl rfl rfl (by omega) ?_
                refine fz_nmu (S := [(20, 3), (20, 4), (21, 4), (22, 99999), (23, 99999)]) (h0 := h) (fz_Iv_up hI381 (by decide) (show (0 : Int) ≤ 1 by decide) (show (1 : Int) ≤ 1 by decide)) (fz_fr_up hf386 rfl) (fun H399 hI400 hf401 e402 => ?_)
                have k403 : H399 20 4 = 1 := by rw [e402]; exact fz_up_e
                have t404 : H399 20 3 = H377 20 3 := by rw [e402]; exact fz_up_s (by decide)
                have t405 : H399 21 4 = H377 21 4 := by rw [e402]; exact fz_up_o (by decide)
                refine fz_goto (tgt := 180) kX5_readO rfl (by decide) ?_
                exact fz_vret kX5_readO rfl rfl ⟨hI400, hf401, rfl, (by omega), (by omega), (by first | exact fl_O_num f12 ⟨by omega, by omega⟩ lost (lost 20 4 rfl) | exact fl_O_nam f12 f24 (by omega) (by omega) lost rfl lost (by omega) (lost 20 3 rfl) (lost 20 4 rfl) | exact fl_O_un (k := k) f12 f24 (by omega) (by omega) (Or.inr ⟨by omega, rfl, rfl⟩) (by omega) (by omega) (by omega) (funext fun s => (lost 22 s rfl).trans ((lost 22 s rfl).trans (hf238 22 s rfl))) (funext fun s => (lost 23 s rfl).trans ((lost 23 s rfl).trans (hf238 23 s rfl))) (by omega) (fl_gC_e (funext fun s => (lost 26 s rfl).trans ((lost 26 s rfl).trans (hf238 26 s rfl))) ((lost 20 2 rfl).trans ((lost 20 2 rfl).trans (hf238 20 2 rfl)))) f360 lost (by omega) (lost 20 3 rfl) (lost 20 4 rfl) | exact fl_O_un (k := k) f12 f24 (by omega) (by omega) (Or.inl ⟨by omega, rfl, rfl⟩) (by omega) (by omega) (by omega) (funext fun s => (lost 22 s rfl).trans (hf238 22 s rfl)) (funext fun s => (lost 23 s rfl).trans (hf238 23 s rfl)) (by omega) (fl_gC_e (funext fun s => (lost 26 s rfl).trans (hf238 26 s rfl)) ((lost 20 2 rfl).trans (hf238 20 2 rfl))) f360 lost (by omega) (lost 20 3 rfl) (lost 20 4 rfl) | exact fl_O_par (k := k) f12 f24 (by omega) (by omega) (by omega) (by omega) (hf238 20 4 rfl) (hf238 21 4 rfl) (funext fun s => hf238 22 s rfl) (funext fun s => hf238 23 s rfl) (fl_gC_e (funext fun s => hf238 26 s rfl) (hf238 20 2 rfl)) f360 (fl_gC_e (funext fun s => (hf357 26 s rfl).trans (hf238 26 s rfl)) ((hf357 20 2 rfl).trans (hf238 20 2 rfl))) (Or.inr (Or.inl ⟨by omega, by omega, by omega, by omega⟩)) (by rw [e402]; exact (fz_up_o (by decide)).trans (hf382 21 4 rfl)) (by rw [e402, fz_up_ne (by decide)]; exact (funext fun s => hf382 22 s rfl)) (by rw [e402, fz_up_ne (by decide)]; exact (funext fun s => hf382 23 s rfl)) | exact fl_O_par (k := k) f12 f24 (by omega) (by omega) (by omega) (by omega) (hf238 20 4 rfl) (hf238 21 4 rfl) (funext fun s => hf238 22 s rfl) (funext fun s => hf238 23 s rfl) (fl_gC_e (funext fun s => hf238 26 s rfl) (hf238 20 2 rfl)) f360 (fl_gC_e (funext fun s => (hf357 26 s rfl).trans (hf238 26 s rfl)) ((hf357 20 2 rfl).trans (hf238 20 2 rfl))) (Or.inr (Or.inr ⟨by omega, by omega, by omega, by omega⟩)) (by rw [e402]; exact (fz_up_o (by decide)).trans (hf382 21 4 rfl)) (by rw [e402, fz_up_ne (by decide)]; exact (funext fun s => hf382 22 s rfl)) (by rw [e402, fz_up_ne (by decide)]; exact (funext fun s => hf382 23 s rfl)) | exact fl_O_par (k := k) f12 f24 (by omega) (by omega) (by omega) (by omega) (hf238 20 4 rfl) (hf238 21 4 rfl) (funext fun s => hf238 22 s rfl) (funext fun s => hf238 23 s rfl) (fl_gC_e (funext fun s => hf238 26 s rfl) (hf238 20 2 rfl)) f360 (fl_gC_e (funext fun s => (hf357 26 s rfl).trans (hf238 26 s rfl)) ((hf357 20 2 rfl).trans (hf238 20 2 rfl))) (Or.inl ⟨by omega, by omega, by omega⟩) (by rw [e402]; exact fz_up_o (by decide)) (by rw [e402]; exact fz_up_ne (by decide)) (by rw [e402]; exact fz_up_ne (by decide)) | exact fl_O_f0 f12 f24 (by omega) (by omega) (Or.inr ⟨by omega, by omega, by omega⟩) (by omega) (by omega))⟩
        · exfalso; omega
      · refine fz_aload_n kX5_readO rfl rfl ?_
        refine fz_dup rfl kX5_readO rfl ?_
        refine fz_getV (v := h 20 3) kX5_readO rfl rfl rfl ?_
        have b407 : 0 ≤ h 20 3 ∧ h 20 3 ≤ 120 := hI.1 20 _
        refine fz_iconst ⟨by decide, by decide⟩ kX5_readO rfl ?_
        refine fz_iaddN kX5_readO rfl (by omega) ?_
        refine fz_putI kX5_readO rfl rfl rfl ?_
        refine fz_nmu (S := [(20, 3), (20, 4), (21, 4), (22, 99999), (23, 99999)]) (h0 := h) (fz_Iv_up hI (by decide) (show (0 : Int) ≤ ((h 20 3) + 1) by omega) (show (((h 20 3) + 1) : Int) ≤ 120 by omega)) (fz_fr_up hf rfl) (fun H408 hI409 hf410 e411 => ?_)
        have k412 : H408 20 4 = (h 20 4) := by rw [e411]; exact (fz_up_s (by decide)).trans rfl
        have k413 : H408 21 4 = (h 21 4) := by rw [e411]; exact (fz_up_o (by decide)).trans rfl
        have k414 : H408 20 3 = ((h 20 3) + 1) := by rw [e411]; exact fz_up_e
        have t415 : H408 20 4 = h 20 4 := by rw [e411]; exact fz_up_s (by decide)
        have t416 : H408 21 4 = h 21 4 := by rw [e411]; exact fz_up_o (by decide)
        refine fz_aload_n kX5_readO rfl rfl ?_
        refine fz_getR (t := 21) kX5_readO rfl rfl ?_
        refine fz_bipush ⟨by decide, by decide⟩ kX5_readO rfl ?_
        refine fz_iload_n kX5_readO rfl rfl ?_
        have b417 : 0 ≤ H408 21 4 ∧ H408 21 4 ≤ 128 := hI409.1 21 _
        refine fz_callV (d' := 0) (M' := mX3_add) (As := [fz_i 64, fz_i y25]) (st := []) kX5_readO rfl rfl vX3_add rfl rfl rfl rfl (Nat.le_of_ble_eq_true rfl) (Nat.le_of_ble_eq_true rfl) (by omega) (sX3_add H408 hI409 64 y25 ) (fun H418 r419 q420 o421 => ?_)
        obtain ⟨hI422, hf423, y427, rfl, f424, f425, f426⟩ := q420
        clear o421
        have hf428 := fz_fr_tr hf410 hf423 (show fz_su [(21, 4), (22, 99999), (23, 99999)] [(20, 3), (20, 4), (21, 4), (22, 99999), (23, 99999)] = true from rfl)
        have k429 : H418 20 4 = (h 20 4) := (hf423 20 4 rfl).trans k412
        have k430 : H418 20 3 = ((h 20 3) + 1) := (hf423 20 3 rfl).trans k414
        have t431 : H418 20 3 = H408 20 3 := hf423 20 3 rfl
        have t432 : H418 20 4 = H408 20 4 := hf423 20 4 rfl
        refine fz_pop rfl kX5_readO rfl ?_
        refine fz_goto (tgt := 180) kX5_readO rfl (by decide) ?_
        exact fz_vret kX5_readO rfl rfl ⟨hI422, hf428, rfl, (by omega), (by omega), (by first | exact fl_O_num f12 ⟨by omega, by omega⟩ lost (lost 20 4 rfl) | exact fl_O_nam f12 f24 (by omega) (by omega) e411 rfl f426 (by omega) (hf423 20 3 rfl) (hf423 20 4 rfl) | exact fl_O_un (k := k) f12 f24 (by omega) (by omega) (Or.inr ⟨by omega, rfl, rfl⟩) (by omega) (by omega) (by omega) (funext fun s => (lost 22 s rfl).trans ((lost 22 s rfl).trans (lost 22 s rfl))) (funext fun s => (lost 23 s rfl).trans ((lost 23 s rfl).trans (lost 23 s rfl))) (by omega) (fl_gC_e (funext fun s => (lost 26 s rfl).trans ((lost 26 s rfl).trans (lost 26 s rfl))) ((lost 20 2 rfl).trans ((lost 20 2 rfl).trans (lost 20 2 rfl)))) lost f426 (by omega) (lost 20 3 rfl) (lost 20 4 rfl) | exact fl_O_un (k := k) f12 f24 (by omega) (by omega) (Or.inl ⟨by omega, rfl, rfl⟩) (by omega) (by omega) (by omega) (funext fun s => (lost 22 s rfl).trans (lost 22 s rfl)) (funext fun s => (lost 23 s rfl).trans (lost 23 s rfl)) (by omega) (fl_gC_e (funext fun s => (lost 26 s rfl).trans (lost 26 s rfl)) ((lost 20 2 rfl).trans (lost 20 2 rfl))) lost f426 (by omega) (lost 20 3 rfl) (lost 20 4 rfl) | exact fl_O_par (k := k) f12 f24 (by omega) (by omega) (by omega) (by omega) (lost 20 4 rfl) (lost 21 4 rfl) (funext fun s => lost 22 s rfl) (funext fun s => lost 23 s rfl) (fl_gC_e (funext fun s => lost 26 s rfl) (lost 20 2 rfl)) lost (fl_gC_e (funext fun s => (lost 26 s rfl).trans (lost 26 s rfl)) ((lost 20 2 rfl).trans (lost 20 2 rfl))) (Or.inr (Or.inl ⟨by omega, by omega, by omega, by omega⟩)) (by rw [lost]; exact (fz_up_o (by decide)).trans (lost 21 4 rfl)) (by rw [lost, fz_up_ne (by decide)]; exact (funext fun s => lost 22 s rfl)) (by rw [lost, fz_up_ne (by decide)]; exact (funext fun s => lost 23 s rfl)) | exact fl_O_par (k := k) f12 f24 (by omega) (by omega) (by omega) (by omega) (lost 20 4 rfl) (lost 21 4 rfl) (funext fun s => lost 22 s rfl) (funext fun s => lost 23 s rfl) (fl_gC_e (funext fun s => lost 26 s rfl) (lost 20 2 rfl)) lost (fl_gC_e (funext fun s => (lost 26 s rfl).trans (lost 26 s rfl)) ((lost 20 2 rfl).trans (lost 20 2 rfl))) (Or.inr (Or.inr ⟨by omega, by omega, by omega, by omega⟩)) (by rw [lost]; exact (fz_up_o (by decide)).trans (lost 21 4 rfl)) (by rw [lost, fz_up_ne (by decide)]; exact (funext fun s => lost 22 s rfl)) (by rw [lost, fz_up_ne (by decide)]; exact (funext fun s => lost 23 s rfl)) | exact fl_O_par (k := k) f12 f24 (by omega) (by omega) (by omega) (by omega) (lost 20 4 rfl) (lost 21 4 rfl) (funext fun s => lost 22 s rfl) (funext fun s => lost 23 s rfl) (fl_gC_e (funext fun s => lost 26 s rfl) (lost 20 2 rfl)) lost (fl_gC_e (funext fun s => (lost 26 s rfl).trans (lost 26 s rfl)) ((lost 20 2 rfl).trans (lost 20 2 rfl))) (Or.inl ⟨by omega, by omega, by omega⟩) (by rw [lost]; exact fz_up_o (by decide)) (by rw [lost]; exact fz_up_ne (by decide)) (by rw [lost]; exact fz_up_ne (by decide)) | exact fl_O_f0 f12 f24 (by omega) (by omega) (Or.inr ⟨by omega, by omega, by omega⟩) (by omega) (by omega))⟩
    · refine fz_aload_n kX5_readO rfl rfl ?_
      refine fz_callV (d' := 1) (M' := mX5_readNumber) (As := []) (st := []) kX5_readO rfl rfl vX5_readNumber rfl rfl rfl rfl (Nat.le_of_ble_eq_true rfl) (Nat.le_of_ble_eq_true rfl) (by omega) (sX5_readNumber h hI  (by omega) (by omega) (by omega)) (fun H434 r435 q436 o437 => ?_)
      obtain ⟨hI438, hf439, rfl, f440, f441, f442⟩ := q436
      clear o437
      have hf443 := fz_fr_tr hf hf439 (show fz_su [(20, 3), (21, 4), (22, 99999), (23, 99999)] [(20, 3), (20, 4), (21, 4), (22, 99999), (23, 99999)] = true from rfl)
      have k444 : H434 20 4 = (h 20 4) := (hf439 20 4 rfl).trans rfl
      have t445 : H434 20 4 = h 20 4 := hf439 20 4 rfl
      refine fz_goto (tgt := 180) kX5_readO rfl (by decide) ?_
      exact fz_vret kX5_readO rfl rfl ⟨hI438, hf443, rfl, (by omega), (by omega), (by first | exact fl_O_num f12 ⟨by omega, by omega⟩ f442 (hf439 20 4 rfl) | exact fl_O_nam f12 f24 (by omega) (by omega) lost rfl lost (by omega) (lost 20 3 rfl) (lost 20 4 rfl) | exact fl_O_un (k := k) f12 f24 (by omega) (by omega) (Or.inr ⟨by omega, rfl, rfl⟩) (by omega) (by omega) (by omega) (funext fun s => (lost 22 s rfl).trans ((lost 22 s rfl).trans (lost 22 s rfl))) (funext fun s => (lost 23 s rfl).trans ((lost 23 s rfl).trans (lost 23 s rfl))) (by omega) (fl_gC_e (funext fun s => (lost 26 s rfl).trans ((lost 26 s rfl).trans (lost 26 s rfl))) ((lost 20 2 rfl).trans ((lost 20 2 rfl).trans (lost 20 2 rfl)))) lost lost (by omega) (lost 20 3 rfl) (lost 20 4 rfl) | exact fl_O_un (k := k) f12 f24 (by omega) (by omega) (Or.inl ⟨by omega, rfl, rfl⟩) (by omega) (by omega) (by omega) (funext fun s => (lost 22 s rfl).trans (lost 22 s rfl)) (funext fun s => (lost 23 s rfl).trans (lost 23 s rfl)) (by omega) (fl_gC_e (funext fun s => (lost 26 s rfl).trans (lost 26 s rfl)) ((lost 20 2 rfl).trans (lost 20 2 rfl))) lost lost (by omega) (lost 20 3 rfl) (lost 20 4 rfl) | exact fl_O_par (k := k) f12 f24 (by omega) (by omega) (by omega) (by omega) (lost 20 4 rfl) (lost 21 4 rfl) (funext fun s => lost 22 s rfl) (funext fun s => lost 23 s rfl) (fl_gC_e (funext fun s => lost 26 s rfl) (lost 20 2 rfl)) lost (fl_gC_e (funext fun s => (lost 26 s rfl).trans (lost 26 s rfl)) ((lost 20 2 rfl).trans (lost 20 2 rfl))) (Or.inr (Or.inl ⟨by omega, by omega, by omega, by omega⟩)) (by rw [lost]; exact (fz_up_o (by decide)).trans (lost 21 4 rfl)) (by rw [lost, fz_up_ne (by decide)]; exact (funext fun s => lost 22 s rfl)) (by rw [lost, fz_up_ne (by decide)]; exact (funext fun s => lost 23 s rfl)) | exact fl_O_par (k := k) f12 f24 (by omega) (by omega) (by omega) (by omega) (lost 20 4 rfl) (lost 21 4 rfl) (funext fun s => lost 22 s rfl) (funext fun s => lost 23 s rfl) (fl_gC_e (funext fun s => lost 26 s rfl) (lost 20 2 rfl)) lost (fl_gC_e (funext fun s => (lost 26 s rfl).trans (lost 26 s rfl)) ((lost 20 2 rfl).trans (lost 20 2 rfl))) (Or.inr (Or.inr ⟨by omega, by omega, by omega, by omega⟩)) (by rw [lost]; exact (fz_up_o (by decide)).trans (lost 21 4 rfl)) (by rw [lost, fz_up_ne (by decide)]; exact (funext fun s => lost 22 s rfl)) (by rw [lost, fz_up_ne (by decide)]; exact (funext fun s => lost 23 s rfl)) | exact fl_O_par (k := k) f12 f24 (by omega) (by omega) (by omega) (by omega) (lost 20 4 rfl) (lost 21 4 rfl) (funext fun s => lost 22 s rfl) (funext fun s => lost 23 s rfl) (fl_gC_e (funext fun s => lost 26 s rfl) (lost 20 2 rfl)) lost (fl_gC_e (funext fun s => (lost 26 s rfl).trans (lost 26 s rfl)) ((lost 20 2 rfl).trans (lost 20 2 rfl))) (Or.inl ⟨by omega, by omega, by omega⟩) (by rw [lost]; exact fz_up_o (by decide)) (by rw [lost]; exact fz_up_ne (by decide)) (by rw [lost]; exact fz_up_ne (by decide)) | exact fl_O_f0 f12 f24 (by omega) (by omega) (Or.inr ⟨by omega, by omega, by omega⟩) (by omega) (by omega))⟩

set_option maxHeartbeats 1000000 in
set_option maxRecDepth 100000 in
theorem sX5_readP_g (k : Nat) (L : Int) (D : Nat) (hL : 0 ≤ L ∧ L ≤ 5) (ihO : ∀ (h : fz_H) (hI : fz_Iv h) (hp0 : h 20 4 = 1 ∨ h 21 4 ≤ h 20 3), fz_R (D + 2) mX5_readO 0 [(0, fz_r 20), (1, fz_i (L + 1))] [] h (qX5_readO_g k (L + 1) h)) (ihE : ∀ (h : fz_H) (hI : fz_Iv h) (hp0 : h 20 4 = 1 ∨ h 21 4 ≤ h 20 3), fz_R (D + 7) mX5_readE 0 [(0, fz_r 20), (1, fz_i (L + 1))] [] h (qX5_readE_g k (L + 1) h)) (h : fz_H) (hI : fz_Iv h) (hp0 : h 20 4 = 1 ∨ h 21 4 ≤ h 20 3) : fz_R (D + 9) mX5_readP 0 [(0, fz_r 20), (1, fz_i L)] [] h (qX5_readP_g (k + 1) L h) := by
  have hf : fz_fr [(20, 3), (20, 4), (21, 4), (22, 99999), (23, 99999)] h h := fz_fr_rf
  have b1 : 0 ≤ h 20 4 ∧ h 20 4 ≤ 1 := hI.1 20 _
  have b2 : 0 ≤ h 21 4 ∧ h 21 4 ≤ 128 := hI.1 21 _
  have b3 : 0 ≤ h 20 3 ∧ h 20 3 ≤ 120 := hI.1 20 _
  refine fz_aload_n kX5_readP rfl rfl ?_
  refine fz_iload_n kX5_readP rfl rfl ?_
  refine fz_callV (d' := (D + 8)) (M' := mX5_readO) (As := [fz_i L]) (st := []) kX5_readP rfl rfl vX5_readO rfl rfl rfl rfl (Nat.le_of_ble_eq_true rfl) (Nat.le_of_ble_eq_true rfl) (by omega) (sX5_readO_g k L D hL ihO ihE h hI  (by omega)) (fun H4 r5 q6 o7 => ?_)
  obtain ⟨hI8, hf9, rfl, f10, f11, f12⟩ := q6
  clear o7
  have hf13 := fz_fr_tr hf hf9 (show fz_su [(20, 3), (20, 4), (21, 4), (22, 99999), (23, 99999)] [(20, 3), (20, 4), (21, 4), (22, 99999), (23, 99999)] = true from rfl)
  have k14 := fl_st_1 (op := fl_oP) (k := 200) (g := fl_gC h) f12 rfl
  have k16 : 0 ≤ fl_lh H4 → H4 20 4 = 0 := fl_lh_0
  refine fz_aload_n kX5_readP rfl rfl ?_
  refine fz_bipush ⟨by decide, by decide⟩ kX5_readP rfl ?_
  refine fz_bipush ⟨by decide, by decide⟩ kX5_readP rfl ?_
  refine fz_bipush ⟨by decide, by decide⟩ kX5_readP rfl ?_
  have b17 : 0 ≤ H4 20 3 ∧ H4 20 3 ≤ 120 := hI8.1 20 _
  refine fz_callV (d' := 1) (M' := mX5_nextOf) (As := [fz_i 42, fz_i 47, fz_i 37]) (st := []) kX5_readP rfl rfl vX5_nextOf rfl rfl rfl rfl (Nat.le_of_ble_eq_true rfl) (Nat.le_of_ble_eq_true rfl) (by omega) (sX5_nextOf H4 hI8 42 47 37 (by omega)) (fun H18 r19 q20 o21 => ?_)
  obtain ⟨hI22, hf23, y26, rfl, f24, f25⟩ := q20
  clear o21
  have hf27 := fz_fr_tr hf13 hf23 (show fz_su [(20, 3)] [(20, 3), (20, 4), (21, 4), (22, 99999), (23, 99999)] = true from rfl)
  have t28 : H18 20 4 = H4 20 4 := hf23 20 4 rfl
  have t29 : H18 21 4 = H4 21 4 := hf23 21 4 rfl
  have k30 := fl_st_nx k14 (fl_gC_e (funext fun s => hf13 26 s rfl) (hf13 20 2 rfl)) (fl_nxP f25) (hf23 20 4 rfl) (hf23 21 4 rfl) (funext fun s => hf23 22 s rfl) (funext fun s => hf23 23 s rfl)
  refine fz_istore_n (ls' := [(2, fz_i y26), (0, fz_r 20), (1, fz_i L)]) kX5_readP rfl (by decide) rfl ?_
  refine fz_iconst ⟨by decide, by decide⟩ kX5_readP rfl ?_
  refine fz_istore_n (ls' := [(3, fz_i 0), (2, fz_i y26), (0, fz_r 20), (1, fz_i L)]) kX5_readP rfl (by decide) rfl ?_
  have lp38 : ∀ (n37 : Nat) (x32 : Int) (x33 : Int) (H34 : fz_H), fz_Iv H34 → fz_fr [(20, 3), (20, 4), (21, 4), (22, 99999), (23, 99999)] h H34 → (0 ≤ x32 ∧ x32 ≤ 2147483647) → ((-2147483648) ≤ x33 ∧ x33 ≤ 2147483647) → (x33 = 0 ∨ x33 = 42 ∨ x33 = 47 ∨ x33 = 37) → (h 20 4 = 0 ∨ (H34 20 4 = 1 ∧ H34 20 3 = h 20 3)) → (H34 20 4 = 1 ∨ (x33 = 0 ∧ H34 21 4 - h 21 4 ≤ H34 20 3 - h 20 3 ∧ h 20 3 + x32 + 1 ≤ H34 20 3) ∨ (x33 ≠ 0 ∧ H34 21 4 - h 21 4 + 1 ≤ H34 20 3 - h 20 3 ∧ h 20 3 + x32 + 2 ≤ H34 20 3)) → (fl_stC h H34 (fl_eP (fl_gC h) (fl_pO (fl_gC h) (k + 1)) (h 20 3)) (fl_nx fl_oP (fl_pO (fl_gC h) (k + 1)) (fl_gC h) (199 - x32).toNat x33 (H34 20 3))) → (120 - x32).toNat < n37 → fz_R (D + 9) mX5_readP 18 [(3, fz_i x32), (2, fz_i x33), (0, fz_r 20), (1, fz_i L)] [] H34 (qX5_readP_g (k + 1) L h) := by
    intro n37
    induction n37 with
    | zero => intro x32 x33 H34 hI35 hf36 hv41 hv42 hv43 hv44 hv45 hv46 hm40; exact absurd hm40 (by omega)
    | succ n37 ih39 =>
      intro x32 x33 H34 hI35 hf36 hv41 hv42 hv43 hv44 hv45 hv46 hm40
      refine fz_iload_n kX5_readP rfl rfl ?_
      refine fz_bipush ⟨by decide, by decide⟩ kX5_readP rfl ?_
      refine fz_icmp_ge (tgt := 60) kX5_readP rfl (by decide) (fun c47 => ?_) (fun c47 => ?_)
      · have k48 : 0 ≤ H34 20 3 ∧ H34 20 3 ≤ 120 := hI35.1 20 _
        exact fz_vret kX5_readP rfl rfl ⟨hI35, hf36, rfl, (by omega), (by omega), (by first | exact fl_st_x0 hv46 (by omega) | exact fl_st_xf hv46 (by omega))⟩
      · refine fz_iload_n kX5_readP rfl rfl ?_
        refine fz_if_eq (tgt := 60) kX5_readP rfl (by decide) (fun c50 => ?_) (fun c50 => ?_)
        · have k51 : 0 ≤ H34 20 3 ∧ H34 20 3 ≤ 120 := hI35.1 20 _
          exact fz_vret kX5_readP rfl rfl ⟨hI35, hf36, rfl, (by omega), (by omega), (by first | exact fl_st_x0 hv46 (by omega) | exact fl_st_xf hv46 (by omega))⟩
        · refine fz_aload_n kX5_readP rfl rfl ?_
          refine fz_iload_n kX5_readP rfl rfl ?_
          have b53 : 0 ≤ H34 20 4 ∧ H34 20 4 ≤ 1 := hI35.1 20 _
          have b54 : 0 ≤ H34 21 4 ∧ H34 21 4 ≤ 128 := hI35.1 21 _
          have b55 : 0 ≤ H34 20 3 ∧ H34 20 3 ≤ 120 := hI35.1 20 _
          refine fz_callV (d' := (D + 8)) (M' := mX5_readO) (As := [fz_i L]) (st := []) kX5_readP rfl rfl vX5_readO rfl rfl rfl rfl (Nat.le_of_ble_eq_true rfl) (Nat.le_of_ble_eq_true rfl) (by omega) (sX5_readO_g k L D hL ihO ihE H34 hI35  (by omega)) (fun H56 r57 q58 o59 => ?_)
          obtain ⟨hI60, hf61, rfl, f62, f63, f64⟩ := q58
          clear o59
          have hf65 := fz_fr_tr hf36 hf61 (show fz_su [(20, 3), (20, 4), (21, 4), (22, 99999), (23, 99999)] [(20, 3), (20, 4), (21, 4), (22, 99999), (23, 99999)] = true from rfl)
          have k66 : 0 ≤ H56 20 3 ∧ H56 20 3 ≤ 120 := hI60.1 20 _
          refine fz_aload_n kX5_readP rfl rfl ?_
          refine fz_getR (t := 21) kX5_readP rfl rfl ?_
          refine fz_iload_n kX5_readP rfl rfl ?_
          refine fz_iconst ⟨by decide, by decide⟩ kX5_readP rfl ?_
          have b67 : 0 ≤ H56 21 4 ∧ H56 21 4 ≤ 128 := hI60.1 21 _
          refine fz_callV (d' := 0) (M' := mX3_add) (As := [fz_i x33, fz_i 0]) (st := []) kX5_readP rfl rfl vX3_add rfl rfl rfl rfl (Nat.le_of_ble_eq_true rfl) (Nat.le_of_ble_eq_true rfl) (by omega) (sX3_add H56 hI60 x33 0 ) (fun H68 r69 q70 o71 => ?_)
          obtain ⟨hI72, hf73, y77, rfl, f74, f75, f76⟩ := q70
          clear o71
          have hf78 := fz_fr_tr hf65 hf73 (show fz_su [(21, 4), (22, 99999), (23, 99999)] [(20, 3), (20, 4), (21, 4), (22, 99999), (23, 99999)] = true from rfl)
          have t79 : H68 20 3 = H56 20 3 := hf73 20 3 rfl
          have t80 : H68 20 4 = H56 20 4 := hf73 20 4 rfl
          refine fz_pop rfl kX5_readP rfl ?_
          have k81 : 0 ≤ fl_lh H68 → H68 20 4 = 0 := fl_lh_0
          have k82 := fl_st_k (k' := (199 - (x32 + 1)).toNat + 1) (fl_st_it ⟨by omega, by omega⟩ hv46 (by omega) f64 (congrArg (fun g => fl_pO g (k + 1)) (fl_gC_e (funext fun s => hf36 26 s rfl) (hf36 20 2 rfl))) f76 (fl_cmP (by omega)) (by omega) (hf73 20 3 rfl) (hf73 20 4 rfl)) (by omega)
          refine fz_aload_n kX5_readP rfl rfl ?_
          refine fz_bipush ⟨by decide, by decide⟩ kX5_readP rfl ?_
          refine fz_bipush ⟨by decide, by decide⟩ kX5_readP rfl ?_
          refine fz_bipush ⟨by decide, by decide⟩ kX5_readP rfl ?_
          have b84 : 0 ≤ H68 20 3 ∧ H68 20 3 ≤ 120 := hI72.1 20 _
          refine fz_callV (d' := 1) (M' := mX5_nextOf) (As := [fz_i 42, fz_i 47, fz_i 37]) (st := []) kX5_readP rfl rfl vX5_nextOf rfl rfl rfl rfl (Nat.le_of_ble_eq_true rfl) (Nat.le_of_ble_eq_true rfl) (by omega) (sX5_nextOf H68 hI72 42 47 37 (by omega)) (fun H85 r86 q87 o88 => ?_)
          obtain ⟨hI89, hf90, y93, rfl, f91, f92⟩ := q87
          clear o88
          have hf94 := fz_fr_tr hf78 hf90 (show fz_su [(20, 3)] [(20, 3), (20, 4), (21, 4), (22, 99999), (23, 99999)] = true from rfl)
          have t95 : H85 20 4 = H68 20 4 := hf90 20 4 rfl
          have t96 : H85 21 4 = H68 21 4 := hf90 21 4 rfl
          have k97 := fl_st_nx k82 (fl_gC_e (funext fun s => hf78 26 s rfl) (hf78 20 2 rfl)) (fl_nxP f92) (hf90 20 4 rfl) (hf90 21 4 rfl) (funext fun s => hf90 22 s rfl) (funext fun s => hf90 23 s rfl)
          refine fz_istore_n (ls' := [(2, fz_i y93), (3, fz_i x32), (0, fz_r 20), (1, fz_i L)]) kX5_readP rfl (by decide) rfl ?_
          refine fz_iincN (ls' := [(3, fz_i (x32 + 1)), (2, fz_i y93), (0, fz_r 20), (1, fz_i L)]) kX5_readP rfl (by decide) rfl (by omega) rfl ?_
          refine fz_goto (tgt := 18) kX5_readP rfl (by decide) ?_
          exact ih39 (x32 + 1) y93 H85 hI89 hf94 (by omega) (by omega) (by omega) (by omega) (by omega) (k97) (by omega)
  exact lp38 _ 0 y26 H18 hI22 hf27 (by omega) (by omega) (by omega) (by omega) (by omega) (fl_st_kn k30 (by omega)) (Nat.lt_succ_self _)

set_option maxHeartbeats 1000000 in
set_option maxRecDepth 100000 in
theorem sX5_readS_g (k : Nat) (L : Int) (D : Nat) (hL : 0 ≤ L ∧ L ≤ 5) (ihO : ∀ (h : fz_H) (hI : fz_Iv h) (hp0 : h 20 4 = 1 ∨ h 21 4 ≤ h 20 3), fz_R (D + 2) mX5_readO 0 [(0, fz_r 20), (1, fz_i (L + 1))] [] h (qX5_readO_g k (L + 1) h)) (ihE : ∀ (h : fz_H) (hI : fz_Iv h) (hp0 : h 20 4 = 1 ∨ h 21 4 ≤ h 20 3), fz_R (D + 7) mX5_readE 0 [(0, fz_r 20), (1, fz_i (L + 1))] [] h (qX5_readE_g k (L + 1) h)) (h : fz_H) (hI : fz_Iv h) (hp0 : h 20 4 = 1 ∨ h 21 4 ≤ h 20 3) : fz_R (D + 10) mX5_readS 0 [(0, fz_r 20), (1, fz_i L)] [] h (qX5_readS_g (k + 1) L h) := by
  have hf : fz_fr [(20, 3), (20, 4), (21, 4), (22, 99999), (23, 99999)] h h := fz_fr_rf
  have b1 : 0 ≤ h 20 4 ∧ h 20 4 ≤ 1 := hI.1 20 _
  have b2 : 0 ≤ h 21 4 ∧ h 21 4 ≤ 128 := hI.1 21 _
  have b3 : 0 ≤ h 20 3 ∧ h 20 3 ≤ 120 := hI.1 20 _
  refine fz_aload_n kX5_readS rfl rfl ?_
  refine fz_iload_n kX5_readS rfl rfl ?_
  refine fz_callV (d' := (D + 9)) (M' := mX5_readP) (As := [fz_i L]) (st := []) kX5_readS rfl rfl vX5_readP rfl rfl rfl rfl (Nat.le_of_ble_eq_true rfl) (Nat.le_of_ble_eq_true rfl) (by omega) (sX5_readP_g k L D hL ihO ihE h hI  (by omega)) (fun H4 r5 q6 o7 => ?_)
  obtain ⟨hI8, hf9, rfl, f10, f11, f12⟩ := q6
  clear o7
  have hf13 := fz_fr_tr hf hf9 (show fz_su [(20, 3), (20, 4), (21, 4), (22, 99999), (23, 99999)] [(20, 3), (20, 4), (21, 4), (22, 99999), (23, 99999)] = true from rfl)
  have k14 := fl_st_1 (op := fl_oS) (k := 200) (g := fl_gC h) f12 rfl
  have k16 : 0 ≤ fl_lh H4 → H4 20 4 = 0 := fl_lh_0
  refine fz_aload_n kX5_readS rfl rfl ?_
  refine fz_bipush ⟨by decide, by decide⟩ kX5_readS rfl ?_
  refine fz_bipush ⟨by decide, by decide⟩ kX5_readS rfl ?_
  refine fz_bipush ⟨by decide, by decide⟩ kX5_readS rfl ?_
  have b17 : 0 ≤ H4 20 3 ∧ H4 20 3 ≤ 120 := hI8.1 20 _
  refine fz_callV (d' := 1) (M' := mX5_nextOf) (As := [fz_i 43, fz_i 45, fz_i 45]) (st := []) kX5_readS rfl rfl vX5_nextOf rfl rfl rfl rfl (Nat.le_of_ble_eq_true rfl) (Nat.le_of_ble_eq_true rfl) (by omega) (sX5_nextOf H4 hI8 43 45 45 (by omega)) (fun H18 r19 q20 o21 => ?_)
  obtain ⟨hI22, hf23, y26, rfl, f24, f25⟩ := q20
  clear o21
  have hf27 := fz_fr_tr hf13 hf23 (show fz_su [(20, 3)] [(20, 3), (20, 4), (21, 4), (22, 99999), (23, 99999)] = true from rfl)
  have t28 : H18 20 4 = H4 20 4 := hf23 20 4 rfl
  have t29 : H18 21 4 = H4 21 4 := hf23 21 4 rfl
  have k30 := fl_st_nx k14 (fl_gC_e (funext fun s => hf13 26 s rfl) (hf13 20 2 rfl)) (fl_nxS f25) (hf23 20 4 rfl) (hf23 21 4 rfl) (funext fun s => hf23 22 s rfl) (funext fun s => hf23 23 s rfl)
  refine fz_istore_n (ls' := [(2, fz_i y26), (0, fz_r 20), (1, fz_i L)]) kX5_readS rfl (by decide) rfl ?_
  refine fz_iconst ⟨by decide, by decide⟩ kX5_readS rfl ?_
  refine fz_istore_n (ls' := [(3, fz_i 0), (2, fz_i y26), (0, fz_r 20), (1, fz_i L)]) kX5_readS rfl (by decide) rfl ?_
  have lp38 : ∀ (n37 : Nat) (x32 : Int) (x33 : Int) (H34 : fz_H), fz_Iv H34 → fz_fr [(20, 3), (20, 4), (21, 4), (22, 99999), (23, 99999)] h H34 → (0 ≤ x32 ∧ x32 ≤ 2147483647) → ((-2147483648) ≤ x33 ∧ x33 ≤ 2147483647) → (x33 = 0 ∨ x33 = 43 ∨ x33 = 45 ∨ x33 = 45) → (h 20 4 = 0 ∨ (H34 20 4 = 1 ∧ H34 20 3 = h 20 3)) → (H34 20 4 = 1 ∨ (x33 = 0 ∧ H34 21 4 - h 21 4 ≤ H34 20 3 - h 20 3 ∧ h 20 3 + x32 + 1 ≤ H34 20 3) ∨ (x33 ≠ 0 ∧ H34 21 4 - h 21 4 + 1 ≤ H34 20 3 - h 20 3 ∧ h 20 3 + x32 + 2 ≤ H34 20 3)) → (fl_stC h H34 (fl_eS (fl_gC h) (fl_pO (fl_gC h) (k + 1)) (h 20 3)) (fl_nx fl_oS (fl_eP (fl_gC h) (fl_pO (fl_gC h) (k + 1))) (fl_gC h) (199 - x32).toNat x33 (H34 20 3))) → (120 - x32).toNat < n37 → fz_R (D + 10) mX5_readS 18 [(3, fz_i x32), (2, fz_i x33), (0, fz_r 20), (1, fz_i L)] [] H34 (qX5_readS_g (k + 1) L h) := by
    intro n37
    induction n37 with
    | zero => intro x32 x33 H34 hI35 hf36 hv41 hv42 hv43 hv44 hv45 hv46 hm40; exact absurd hm40 (by omega)
    | succ n37 ih39 =>
      intro x32 x33 H34 hI35 hf36 hv41 hv42 hv43 hv44 hv45 hv46 hm40
      refine fz_iload_n kX5_readS rfl rfl ?_
      refine fz_bipush ⟨by decide, by decide⟩ kX5_readS rfl ?_
      refine fz_icmp_ge (tgt := 60) kX5_readS rfl (by decide) (fun c47 => ?_) (fun c47 => ?_)
      · have k48 : 0 ≤ H34 20 3 ∧ H34 20 3 ≤ 120 := hI35.1 20 _
        exact fz_vret kX5_readS rfl rfl ⟨hI35, hf36, rfl, (by omega), (by omega), (by first | exact fl_st_x0 hv46 (by omega) | exact fl_st_xf hv46 (by omega))⟩
      · refine fz_iload_n kX5_readS rfl rfl ?_
        refine fz_if_eq (tgt := 60) kX5_readS rfl (by decide) (fun c50 => ?_) (fun c50 => ?_)
        · have k51 : 0 ≤ H34 20 3 ∧ H34 20 3 ≤ 120 := hI35.1 20 _
          exact fz_vret kX5_readS rfl rfl ⟨hI35, hf36, rfl, (by omega), (by omega), (by first | exact fl_st_x0 hv46 (by omega) | exact fl_st_xf hv46 (by omega))⟩
        · refine fz_aload_n kX5_readS rfl rfl ?_
          refine fz_iload_n kX5_readS rfl rfl ?_
          have b53 : 0 ≤ H34 20 4 ∧ H34 20 4 ≤ 1 := hI35.1 20 _
          have b54 : 0 ≤ H34 21 4 ∧ H34 21 4 ≤ 128 := hI35.1 21 _
          have b55 : 0 ≤ H34 20 3 ∧ H34 20 3 ≤ 120 := hI35.1 20 _
          refine fz_callV (d' := (D + 9)) (M' := mX5_readP) (As := [fz_i L]) (st := []) kX5_readS rfl rfl vX5_readP rfl rfl rfl rfl (Nat.le_of_ble_eq_true rfl) (Nat.le_of_ble_eq_true rfl) (by omega) (sX5_readP_g k L D hL ihO ihE H34 hI35  (by omega)) (fun H56 r57 q58 o59 => ?_)
          obtain ⟨hI60, hf61, rfl, f62, f63, f64⟩ := q58
          clear o59
          have hf65 := fz_fr_tr hf36 hf61 (show fz_su [(20, 3), (20, 4), (21, 4), (22, 99999), (23, 99999)] [(20, 3), (20, 4), (21, 4), (22, 99999), (23, 99999)] = true from rfl)
          have k66 : 0 ≤ H56 20 3 ∧ H56 20 3 ≤ 120 := hI60.1 20 _
          refine fz_aload_n kX5_readS rfl rfl ?_
          refine fz_getR (t := 21) kX5_readS rfl rfl ?_
          refine fz_iload_n kX5_readS rfl rfl ?_
          refine fz_iconst ⟨by decide, by decide⟩ kX5_readS rfl ?_
          have b67 : 0 ≤ H56 21 4 ∧ H56 21 4 ≤ 128 := hI60.1 21 _
          refine fz_callV (d' := 0) (M' := mX3_add) (As := [fz_i x33, fz_i 0]) (st := []) kX5_readS rfl rfl vX3_add rfl rfl rfl rfl (Nat.le_of_ble_eq_true rfl) (Nat.le_of_ble_eq_true rfl) (by omega) (sX3_add H56 hI60 x33 0 ) (fun H68 r69 q70 o71 => ?_)
          obtain ⟨hI72, hf73, y77, rfl, f74, f75, f76⟩ := q70
          clear o71
          have hf78 := fz_fr_tr hf65 hf73 (show fz_su [(21, 4), (22, 99999), (23, 99999)] [(20, 3), (20, 4), (21, 4), (22, 99999), (23, 99999)] = true from rfl)
          have t79 : H68 20 3 = H56 20 3 := hf73 20 3 rfl
          have t80 : H68 20 4 = H56 20 4 := hf73 20 4 rfl
          refine fz_pop rfl kX5_readS rfl ?_
          have k81 : 0 ≤ fl_lh H68 → H68 20 4 = 0 := fl_lh_0
          have k82 := fl_st_k (k' := (199 - (x32 + 1)).toNat + 1) (fl_st_it ⟨by omega, by omega⟩ hv46 (by omega) f64 (congrArg (fun g => fl_eP g (fl_pO g (k + 1))) (fl_gC_e (funext fun s => hf36 26 s rfl) (hf36 20 2 rfl))) f76 (fl_cmS (by omega)) (by omega) (hf73 20 3 rfl) (hf73 20 4 rfl)) (by omega)
          refine fz_aload_n kX5_readS rfl rfl ?_
          refine fz_bipush ⟨by decide, by decide⟩ kX5_readS rfl ?_
          refine fz_bipush ⟨by decide, by decide⟩ kX5_readS rfl ?_
          refine fz_bipush ⟨by decide, by decide⟩ kX5_readS rfl ?_
          have b84 : 0 ≤ H68 20 3 ∧ H68 20 3 ≤ 120 := hI72.1 20 _
          refine fz_callV (d' := 1) (M' := mX5_nextOf) (As := [fz_i 43, fz_i 45, fz_i 45]) (st := []) kX5_readS rfl rfl vX5_nextOf rfl rfl rfl rfl (Nat.le_of_ble_eq_true rfl) (Nat.le_of_ble_eq_true rfl) (by omega) (sX5_nextOf H68 hI72 43 45 45 (by omega)) (fun H85 r86 q87 o88 => ?_)
          obtain ⟨hI89, hf90, y93, rfl, f91, f92⟩ := q87
          clear o88
          have hf94 := fz_fr_tr hf78 hf90 (show fz_su [(20, 3)] [(20, 3), (20, 4), (21, 4), (22, 99999), (23, 99999)] = true from rfl)
          have t95 : H85 20 4 = H68 20 4 := hf90 20 4 rfl
          have t96 : H85 21 4 = H68 21 4 := hf90 21 4 rfl
          have k97 := fl_st_nx k82 (fl_gC_e (funext fun s => hf78 26 s rfl) (hf78 20 2 rfl)) (fl_nxS f92) (hf90 20 4 rfl) (hf90 21 4 rfl) (funext fun s => hf90 22 s rfl) (funext fun s => hf90 23 s rfl)
          refine fz_istore_n (ls' := [(2, fz_i y93), (3, fz_i x32), (0, fz_r 20), (1, fz_i L)]) kX5_readS rfl (by decide) rfl ?_
          refine fz_iincN (ls' := [(3, fz_i (x32 + 1)), (2, fz_i y93), (0, fz_r 20), (1, fz_i L)]) kX5_readS rfl (by decide) rfl (by omega) rfl ?_
          refine fz_goto (tgt := 18) kX5_readS rfl (by decide) ?_
          exact ih39 (x32 + 1) y93 H85 hI89 hf94 (by omega) (by omega) (by omega) (by omega) (by omega) (k97) (by omega)
  exact lp38 _ 0 y26 H18 hI22 hf27 (by omega) (by omega) (by omega) (by omega) (by omega) (fl_st_kn k30 (by omega)) (Nat.lt_succ_self _)

set_option maxHeartbeats 1000000 in
set_option maxRecDepth 100000 in
theorem sX5_readB_g (k : Nat) (L : Int) (D : Nat) (hL : 0 ≤ L ∧ L ≤ 5) (ihO : ∀ (h : fz_H) (hI : fz_Iv h) (hp0 : h 20 4 = 1 ∨ h 21 4 ≤ h 20 3), fz_R (D + 2) mX5_readO 0 [(0, fz_r 20), (1, fz_i (L + 1))] [] h (qX5_readO_g k (L + 1) h)) (ihE : ∀ (h : fz_H) (hI : fz_Iv h) (hp0 : h 20 4 = 1 ∨ h 21 4 ≤ h 20 3), fz_R (D + 7) mX5_readE 0 [(0, fz_r 20), (1, fz_i (L + 1))] [] h (qX5_readE_g k (L + 1) h)) (h : fz_H) (hI : fz_Iv h) (hp0 : h 20 4 = 1 ∨ h 21 4 ≤ h 20 3) : fz_R (D + 11) mX5_readB 0 [(0, fz_r 20), (1, fz_i L)] [] h (qX5_readB_g (k + 1) L h) := by
  have hf : fz_fr [(20, 3), (20, 4), (21, 4), (22, 99999), (23, 99999)] h h := fz_fr_rf
  have b1 : 0 ≤ h 20 4 ∧ h 20 4 ≤ 1 := hI.1 20 _
  have b2 : 0 ≤ h 21 4 ∧ h 21 4 ≤ 128 := hI.1 21 _
  have b3 : 0 ≤ h 20 3 ∧ h 20 3 ≤ 120 := hI.1 20 _
  refine fz_aload_n kX5_readB rfl rfl ?_
  refine fz_iload_n kX5_readB rfl rfl ?_
  refine fz_callV (d' := (D + 10)) (M' := mX5_readS) (As := [fz_i L]) (st := []) kX5_readB rfl rfl vX5_readS rfl rfl rfl rfl (Nat.le_of_ble_eq_true rfl) (Nat.le_of_ble_eq_true rfl) (by omega) (sX5_readS_g k L D hL ihO ihE h hI  (by omega)) (fun H4 r5 q6 o7 => ?_)
  obtain ⟨hI8, hf9, rfl, f10, f11, f12⟩ := q6
  clear o7
  have hf13 := fz_fr_tr hf hf9 (show fz_su [(20, 3), (20, 4), (21, 4), (22, 99999), (23, 99999)] [(20, 3), (20, 4), (21, 4), (22, 99999), (23, 99999)] = true from rfl)
  have k14 := fl_st_1 (op := fl_oB) (k := 1) (g := fl_gC h) f12 rfl
  have k16 : 0 ≤ fl_lh H4 → H4 20 4 = 0 := fl_lh_0
  refine fz_aload_n kX5_readB rfl rfl ?_
  refine fz_bipush ⟨by decide, by decide⟩ kX5_readB rfl ?_
  refine fz_bipush ⟨by decide, by decide⟩ kX5_readB rfl ?_
  refine fz_bipush ⟨by decide, by decide⟩ kX5_readB rfl ?_
  have b17 : 0 ≤ H4 20 3 ∧ H4 20 3 ≤ 120 := hI8.1 20 _
  refine fz_callV (d' := 1) (M' := mX5_nextOf) (As := [fz_i 60, fz_i 61, fz_i 62]) (st := []) kX5_readB rfl rfl vX5_nextOf rfl rfl rfl rfl (Nat.le_of_ble_eq_true rfl) (Nat.le_of_ble_eq_true rfl) (by omega) (sX5_nextOf H4 hI8 60 61 62 (by omega)) (fun H18 r19 q20 o21 => ?_)
  obtain ⟨hI22, hf23, y26, rfl, f24, f25⟩ := q20
  clear o21
  have hf27 := fz_fr_tr hf13 hf23 (show fz_su [(20, 3)] [(20, 3), (20, 4), (21, 4), (22, 99999), (23, 99999)] = true from rfl)
  have t28 : H18 20 4 = H4 20 4 := hf23 20 4 rfl
  have t29 : H18 21 4 = H4 21 4 := hf23 21 4 rfl
  have k30 := fl_st_nx k14 (fl_gC_e (funext fun s => hf13 26 s rfl) (hf13 20 2 rfl)) (fl_nxB f25) (hf23 20 4 rfl) (hf23 21 4 rfl) (funext fun s => hf23 22 s rfl) (funext fun s => hf23 23 s rfl)
  refine fz_istore_n (ls' := [(2, fz_i y26), (0, fz_r 20), (1, fz_i L)]) kX5_readB rfl (by decide) rfl ?_
  refine fz_iload_n kX5_readB rfl rfl ?_
  refine fz_if_eq (tgt := 35) kX5_readB rfl (by decide) (fun c32 => ?_) (fun c32 => ?_)
  · exact fz_vret kX5_readB rfl rfl ⟨hI22, hf27, rfl, (by omega), (by omega), (by first | exact fl_st_x0 k30 (by omega) | exact fl_st_x (fl_st_it ⟨by omega, by omega⟩ k30 (by omega) lost (congrArg (fun g => fl_eS g (fl_pO g (k + 1))) (fl_gC_e (funext fun s => lost 26 s rfl) (lost 20 2 rfl))) lost (fl_cmB (by omega)) (by omega) (lost 20 3 rfl) (lost 20 4 rfl)))⟩
  · refine fz_aload_n kX5_readB rfl rfl ?_
    refine fz_iload_n kX5_readB rfl rfl ?_
    have b34 : 0 ≤ H18 20 4 ∧ H18 20 4 ≤ 1 := hI22.1 20 _
    have b35 : 0 ≤ H18 21 4 ∧ H18 21 4 ≤ 128 := hI22.1 21 _
    have b36 : 0 ≤ H18 20 3 ∧ H18 20 3 ≤ 120 := hI22.1 20 _
    refine fz_callV (d' := (D + 10)) (M' := mX5_readS) (As := [fz_i L]) (st := []) kX5_readB rfl rfl vX5_readS rfl rfl rfl rfl (Nat.le_of_ble_eq_true rfl) (Nat.le_of_ble_eq_true rfl) (by omega) (sX5_readS_g k L D hL ihO ihE H18 hI22  (by omega)) (fun H37 r38 q39 o40 => ?_)
    obtain ⟨hI41, hf42, rfl, f43, f44, f45⟩ := q39
    clear o40
    have hf46 := fz_fr_tr hf27 hf42 (show fz_su [(20, 3), (20, 4), (21, 4), (22, 99999), (23, 99999)] [(20, 3), (20, 4), (21, 4), (22, 99999), (23, 99999)] = true from rfl)
    have k47 : 0 ≤ H37 20 3 ∧ H37 20 3 ≤ 120 := hI41.1 20 _
    refine fz_aload_n kX5_readB rfl rfl ?_
    refine fz_getR (t := 21) kX5_readB rfl rfl ?_
    refine fz_iload_n kX5_readB rfl rfl ?_
    refine fz_iconst ⟨by decide, by decide⟩ kX5_readB rfl ?_
    have b48 : 0 ≤ H37 21 4 ∧ H37 21 4 ≤ 128 := hI41.1 21 _
    refine fz_callV (d' := 0) (M' := mX3_add) (As := [fz_i y26, fz_i 0]) (st := []) kX5_readB rfl rfl vX3_add rfl rfl rfl rfl (Nat.le_of_ble_eq_true rfl) (Nat.le_of_ble_eq_true rfl) (by omega) (sX3_add H37 hI41 y26 0 ) (fun H49 r50 q51 o52 => ?_)
    obtain ⟨hI53, hf54, y58, rfl, f55, f56, f57⟩ := q51
    clear o52
    have hf59 := fz_fr_tr hf46 hf54 (show fz_su [(21, 4), (22, 99999), (23, 99999)] [(20, 3), (20, 4), (21, 4), (22, 99999), (23, 99999)] = true from rfl)
    have t60 : H49 20 3 = H37 20 3 := hf54 20 3 rfl
    have t61 : H49 20 4 = H37 20 4 := hf54 20 4 rfl
    refine fz_pop rfl kX5_readB rfl ?_
    exact fz_vret kX5_readB rfl rfl ⟨hI53, hf59, rfl, (by omega), (by omega), (by first | exact fl_st_x0 k30 (by omega) | exact fl_st_x (fl_st_it ⟨by omega, by omega⟩ k30 (by omega) f45 (congrArg (fun g => fl_eS g (fl_pO g (k + 1))) (fl_gC_e (funext fun s => hf27 26 s rfl) (hf27 20 2 rfl))) f57 (fl_cmB (by omega)) (by omega) (hf54 20 3 rfl) (hf54 20 4 rfl)))⟩

set_option maxHeartbeats 1000000 in
set_option maxRecDepth 100000 in
theorem sX5_readA_g (k : Nat) (L : Int) (D : Nat) (hL : 0 ≤ L ∧ L ≤ 5) (ihO : ∀ (h : fz_H) (hI : fz_Iv h) (hp0 : h 20 4 = 1 ∨ h 21 4 ≤ h 20 3), fz_R (D + 2) mX5_readO 0 [(0, fz_r 20), (1, fz_i (L + 1))] [] h (qX5_readO_g k (L + 1) h)) (ihE : ∀ (h : fz_H) (hI : fz_Iv h) (hp0 : h 20 4 = 1 ∨ h 21 4 ≤ h 20 3), fz_R (D + 7) mX5_readE 0 [(0, fz_r 20), (1, fz_i (L + 1))] [] h (qX5_readE_g k (L + 1) h)) (h : fz_H) (hI : fz_Iv h) (hp0 : h 20 4 = 1 ∨ h 21 4 ≤ h 20 3) : fz_R (D + 12) mX5_readA 0 [(0, fz_r 20), (1, fz_i L)] [] h (qX5_readA_g (k + 1) L h) := by
  have hf : fz_fr [(20, 3), (20, 4), (21, 4), (22, 99999), (23, 99999)] h h := fz_fr_rf
  have b1 : 0 ≤ h 20 4 ∧ h 20 4 ≤ 1 := hI.1 20 _
  have b2 : 0 ≤ h 21 4 ∧ h 21 4 ≤ 128 := hI.1 21 _
  have b3 : 0 ≤ h 20 3 ∧ h 20 3 ≤ 120 := hI.1 20 _
  refine fz_aload_n kX5_readA rfl rfl ?_
  refine fz_iload_n kX5_readA rfl rfl ?_
  refine fz_callV (d' := (D + 11)) (M' := mX5_readB) (As := [fz_i L]) (st := []) kX5_readA rfl rfl vX5_readB rfl rfl rfl rfl (Nat.le_of_ble_eq_true rfl) (Nat.le_of_ble_eq_true rfl) (by omega) (sX5_readB_g k L D hL ihO ihE h hI  (by omega)) (fun H4 r5 q6 o7 => ?_)
  obtain ⟨hI8, hf9, rfl, f10, f11, f12⟩ := q6
  clear o7
  have hf13 := fz_fr_tr hf hf9 (show fz_su [(20, 3), (20, 4), (21, 4), (22, 99999), (23, 99999)] [(20, 3), (20, 4), (21, 4), (22, 99999), (23, 99999)] = true from rfl)
  have k14 := fl_st_1 (op := fl_oA) (k := 200) (g := fl_gC h) f12 rfl
  refine fz_iconst ⟨by decide, by decide⟩ kX5_readA rfl ?_
  refine fz_istore_n (ls' := [(2, fz_i 0), (0, fz_r 20), (1, fz_i L)]) kX5_readA rfl (by decide) rfl ?_
  have lp21 : ∀ (n20 : Nat) (x16 : Int) (H17 : fz_H), fz_Iv H17 → fz_fr [(20, 3), (20, 4), (21, 4), (22, 99999), (23, 99999)] h H17 → (0 ≤ x16 ∧ x16 ≤ 2147483647) → (h 20 4 = 0 ∨ (H17 20 4 = 1 ∧ H17 20 3 = h 20 3)) → (H17 20 4 = 1 ∨ (H17 21 4 - h 21 4 ≤ H17 20 3 - h 20 3 ∧ h 20 3 + x16 + 1 ≤ H17 20 3)) → (fl_stC h H17 (fl_eA (fl_gC h) (fl_pO (fl_gC h) (k + 1)) (h 20 3)) (fl_ch fl_oA (fl_eB (fl_gC h) (fl_pO (fl_gC h) (k + 1))) (fl_gC h) (200 - x16).toNat (H17 20 3))) → (120 - x16).toNat < n20 → fz_R (D + 12) mX5_readA 7 [(2, fz_i x16), (0, fz_r 20), (1, fz_i L)] [] H17 (qX5_readA_g (k + 1) L h) := by
    intro n20
    induction n20 with
    | zero => intro x16 H17 hI18 hf19 hv24 hv25 hv26 hv27 hm23; exact absurd hm23 (by omega)
    | succ n20 ih22 =>
      intro x16 H17 hI18 hf19 hv24 hv25 hv26 hv27 hm23
      refine fz_iload_n kX5_readA rfl rfl ?_
      refine fz_bipush ⟨by decide, by decide⟩ kX5_readA rfl ?_
      refine fz_icmp_ge (tgt := 44) kX5_readA rfl (by decide) (fun c28 => ?_) (fun c28 => ?_)
      · have k29 : 0 ≤ H17 20 3 ∧ H17 20 3 ≤ 120 := hI18.1 20 _
        exact fz_vret kX5_readA rfl rfl ⟨hI18, hf19, rfl, (by omega), (by omega), (by first | exact fl_st_x0 (fl_st_nx (y := 0) (fl_st_k (k' := (200 - (x16 + 1)).toNat + 1) hv27 (by omega)) (fl_gC_e (funext fun s => lost 26 s rfl) (lost 20 2 rfl)) (fl_nxA lost (Or.inr ⟨by omega, rfl⟩)) (lost 20 4 rfl) (lost 21 4 rfl) (funext fun s => lost 22 s rfl) (funext fun s => lost 23 s rfl)) rfl | exact fl_st_xf hv27 (by omega))⟩
      · have k31 : 0 ≤ fl_lh H17 → H17 20 4 = 0 := fl_lh_0
        refine fz_aload_n kX5_readA rfl rfl ?_
        refine fz_bipush ⟨by decide, by decide⟩ kX5_readA rfl ?_
        have b32 : 0 ≤ H17 20 3 ∧ H17 20 3 ≤ 120 := hI18.1 20 _
        have b33 : 0 ≤ h 20 2 ∧ h 20 2 ≤ 120 := hI.1 20 _
        have e34 : H17 20 2 = h 20 2 := hf19 20 2 rfl
        refine fz_callV (d' := 1) (M' := mX5_goesOnWith) (As := [fz_i 38]) (st := []) kX5_readA rfl rfl vX5_goesOnWith rfl rfl rfl rfl (Nat.le_of_ble_eq_true rfl) (Nat.le_of_ble_eq_true rfl) (by omega) (sX5_goesOnWith H17 hI18 38 (by omega)) (fun H35 r36 q37 o38 => ?_)
        obtain ⟨hI39, hf40, y42, rfl, p43, f41⟩ := q37
        clear o38
        have hf44 := fz_fr_tr hf19 hf40 (show fz_su [(20, 3)] [(20, 3), (20, 4), (21, 4), (22, 99999), (23, 99999)] = true from rfl)
        have t45 : H35 20 4 = H17 20 4 := hf40 20 4 rfl
        have t46 : H35 21 4 = H17 21 4 := hf40 21 4 rfl
        refine fz_if_eq (tgt := 44) kX5_readA rfl (by decide) (fun c47 => ?_) (fun c47 => ?_)
        · have k48 : 0 ≤ H35 20 3 ∧ H35 20 3 ≤ 120 := hI39.1 20 _
          exact fz_vret kX5_readA rfl rfl ⟨hI39, hf44, rfl, (by omega), (by omega), (by first | exact fl_st_x0 (fl_st_nx (y := 0) (fl_st_k (k' := (200 - (x16 + 1)).toNat + 1) hv27 (by omega)) (fl_gC_e (funext fun s => hf19 26 s rfl) (hf19 20 2 rfl)) (fl_nxA f41 (Or.inr ⟨by omega, rfl⟩)) (hf40 20 4 rfl) (hf40 21 4 rfl) (funext fun s => hf40 22 s rfl) (funext fun s => hf40 23 s rfl)) rfl | exact fl_st_xf hv27 (by omega))⟩
        · have k50 := fl_st_nx (y := 38) (fl_st_k (k' := (200 - (x16 + 1)).toNat + 1) hv27 (by omega)) (fl_gC_e (funext fun s => hf19 26 s rfl) (hf19 20 2 rfl)) (fl_nxA f41 (Or.inl ⟨by omega, rfl⟩)) (hf40 20 4 rfl) (hf40 21 4 rfl) (funext fun s => hf40 22 s rfl) (funext fun s => hf40 23 s rfl)
          refine fz_aload_n kX5_readA rfl rfl ?_
          refine fz_iload_n kX5_readA rfl rfl ?_
          have b52 : 0 ≤ H35 20 4 ∧ H35 20 4 ≤ 1 := hI39.1 20 _
          have b53 : 0 ≤ H35 21 4 ∧ H35 21 4 ≤ 128 := hI39.1 21 _
          have b54 : 0 ≤ H35 20 3 ∧ H35 20 3 ≤ 120 := hI39.1 20 _
          refine fz_callV (d' := (D + 11)) (M' := mX5_readB) (As := [fz_i L]) (st := []) kX5_readA rfl rfl vX5_readB rfl rfl rfl rfl (Nat.le_of_ble_eq_true rfl) (Nat.le_of_ble_eq_true rfl) (by omega) (sX5_readB_g k L D hL ihO ihE H35 hI39  (by omega)) (fun H55 r56 q57 o58 => ?_)
          obtain ⟨hI59, hf60, rfl, f61, f62, f63⟩ := q57
          clear o58
          have hf64 := fz_fr_tr hf44 hf60 (show fz_su [(20, 3), (20, 4), (21, 4), (22, 99999), (23, 99999)] [(20, 3), (20, 4), (21, 4), (22, 99999), (23, 99999)] = true from rfl)
          have k65 : 0 ≤ H55 20 3 ∧ H55 20 3 ≤ 120 := hI59.1 20 _
          refine fz_aload_n kX5_readA rfl rfl ?_
          refine fz_getR (t := 21) kX5_readA rfl rfl ?_
          refine fz_bipush ⟨by decide, by decide⟩ kX5_readA rfl ?_
          refine fz_iconst ⟨by decide, by decide⟩ kX5_readA rfl ?_
          have b66 : 0 ≤ H55 21 4 ∧ H55 21 4 ≤ 128 := hI59.1 21 _
          refine fz_callV (d' := 0) (M' := mX3_add) (As := [fz_i 38, fz_i 0]) (st := []) kX5_readA rfl rfl vX3_add rfl rfl rfl rfl (Nat.le_of_ble_eq_true rfl) (Nat.le_of_ble_eq_true rfl) (by omega) (sX3_add H55 hI59 38 0 ) (fun H67 r68 q69 o70 => ?_)
          obtain ⟨hI71, hf72, y76, rfl, f73, f74, f75⟩ := q69
          clear o70
          have hf77 := fz_fr_tr hf64 hf72 (show fz_su [(21, 4), (22, 99999), (23, 99999)] [(20, 3), (20, 4), (21, 4), (22, 99999), (23, 99999)] = true from rfl)
          have t78 : H67 20 3 = H55 20 3 := hf72 20 3 rfl
          have t79 : H67 20 4 = H55 20 4 := hf72 20 4 rfl
          refine fz_pop rfl kX5_readA rfl ?_
          have k80 := fl_st_it ⟨by omega, by omega⟩ k50 (by decide) f63 (congrArg (fun g => fl_eB g (fl_pO g (k + 1))) (fl_gC_e (funext fun s => hf44 26 s rfl) (hf44 20 2 rfl))) f75 rfl (by omega) (hf72 20 3 rfl) (hf72 20 4 rfl)
          refine fz_iincN (ls' := [(2, fz_i (x16 + 1)), (0, fz_r 20), (1, fz_i L)]) kX5_readA rfl (by decide) rfl (by omega) rfl ?_
          refine fz_goto (tgt := 7) kX5_readA rfl (by decide) ?_
          exact ih22 (x16 + 1) H67 hI71 hf77 (by omega) (by omega) (by omega) (k80) (by omega)
  exact lp21 _ 0 H4 hI8 hf13 (by omega) (by omega) (by omega) (fl_st_k k14 (by omega)) (Nat.lt_succ_self _)

set_option maxHeartbeats 1000000 in
set_option maxRecDepth 100000 in
theorem sX5_readE_g (k : Nat) (L : Int) (D : Nat) (hL : 0 ≤ L ∧ L ≤ 5) (ihO : ∀ (h : fz_H) (hI : fz_Iv h) (hp0 : h 20 4 = 1 ∨ h 21 4 ≤ h 20 3), fz_R (D + 2) mX5_readO 0 [(0, fz_r 20), (1, fz_i (L + 1))] [] h (qX5_readO_g k (L + 1) h)) (ihE : ∀ (h : fz_H) (hI : fz_Iv h) (hp0 : h 20 4 = 1 ∨ h 21 4 ≤ h 20 3), fz_R (D + 7) mX5_readE 0 [(0, fz_r 20), (1, fz_i (L + 1))] [] h (qX5_readE_g k (L + 1) h)) (h : fz_H) (hI : fz_Iv h) (hp0 : h 20 4 = 1 ∨ h 21 4 ≤ h 20 3) : fz_R (D + 13) mX5_readE 0 [(0, fz_r 20), (1, fz_i L)] [] h (qX5_readE_g (k + 1) L h) := by
  have hf : fz_fr [(20, 3), (20, 4), (21, 4), (22, 99999), (23, 99999)] h h := fz_fr_rf
  have b1 : 0 ≤ h 20 4 ∧ h 20 4 ≤ 1 := hI.1 20 _
  have b2 : 0 ≤ h 21 4 ∧ h 21 4 ≤ 128 := hI.1 21 _
  have b3 : 0 ≤ h 20 3 ∧ h 20 3 ≤ 120 := hI.1 20 _
  refine fz_aload_n kX5_readE rfl rfl ?_
  refine fz_iload_n kX5_readE rfl rfl ?_
  refine fz_callV (d' := (D + 12)) (M' := mX5_readA) (As := [fz_i L]) (st := []) kX5_readE rfl rfl vX5_readA rfl rfl rfl rfl (Nat.le_of_ble_eq_true rfl) (Nat.le_of_ble_eq_true rfl) (by omega) (sX5_readA_g k L D hL ihO ihE h hI  (by omega)) (fun H4 r5 q6 o7 => ?_)
  obtain ⟨hI8, hf9, rfl, f10, f11, f12⟩ := q6
  clear o7
  have hf13 := fz_fr_tr hf hf9 (show fz_su [(20, 3), (20, 4), (21, 4), (22, 99999), (23, 99999)] [(20, 3), (20, 4), (21, 4), (22, 99999), (23, 99999)] = true from rfl)
  have k14 := fl_st_1 (op := fl_oE) (k := 200) (g := fl_gC h) f12 rfl
  refine fz_iconst ⟨by decide, by decide⟩ kX5_readE rfl ?_
  refine fz_istore_n (ls' := [(2, fz_i 0), (0, fz_r 20), (1, fz_i L)]) kX5_readE rfl (by decide) rfl ?_
  have lp21 : ∀ (n20 : Nat) (x16 : Int) (H17 : fz_H), fz_Iv H17 → fz_fr [(20, 3), (20, 4), (21, 4), (22, 99999), (23, 99999)] h H17 → (0 ≤ x16 ∧ x16 ≤ 2147483647) → (h 20 4 = 0 ∨ (H17 20 4 = 1 ∧ H17 20 3 = h 20 3)) → (H17 20 4 = 1 ∨ (H17 21 4 - h 21 4 ≤ H17 20 3 - h 20 3 ∧ h 20 3 + x16 + 1 ≤ H17 20 3)) → (fl_stC h H17 (fl_eE (fl_gC h) (fl_pO (fl_gC h) (k + 1)) (h 20 3)) (fl_ch fl_oE (fl_eA (fl_gC h) (fl_pO (fl_gC h) (k + 1))) (fl_gC h) (200 - x16).toNat (H17 20 3))) → (120 - x16).toNat < n20 → fz_R (D + 13) mX5_readE 7 [(2, fz_i x16), (0, fz_r 20), (1, fz_i L)] [] H17 (qX5_readE_g (k + 1) L h) := by
    intro n20
    induction n20 with
    | zero => intro x16 H17 hI18 hf19 hv24 hv25 hv26 hv27 hm23; exact absurd hm23 (by omega)
    | succ n20 ih22 =>
      intro x16 H17 hI18 hf19 hv24 hv25 hv26 hv27 hm23
      refine fz_iload_n kX5_readE rfl rfl ?_
      refine fz_bipush ⟨by decide, by decide⟩ kX5_readE rfl ?_
      refine fz_icmp_ge (tgt := 44) kX5_readE rfl (by decide) (fun c28 => ?_) (fun c28 => ?_)
      · have k29 : 0 ≤ H17 20 3 ∧ H17 20 3 ≤ 120 := hI18.1 20 _
        exact fz_vret kX5_readE rfl rfl ⟨hI18, hf19, rfl, (by omega), (by omega), (by first | exact fl_st_x0 (fl_st_nx (y := 0) (fl_st_k (k' := (200 - (x16 + 1)).toNat + 1) hv27 (by omega)) (fl_gC_e (funext fun s => lost 26 s rfl) (lost 20 2 rfl)) (fl_nxE lost (Or.inr ⟨by omega, rfl⟩)) (lost 20 4 rfl) (lost 21 4 rfl) (funext fun s => lost 22 s rfl) (funext fun s => lost 23 s rfl)) rfl | exact fl_st_xf hv27 (by omega))⟩
      · have k31 : 0 ≤ fl_lh H17 → H17 20 4 = 0 := fl_lh_0
        refine fz_aload_n kX5_readE rfl rfl ?_
        refine fz_bipush ⟨by decide, by decide⟩ kX5_readE rfl ?_
        have b32 : 0 ≤ H17 20 3 ∧ H17 20 3 ≤ 120 := hI18.1 20 _
        have b33 : 0 ≤ h 20 2 ∧ h 20 2 ≤ 120 := hI.1 20 _
        have e34 : H17 20 2 = h 20 2 := hf19 20 2 rfl
        refine fz_callV (d' := 1) (M' := mX5_goesOnWith) (As := [fz_i 124]) (st := []) kX5_readE rfl rfl vX5_goesOnWith rfl rfl rfl rfl (Nat.le_of_ble_eq_true rfl) (Nat.le_of_ble_eq_true rfl) (by omega) (sX5_goesOnWith H17 hI18 124 (by omega)) (fun H35 r36 q37 o38 => ?_)
        obtain ⟨hI39, hf40, y42, rfl, p43, f41⟩ := q37
        clear o38
        have hf44 := fz_fr_tr hf19 hf40 (show fz_su [(20, 3)] [(20, 3), (20, 4), (21, 4), (22, 99999), (23, 99999)] = true from rfl)
        have t45 : H35 20 4 = H17 20 4 := hf40 20 4 rfl
        have t46 : H35 21 4 = H17 21 4 := hf40 21 4 rfl
        refine fz_if_eq (tgt := 44) kX5_readE rfl (by decide) (fun c47 => ?_) (fun c47 => ?_)
        · have k48 : 0 ≤ H35 20 3 ∧ H35 20 3 ≤ 120 := hI39.1 20 _
          exact fz_vret kX5_readE rfl rfl ⟨hI39, hf44, rfl, (by omega), (by omega), (by first | exact fl_st_x0 (fl_st_nx (y := 0) (fl_st_k (k' := (200 - (x16 + 1)).toNat + 1) hv27 (by omega)) (fl_gC_e (funext fun s => hf19 26 s rfl) (hf19 20 2 rfl)) (fl_nxE f41 (Or.inr ⟨by omega, rfl⟩)) (hf40 20 4 rfl) (hf40 21 4 rfl) (funext fun s => hf40 22 s rfl) (funext fun s => hf40 23 s rfl)) rfl | exact fl_st_xf hv27 (by omega))⟩
        · have k50 := fl_st_nx (y := 124) (fl_st_k (k' := (200 - (x16 + 1)).toNat + 1) hv27 (by omega)) (fl_gC_e (funext fun s => hf19 26 s rfl) (hf19 20 2 rfl)) (fl_nxE f41 (Or.inl ⟨by omega, rfl⟩)) (hf40 20 4 rfl) (hf40 21 4 rfl) (funext fun s => hf40 22 s rfl) (funext fun s => hf40 23 s rfl)
          refine fz_aload_n kX5_readE rfl rfl ?_
          refine fz_iload_n kX5_readE rfl rfl ?_
          have b52 : 0 ≤ H35 20 4 ∧ H35 20 4 ≤ 1 := hI39.1 20 _
          have b53 : 0 ≤ H35 21 4 ∧ H35 21 4 ≤ 128 := hI39.1 21 _
          have b54 : 0 ≤ H35 20 3 ∧ H35 20 3 ≤ 120 := hI39.1 20 _
          refine fz_callV (d' := (D + 12)) (M' := mX5_readA) (As := [fz_i L]) (st := []) kX5_readE rfl rfl vX5_readA rfl rfl rfl rfl (Nat.le_of_ble_eq_true rfl) (Nat.le_of_ble_eq_true rfl) (by omega) (sX5_readA_g k L D hL ihO ihE H35 hI39  (by omega)) (fun H55 r56 q57 o58 => ?_)
          obtain ⟨hI59, hf60, rfl, f61, f62, f63⟩ := q57
          clear o58
          have hf64 := fz_fr_tr hf44 hf60 (show fz_su [(20, 3), (20, 4), (21, 4), (22, 99999), (23, 99999)] [(20, 3), (20, 4), (21, 4), (22, 99999), (23, 99999)] = true from rfl)
          have k65 : 0 ≤ H55 20 3 ∧ H55 20 3 ≤ 120 := hI59.1 20 _
          refine fz_aload_n kX5_readE rfl rfl ?_
          refine fz_getR (t := 21) kX5_readE rfl rfl ?_
          refine fz_bipush ⟨by decide, by decide⟩ kX5_readE rfl ?_
          refine fz_iconst ⟨by decide, by decide⟩ kX5_readE rfl ?_
          have b66 : 0 ≤ H55 21 4 ∧ H55 21 4 ≤ 128 := hI59.1 21 _
          refine fz_callV (d' := 0) (M' := mX3_add) (As := [fz_i 124, fz_i 0]) (st := []) kX5_readE rfl rfl vX3_add rfl rfl rfl rfl (Nat.le_of_ble_eq_true rfl) (Nat.le_of_ble_eq_true rfl) (by omega) (sX3_add H55 hI59 124 0 ) (fun H67 r68 q69 o70 => ?_)
          obtain ⟨hI71, hf72, y76, rfl, f73, f74, f75⟩ := q69
          clear o70
          have hf77 := fz_fr_tr hf64 hf72 (show fz_su [(21, 4), (22, 99999), (23, 99999)] [(20, 3), (20, 4), (21, 4), (22, 99999), (23, 99999)] = true from rfl)
          have t78 : H67 20 3 = H55 20 3 := hf72 20 3 rfl
          have t79 : H67 20 4 = H55 20 4 := hf72 20 4 rfl
          refine fz_pop rfl kX5_readE rfl ?_
          have k80 := fl_st_it ⟨by omega, by omega⟩ k50 (by decide) f63 (congrArg (fun g => fl_eA g (fl_pO g (k + 1))) (fl_gC_e (funext fun s => hf44 26 s rfl) (hf44 20 2 rfl))) f75 rfl (by omega) (hf72 20 3 rfl) (hf72 20 4 rfl)
          refine fz_iincN (ls' := [(2, fz_i (x16 + 1)), (0, fz_r 20), (1, fz_i L)]) kX5_readE rfl (by decide) rfl (by omega) rfl ?_
          refine fz_goto (tgt := 7) kX5_readE rfl (by decide) ?_
          exact ih22 (x16 + 1) H67 hI71 hf77 (by omega) (by omega) (by omega) (k80) (by omega)
  exact lp21 _ 0 H4 hI8 hf13 (by omega) (by omega) (by omega) (fl_st_k k14 (by omega)) (Nat.lt_succ_self _)

abbrev qX5_readO_5 (h : fz_H) : fz_H → Option fz_V → Prop := fun h' r0 => fz_Iv h' ∧ fz_fr [(20, 3), (20, 4), (21, 4), (22, 99999), (23, 99999)] h h' ∧ r0 = none ∧ (h 20 4 = 0 ∨ (h' 20 4 = 1 ∧ h' 20 3 = h 20 3)) ∧ (h' 20 4 = 1 ∨ (h' 21 4 - h 21 4 ≤ h' 20 3 - h 20 3 ∧ h 20 3 + 1 ≤ h' 20 3)) ∧ fl_rdC h h' (fl_pO (fl_gC h) 1 (h 20 3))
theorem sX5_readO_5 (h : fz_H) (hI : fz_Iv h) (hp0 : h 20 4 = 1 ∨ h 21 4 ≤ h 20 3) : fz_R 8 mX5_readO 0 [(0, fz_r 20), (1, fz_i 5)] [] h (qX5_readO_5 h) := sX5_readO_g 0 5 0 ⟨by decide, by decide⟩ (fun h hI hp0 => sX5_readO_6 h hI hp0) (fun h hI hp0 => sX5_readE_6 h hI hp0) h hI hp0
abbrev qX5_readP_5 (h : fz_H) : fz_H → Option fz_V → Prop := fun h' r0 => fz_Iv h' ∧ fz_fr [(20, 3), (20, 4), (21, 4), (22, 99999), (23, 99999)] h h' ∧ r0 = none ∧ (h 20 4 = 0 ∨ (h' 20 4 = 1 ∧ h' 20 3 = h 20 3)) ∧ (h' 20 4 = 1 ∨ (h' 21 4 - h 21 4 ≤ h' 20 3 - h 20 3 ∧ h 20 3 + 1 ≤ h' 20 3)) ∧ fl_rdC h h' (fl_eP (fl_gC h) (fl_pO (fl_gC h) 1) (h 20 3))
theorem sX5_readP_5 (h : fz_H) (hI : fz_Iv h) (hp0 : h 20 4 = 1 ∨ h 21 4 ≤ h 20 3) : fz_R 9 mX5_readP 0 [(0, fz_r 20), (1, fz_i 5)] [] h (qX5_readP_5 h) := sX5_readP_g 0 5 0 ⟨by decide, by decide⟩ (fun h hI hp0 => sX5_readO_6 h hI hp0) (fun h hI hp0 => sX5_readE_6 h hI hp0) h hI hp0
abbrev qX5_readS_5 (h : fz_H) : fz_H → Option fz_V → Prop := fun h' r0 => fz_Iv h' ∧ fz_fr [(20, 3), (20, 4), (21, 4), (22, 99999), (23, 99999)] h h' ∧ r0 = none ∧ (h 20 4 = 0 ∨ (h' 20 4 = 1 ∧ h' 20 3 = h 20 3)) ∧ (h' 20 4 = 1 ∨ (h' 21 4 - h 21 4 ≤ h' 20 3 - h 20 3 ∧ h 20 3 + 1 ≤ h' 20 3)) ∧ fl_rdC h h' (fl_eS (fl_gC h) (fl_pO (fl_gC h) 1) (h 20 3))
theorem sX5_readS_5 (h : fz_H) (hI : fz_Iv h) (hp0 : h 20 4 = 1 ∨ h 21 4 ≤ h 20 3) : fz_R 10 mX5_readS 0 [(0, fz_r 20), (1, fz_i 5)] [] h (qX5_readS_5 h) := sX5_readS_g 0 5 0 ⟨by decide, by decide⟩ (fun h hI hp0 => sX5_readO_6 h hI hp0) (fun h hI hp0 => sX5_readE_6 h hI hp0) h hI hp0
abbrev qX5_readB_5 (h : fz_H) : fz_H → Option fz_V → Prop := fun h' r0 => fz_Iv h' ∧ fz_fr [(20, 3), (20, 4), (21, 4), (22, 99999), (23, 99999)] h h' ∧ r0 = none ∧ (h 20 4 = 0 ∨ (h' 20 4 = 1 ∧ h' 20 3 = h 20 3)) ∧ (h' 20 4 = 1 ∨ (h' 21 4 - h 21 4 ≤ h' 20 3 - h 20 3 ∧ h 20 3 + 1 ≤ h' 20 3)) ∧ fl_rdC h h' (fl_eB (fl_gC h) (fl_pO (fl_gC h) 1) (h 20 3))
theorem sX5_readB_5 (h : fz_H) (hI : fz_Iv h) (hp0 : h 20 4 = 1 ∨ h 21 4 ≤ h 20 3) : fz_R 11 mX5_readB 0 [(0, fz_r 20), (1, fz_i 5)] [] h (qX5_readB_5 h) := sX5_readB_g 0 5 0 ⟨by decide, by decide⟩ (fun h hI hp0 => sX5_readO_6 h hI hp0) (fun h hI hp0 => sX5_readE_6 h hI hp0) h hI hp0
abbrev qX5_readA_5 (h : fz_H) : fz_H → Option fz_V → Prop := fun h' r0 => fz_Iv h' ∧ fz_fr [(20, 3), (20, 4), (21, 4), (22, 99999), (23, 99999)] h h' ∧ r0 = none ∧ (h 20 4 = 0 ∨ (h' 20 4 = 1 ∧ h' 20 3 = h 20 3)) ∧ (h' 20 4 = 1 ∨ (h' 21 4 - h 21 4 ≤ h' 20 3 - h 20 3 ∧ h 20 3 + 1 ≤ h' 20 3)) ∧ fl_rdC h h' (fl_eA (fl_gC h) (fl_pO (fl_gC h) 1) (h 20 3))
theorem sX5_readA_5 (h : fz_H) (hI : fz_Iv h) (hp0 : h 20 4 = 1 ∨ h 21 4 ≤ h 20 3) : fz_R 12 mX5_readA 0 [(0, fz_r 20), (1, fz_i 5)] [] h (qX5_readA_5 h) := sX5_readA_g 0 5 0 ⟨by decide, by decide⟩ (fun h hI hp0 => sX5_readO_6 h hI hp0) (fun h hI hp0 => sX5_readE_6 h hI hp0) h hI hp0
abbrev qX5_readE_5 (h : fz_H) : fz_H → Option fz_V → Prop := fun h' r0 => fz_Iv h' ∧ fz_fr [(20, 3), (20, 4), (21, 4), (22, 99999), (23, 99999)] h h' ∧ r0 = none ∧ (h 20 4 = 0 ∨ (h' 20 4 = 1 ∧ h' 20 3 = h 20 3)) ∧ (h' 20 4 = 1 ∨ (h' 21 4 - h 21 4 ≤ h' 20 3 - h 20 3 ∧ h 20 3 + 1 ≤ h' 20 3)) ∧ fl_rdC h h' (fl_eE (fl_gC h) (fl_pO (fl_gC h) 1) (h 20 3))
theorem sX5_readE_5 (h : fz_H) (hI : fz_Iv h) (hp0 : h 20 4 = 1 ∨ h 21 4 ≤ h 20 3) : fz_R 13 mX5_readE 0 [(0, fz_r 20), (1, fz_i 5)] [] h (qX5_readE_5 h) := sX5_readE_g 0 5 0 ⟨by decide, by decide⟩ (fun h hI hp0 => sX5_readO_6 h hI hp0) (fun h hI hp0 => sX5_readE_6 h hI hp0) h hI hp0
