/-! ===== what the methods keep ===== -/
abbrev qX5_take (h : fz_H) (c : Int) : fz_H → Option fz_V → Prop := fun h' r0 => fz_Iv h' ∧ fz_fr [(20, 2), (26, 99999)] h h' ∧ ∃ r : Int, r0 = some (fz_i r) ∧ ((-3) ≤ r ∧ r ≤ 120) ∧ ((h 20 2 < 120 ∧ r = h 20 2 + 1 ∧ h' 20 2 = h 20 2 + 1) ∨ (120 ≤ h 20 2 ∧ r = -3 ∧ h' 20 2 = h 20 2))
set_option maxHeartbeats 1000000 in
set_option maxRecDepth 100000 in
theorem sX5_take (h : fz_H) (hI : fz_Iv h) (c : Int) (hp0 : 0 ≤ c ∧ c ≤ 255) : fz_R 0 mX5_take 0 [(0, fz_r 20), (1, fz_i c)] [] h (qX5_take h c) := by
  refine fz_knowl (fun hk => ?_)
  have hr_c : -2147483648 ≤ c ∧ c < 2147483648 := hk _ (List.Mem.tail _ (List.Mem.head _))
  clear hk
  have hf : fz_fr [(20, 2), (26, 99999)] h h := fz_fr_rf
  have b1 : 0 ≤ h 20 2 ∧ h 20 2 ≤ 120 := hI.1 20 _
  refine fz_aload_n kX5_take rfl rfl ?_
  refine fz_getV (v := h 20 2) kX5_take rfl rfl rfl ?_
  have b2 : 0 ≤ h 20 2 ∧ h 20 2 ≤ 120 := hI.1 20 _
  refine fz_bipush ⟨by decide, by decide⟩ kX5_take rfl ?_
  refine fz_icmp_lt (tgt := 12) kX5_take rfl (by decide) (fun c3 => ?_) (fun c3 => ?_)
  · refine fz_aload_n kX5_take rfl rfl ?_
    refine fz_getR (t := 26) kX5_take rfl rfl ?_
    refine fz_aload_n kX5_take rfl rfl ?_
    refine fz_getV (v := h 20 2) kX5_take rfl rfl rfl ?_
    refine fz_iload_n kX5_take rfl rfl ?_
    refine fz_iast (n := 120) kX5_take rfl rfl (by omega) (by omega) ?_
    refine fz_nmu (S := [(20, 2), (26, 99999)]) (h0 := h) (fz_Iv_up hI (by decide) (show (0 : Int) ≤ c by omega) (show (c : Int) ≤ 255 by omega)) (fz_fr_up hf rfl) (fun H4 hI5 hf6 e7 => ?_)
    have k8 : H4 20 2 = (h 20 2) := by rw [e7]; exact (fz_up_o (by decide)).trans rfl
    have t9 : H4 20 2 = h 20 2 := by rw [e7]; exact fz_up_o (by decide)
    clear e7
    refine fz_aload_n kX5_take rfl rfl ?_
    refine fz_dup rfl kX5_take rfl ?_
    refine fz_getV (v := (h 20 2)) kX5_take rfl rfl k8 ?_
    refine fz_iconst ⟨by decide, by decide⟩ kX5_take rfl ?_
    refine fz_iaddN kX5_take rfl (by omega) ?_
    refine fz_putI kX5_take rfl rfl rfl ?_
    refine fz_nmu (S := [(20, 2), (26, 99999)]) (h0 := h) (fz_Iv_up hI5 (by decide) (show (0 : Int) ≤ ((h 20 2) + 1) by omega) (show (((h 20 2) + 1) : Int) ≤ 120 by omega)) (fz_fr_up hf6 rfl) (fun H10 hI11 hf12 e13 => ?_)
    have k14 : H10 20 2 = ((h 20 2) + 1) := by rw [e13]; exact fz_up_e
    clear e13
    refine fz_aload_n kX5_take rfl rfl ?_
    refine fz_getV (v := ((h 20 2) + 1)) kX5_take rfl rfl k14 ?_
    exact fz_iret kX5_take rfl rfl (fun _ => ⟨hI11, hf12, _, rfl, (by omega), (by omega)⟩)
  · refine fz_bipush ⟨by decide, by decide⟩ kX5_take rfl ?_
    exact fz_iret kX5_take rfl rfl (fun _ => ⟨hI, hf, _, rfl, (by omega), (by omega)⟩)

abbrev qX5_clear (h : fz_H) : fz_H → Option fz_V → Prop := fun h' r0 => fz_Iv h' ∧ fz_fr [(20, 2)] h h' ∧ r0 = none ∧ h' 20 2 = 0
set_option maxHeartbeats 1000000 in
set_option maxRecDepth 100000 in
theorem sX5_clear (h : fz_H) (hI : fz_Iv h) : fz_R 0 mX5_clear 0 [(0, fz_r 20)] [] h (qX5_clear h) := by
  have hf : fz_fr [(20, 2)] h h := fz_fr_rf
  refine fz_aload_n kX5_clear rfl rfl ?_
  refine fz_iconst ⟨by decide, by decide⟩ kX5_clear rfl ?_
  refine fz_putI kX5_clear rfl rfl rfl ?_
  refine fz_nmu (S := [(20, 2)]) (h0 := h) (fz_Iv_up hI (by decide) (show (0 : Int) ≤ 0 by decide) (show (0 : Int) ≤ 120 by decide)) (fz_fr_up hf rfl) (fun H1 hI2 hf3 e4 => ?_)
  have k5 : H1 20 2 = 0 := by rw [e4]; exact fz_up_e
  clear e4
  exact fz_vret kX5_clear rfl rfl ⟨hI2, hf3, rfl, (by omega)⟩

abbrev qX5_letterHere (h : fz_H) : fz_H → Option fz_V → Prop := fun h' r0 => h' = h ∧ ∃ r : Int, r0 = some (fz_i r) ∧ ((-1) ≤ r ∧ r ≤ 255) ∧ (0 ≤ r → h 20 3 < h 20 2)
set_option maxHeartbeats 1000000 in
set_option maxRecDepth 100000 in
theorem sX5_letterHere (h : fz_H) (hI : fz_Iv h) : fz_R 0 mX5_letterHere 0 [(0, fz_r 20)] [] h (qX5_letterHere h) := by
  have b1 : 0 ≤ h 20 3 ∧ h 20 3 ≤ 120 := hI.1 20 _
  have b2 : 0 ≤ h 20 2 ∧ h 20 2 ≤ 120 := hI.1 20 _
  refine fz_aload_n kX5_letterHere rfl rfl ?_
  refine fz_getV (v := h 20 4) kX5_letterHere rfl rfl rfl ?_
  have b3 : 0 ≤ h 20 4 ∧ h 20 4 ≤ 1 := hI.1 20 _
  refine fz_if_ne (tgt := 30) kX5_letterHere rfl (by decide) (fun c4 => ?_) (fun c4 => ?_)
  · refine fz_iconst ⟨by decide, by decide⟩ kX5_letterHere rfl ?_
    exact fz_iret kX5_letterHere rfl rfl (fun _ => ⟨rfl, _, rfl, (by omega), (by omega)⟩)
  · refine fz_aload_n kX5_letterHere rfl rfl ?_
    refine fz_getV (v := h 20 3) kX5_letterHere rfl rfl rfl ?_
    have b5 : 0 ≤ h 20 3 ∧ h 20 3 ≤ 120 := hI.1 20 _
    refine fz_aload_n kX5_letterHere rfl rfl ?_
    refine fz_getV (v := h 20 2) kX5_letterHere rfl rfl rfl ?_
    have b6 : 0 ≤ h 20 2 ∧ h 20 2 ≤ 120 := hI.1 20 _
    refine fz_icmp_ge (tgt := 30) kX5_letterHere rfl (by decide) (fun c7 => ?_) (fun c7 => ?_)
    · refine fz_iconst ⟨by decide, by decide⟩ kX5_letterHere rfl ?_
      exact fz_iret kX5_letterHere rfl rfl (fun _ => ⟨rfl, _, rfl, (by omega), (by omega)⟩)
    · refine fz_aload_n kX5_letterHere rfl rfl ?_
      refine fz_getR (t := 26) kX5_letterHere rfl rfl ?_
      refine fz_aload_n kX5_letterHere rfl rfl ?_
      refine fz_getV (v := h 20 3) kX5_letterHere rfl rfl rfl ?_
      refine fz_ialdV (n := 120) (v := h 26 ((h 20 3).toNat)) kX5_letterHere rfl rfl (by omega) (by omega) rfl ?_
      have b8 : 0 ≤ h 26 ((h 20 3).toNat) ∧ h 26 ((h 20 3).toNat) ≤ 255 := hI.1 26 _
      refine fz_goto (tgt := 31) kX5_letterHere rfl (by decide) ?_
      exact fz_iret kX5_letterHere rfl rfl (fun _ => ⟨rfl, _, rfl, (by omega), (by omega)⟩)

abbrev qX5_nameOf (h : fz_H) (c : Int) : fz_H → Option fz_V → Prop := fun h' r0 => h' = h ∧ ∃ r : Int, r0 = some (fz_i r) ∧ ((-1) ≤ r ∧ r ≤ 5) ∧ (0 ≤ r → 0 ≤ c)
set_option maxHeartbeats 1000000 in
set_option maxRecDepth 100000 in
theorem sX5_nameOf (h : fz_H) (hI : fz_Iv h) (c : Int) : fz_R 0 mX5_nameOf 0 [(0, fz_i c)] [] h (qX5_nameOf h c) := by
  refine fz_knowl (fun hk => ?_)
  have hr_c : -2147483648 ≤ c ∧ c < 2147483648 := hk _ (List.Mem.head _)
  clear hk
  refine fz_iload_n kX5_nameOf rfl rfl ?_
  by_cases c1 : (c : Int) = 97
  · refine fz_lsw (tgt := 62) kX5_nameOf rfl (by decide) (show Op.lookupswitch.offset [(97, 61), (100, 63), (109, 65), (112, 69), (116, 67), (119, 59)] 71 c = 61 by exact fz_osy c1) (by decide) ?_
    refine fz_iconst ⟨by decide, by decide⟩ kX5_nameOf rfl ?_
    exact fz_iret kX5_nameOf rfl rfl (fun _ => ⟨rfl, _, rfl, (by omega), (by omega)⟩)
  by_cases c2 : (c : Int) = 100
  · refine fz_lsw (tgt := 64) kX5_nameOf rfl (by decide) (show Op.lookupswitch.offset [(97, 61), (100, 63), (109, 65), (112, 69), (116, 67), (119, 59)] 71 c = 63 by rw [fz_osw c1]; exact fz_osy c2) (by decide) ?_
    refine fz_iconst ⟨by decide, by decide⟩ kX5_nameOf rfl ?_
    exact fz_iret kX5_nameOf rfl rfl (fun _ => ⟨rfl, _, rfl, (by omega), (by omega)⟩)
  by_cases c3 : (c : Int) = 109
  · refine fz_lsw (tgt := 66) kX5_nameOf rfl (by decide) (show Op.lookupswitch.offset [(97, 61), (100, 63), (109, 65), (112, 69), (116, 67), (119, 59)] 71 c = 65 by rw [fz_osw c1, fz_osw c2]; exact fz_osy c3) (by decide) ?_
    refine fz_iconst ⟨by decide, by decide⟩ kX5_nameOf rfl ?_
    exact fz_iret kX5_nameOf rfl rfl (fun _ => ⟨rfl, _, rfl, (by omega), (by omega)⟩)
  by_cases c4 : (c : Int) = 112
  · refine fz_lsw (tgt := 70) kX5_nameOf rfl (by decide) (show Op.lookupswitch.offset [(97, 61), (100, 63), (109, 65), (112, 69), (116, 67), (119, 59)] 71 c = 69 by rw [fz_osw c1, fz_osw c2, fz_osw c3]; exact fz_osy c4) (by decide) ?_
    refine fz_iconst ⟨by decide, by decide⟩ kX5_nameOf rfl ?_
    exact fz_iret kX5_nameOf rfl rfl (fun _ => ⟨rfl, _, rfl, (by omega), (by omega)⟩)
  by_cases c5 : (c : Int) = 116
  · refine fz_lsw (tgt := 68) kX5_nameOf rfl (by decide) (show Op.lookupswitch.offset [(97, 61), (100, 63), (109, 65), (112, 69), (116, 67), (119, 59)] 71 c = 67 by rw [fz_osw c1, fz_osw c2, fz_osw c3, fz_osw c4]; exact fz_osy c5) (by decide) ?_
    refine fz_iconst ⟨by decide, by decide⟩ kX5_nameOf rfl ?_
    exact fz_iret kX5_nameOf rfl rfl (fun _ => ⟨rfl, _, rfl, (by omega), (by omega)⟩)
  by_cases c6 : (c : Int) = 119
  · refine fz_lsw (tgt := 60) kX5_nameOf rfl (by decide) (show Op.lookupswitch.offset [(97, 61), (100, 63), (109, 65), (112, 69), (116, 67), (119, 59)] 71 c = 59 by rw [fz_osw c1, fz_osw c2, fz_osw c3, fz_osw c4, fz_osw c5]; exact fz_osy c6) (by decide) ?_
    refine fz_iconst ⟨by decide, by decide⟩ kX5_nameOf rfl ?_
    exact fz_iret kX5_nameOf rfl rfl (fun _ => ⟨rfl, _, rfl, (by omega), (by omega)⟩)
  refine fz_lsw (tgt := 72) kX5_nameOf rfl (by decide) (show Op.lookupswitch.offset [(97, 61), (100, 63), (109, 65), (112, 69), (116, 67), (119, 59)] 71 c = 71 by rw [fz_osw c1, fz_osw c2, fz_osw c3, fz_osw c4, fz_osw c5, fz_osw c6]; rfl) (by decide) ?_
  refine fz_iconst ⟨by decide, by decide⟩ kX5_nameOf rfl ?_
  exact fz_iret kX5_nameOf rfl rfl (fun _ => ⟨rfl, _, rfl, (by omega), (by omega)⟩)

abbrev qX5_goesOnWith (h : fz_H) (c : Int) : fz_H → Option fz_V → Prop := fun h' r0 => fz_Iv h' ∧ fz_fr [(20, 3)] h h' ∧ ∃ r : Int, r0 = some (fz_i r) ∧ (r = 0 ∨ r = 1)
set_option maxHeartbeats 1000000 in
set_option maxRecDepth 100000 in
theorem sX5_goesOnWith (h : fz_H) (hI : fz_Iv h) (c : Int) (hp0 : 0 ≤ c) : fz_R 1 mX5_goesOnWith 0 [(0, fz_r 20), (1, fz_i c)] [] h (qX5_goesOnWith h c) := by
  refine fz_knowl (fun hk => ?_)
  have hr_c : -2147483648 ≤ c ∧ c < 2147483648 := hk _ (List.Mem.tail _ (List.Mem.head _))
  clear hk
  have hf : fz_fr [(20, 3)] h h := fz_fr_rf
  refine fz_aload_n kX5_goesOnWith rfl rfl ?_
  have b1 : 0 ≤ h 20 3 ∧ h 20 3 ≤ 120 := hI.1 20 _
  have b2 : 0 ≤ h 20 2 ∧ h 20 2 ≤ 120 := hI.1 20 _
  refine fz_callV (d' := 0) (M' := mX5_letterHere) (As := []) (st := []) kX5_goesOnWith rfl rfl vX5_letterHere rfl rfl rfl rfl (Nat.le_of_ble_eq_true rfl) (Nat.le_of_ble_eq_true rfl) (by decide) (sX5_letterHere h hI  ) (fun H3 r4 q5 o6 => ?_)
  obtain ⟨e7, y10, rfl, f8, f9⟩ := q5
  subst H3
  clear o6
  refine fz_iload_n kX5_goesOnWith rfl rfl ?_
  refine fz_icmp_ne (tgt := 12) kX5_goesOnWith rfl (by decide) (fun c11 => ?_) (fun c11 => ?_)
  · refine fz_iconst ⟨by decide, by decide⟩ kX5_goesOnWith rfl ?_
    refine fz_istore_n (ls' := [(2, fz_i 0), (0, fz_r 20), (1, fz_i c)]) kX5_goesOnWith rfl (by decide) rfl ?_
    refine fz_iload_n kX5_goesOnWith rfl rfl ?_
    refine fz_if_eq (tgt := 28) kX5_goesOnWith rfl (by decide) (fun c12 => ?_) (fun c12 => ?_)
    · refine fz_iload_n kX5_goesOnWith rfl rfl ?_
      exact fz_zret kX5_goesOnWith rfl rfl (by omega) ⟨hI, hf, _, rfl, (by omega)⟩
    · exfalso; omega
  · refine fz_iconst ⟨by decide, by decide⟩ kX5_goesOnWith rfl ?_
    refine fz_goto (tgt := 13) kX5_goesOnWith rfl (by decide) ?_
    refine fz_istore_n (ls' := [(2, fz_i 1), (0, fz_r 20), (1, fz_i c)]) kX5_goesOnWith rfl (by decide) rfl ?_
    refine fz_iload_n kX5_goesOnWith rfl rfl ?_
    refine fz_if_eq (tgt := 28) kX5_goesOnWith rfl (by decide) (fun c13 => ?_) (fun c13 => ?_)
    · exfalso; omega
    · refine fz_aload_n kX5_goesOnWith rfl rfl ?_
      refine fz_dup rfl kX5_goesOnWith rfl ?_
      refine fz_getV (v := h 20 3) kX5_goesOnWith rfl rfl rfl ?_
      have b14 : 0 ≤ h 20 3 ∧ h 20 3 ≤ 120 := hI.1 20 _
      refine fz_iconst ⟨by decide, by decide⟩ kX5_goesOnWith rfl ?_
      refine fz_iaddN kX5_goesOnWith rfl (by omega) ?_
      refine fz_putI kX5_goesOnWith rfl rfl rfl ?_
      refine fz_nmu (S := [(20, 3)]) (h0 := h) (fz_Iv_up hI (by decide) (show (0 : Int) ≤ ((h 20 3) + 1) by omega) (show (((h 20 3) + 1) : Int) ≤ 120 by omega)) (fz_fr_up hf rfl) (fun H15 hI16 hf17 e18 => ?_)
      have k19 : H15 20 3 = ((h 20 3) + 1) := by rw [e18]; exact fz_up_e
      clear e18
      refine fz_iload_n kX5_goesOnWith rfl rfl ?_
      exact fz_zret kX5_goesOnWith rfl rfl (by omega) ⟨hI16, hf17, _, rfl, (by omega)⟩

abbrev qX5_passed (h : fz_H) (c : Int) : fz_H → Option fz_V → Prop := fun h' r0 => fz_Iv h' ∧ fz_fr [(20, 3)] h h' ∧ ∃ r : Int, r0 = some (fz_i r) ∧ ((-2147483648) ≤ r ∧ r ≤ 2147483647)
set_option maxHeartbeats 1000000 in
set_option maxRecDepth 100000 in
theorem sX5_passed (h : fz_H) (hI : fz_Iv h) (c : Int) (hp0 : 0 ≤ c → h 20 3 < h 20 2) : fz_R 0 mX5_passed 0 [(0, fz_r 20), (1, fz_i c)] [] h (qX5_passed h c) := by
  refine fz_knowl (fun hk => ?_)
  have hr_c : -2147483648 ≤ c ∧ c < 2147483648 := hk _ (List.Mem.tail _ (List.Mem.head _))
  clear hk
  have hf : fz_fr [(20, 3)] h h := fz_fr_rf
  have b1 : 0 ≤ h 20 3 ∧ h 20 3 ≤ 120 := hI.1 20 _
  have b2 : 0 ≤ h 20 2 ∧ h 20 2 ≤ 120 := hI.1 20 _
  refine fz_iload_n kX5_passed rfl rfl ?_
  refine fz_if_lt (tgt := 14) kX5_passed rfl (by decide) (fun c3 => ?_) (fun c3 => ?_)
  · refine fz_iload_n kX5_passed rfl rfl ?_
    exact fz_iret kX5_passed rfl rfl (fun _ => ⟨hI, hf, _, rfl, (by omega)⟩)
  · refine fz_aload_n kX5_passed rfl rfl ?_
    refine fz_dup rfl kX5_passed rfl ?_
    refine fz_getV (v := h 20 3) kX5_passed rfl rfl rfl ?_
    have b4 : 0 ≤ h 20 3 ∧ h 20 3 ≤ 120 := hI.1 20 _
    refine fz_iconst ⟨by decide, by decide⟩ kX5_passed rfl ?_
    refine fz_iaddN kX5_passed rfl (by omega) ?_
    refine fz_putI kX5_passed rfl rfl rfl ?_
    refine fz_nmu (S := [(20, 3)]) (h0 := h) (fz_Iv_up hI (by decide) (show (0 : Int) ≤ ((h 20 3) + 1) by omega) (show (((h 20 3) + 1) : Int) ≤ 120 by omega)) (fz_fr_up hf rfl) (fun H5 hI6 hf7 e8 => ?_)
    have k9 : H5 20 3 = ((h 20 3) + 1) := by rw [e8]; exact fz_up_e
    clear e8
    refine fz_iload_n kX5_passed rfl rfl ?_
    exact fz_iret kX5_passed rfl rfl (fun _ => ⟨hI6, hf7, _, rfl, (by omega)⟩)

abbrev qX5_nextOf (h : fz_H) (a b c : Int) : fz_H → Option fz_V → Prop := fun h' r0 => fz_Iv h' ∧ fz_fr [(20, 3)] h h' ∧ ∃ r : Int, r0 = some (fz_i r) ∧ ((-2147483648) ≤ r ∧ r ≤ 2147483647)
set_option maxHeartbeats 1000000 in
set_option maxRecDepth 100000 in
theorem sX5_nextOf (h : fz_H) (hI : fz_Iv h) (a b c : Int) : fz_R 1 mX5_nextOf 0 [(0, fz_r 20), (1, fz_i a), (2, fz_i b), (3, fz_i c)] [] h (qX5_nextOf h a b c) := by
  refine fz_knowl (fun hk => ?_)
  have hr_a : -2147483648 ≤ a ∧ a < 2147483648 := hk _ (List.Mem.tail _ (List.Mem.head _))
  have hr_b : -2147483648 ≤ b ∧ b < 2147483648 := hk _ (List.Mem.tail _ (List.Mem.tail _ (List.Mem.head _)))
  have hr_c : -2147483648 ≤ c ∧ c < 2147483648 := hk _ (List.Mem.tail _ (List.Mem.tail _ (List.Mem.tail _ (List.Mem.head _))))
  clear hk
  have hf : fz_fr [(20, 3)] h h := fz_fr_rf
  refine fz_aload_n kX5_nextOf rfl rfl ?_
  have b1 : 0 ≤ h 20 3 ∧ h 20 3 ≤ 120 := hI.1 20 _
  have b2 : 0 ≤ h 20 2 ∧ h 20 2 ≤ 120 := hI.1 20 _
  refine fz_callV (d' := 0) (M' := mX5_letterHere) (As := []) (st := []) kX5_nextOf rfl rfl vX5_letterHere rfl rfl rfl rfl (Nat.le_of_ble_eq_true rfl) (Nat.le_of_ble_eq_true rfl) (by decide) (sX5_letterHere h hI  ) (fun H3 r4 q5 o6 => ?_)
  obtain ⟨e7, y10, rfl, f8, f9⟩ := q5
  subst H3
  clear o6
  refine fz_istore (ls' := [(4, fz_i y10), (0, fz_r 20), (1, fz_i a), (2, fz_i b), (3, fz_i c)]) kX5_nextOf rfl (by decide) rfl ?_
  refine fz_iload kX5_nextOf rfl rfl ?_
  refine fz_iload_n kX5_nextOf rfl rfl ?_
  refine fz_icmp_eq (tgt := 24) kX5_nextOf rfl (by decide) (fun c11 => ?_) (fun c11 => ?_)
  · refine fz_aload_n kX5_nextOf rfl rfl ?_
    refine fz_iload kX5_nextOf rfl rfl ?_
    refine fz_callV (d' := 0) (M' := mX5_passed) (As := [fz_i y10]) (st := []) kX5_nextOf rfl rfl vX5_passed rfl rfl rfl rfl (Nat.le_of_ble_eq_true rfl) (Nat.le_of_ble_eq_true rfl) (by decide) (sX5_passed h hI y10 (by omega)) (fun H12 r13 q14 o15 => ?_)
    obtain ⟨hI16, hf17, y19, rfl, f18⟩ := q14
    clear o15
    have hf20 := fz_fr_tr hf hf17 (show fz_su [(20, 3)] [(20, 3)] = true from rfl)
    refine fz_goto (tgt := 34) kX5_nextOf rfl (by decide) ?_
    exact fz_iret kX5_nextOf rfl rfl (fun _ => ⟨hI16, hf20, _, rfl, (by omega)⟩)
  · refine fz_iload kX5_nextOf rfl rfl ?_
    refine fz_iload_n kX5_nextOf rfl rfl ?_
    refine fz_icmp_eq (tgt := 24) kX5_nextOf rfl (by decide) (fun c21 => ?_) (fun c21 => ?_)
    · refine fz_aload_n kX5_nextOf rfl rfl ?_
      refine fz_iload kX5_nextOf rfl rfl ?_
      refine fz_callV (d' := 0) (M' := mX5_passed) (As := [fz_i y10]) (st := []) kX5_nextOf rfl rfl vX5_passed rfl rfl rfl rfl (Nat.le_of_ble_eq_true rfl) (Nat.le_of_ble_eq_true rfl) (by decide) (sX5_passed h hI y10 (by omega)) (fun H22 r23 q24 o25 => ?_)
      obtain ⟨hI26, hf27, y29, rfl, f28⟩ := q24
      clear o25
      have hf30 := fz_fr_tr hf hf27 (show fz_su [(20, 3)] [(20, 3)] = true from rfl)
      refine fz_goto (tgt := 34) kX5_nextOf rfl (by decide) ?_
      exact fz_iret kX5_nextOf rfl rfl (fun _ => ⟨hI26, hf30, _, rfl, (by omega)⟩)
    · refine fz_iload kX5_nextOf rfl rfl ?_
      refine fz_iload_n kX5_nextOf rfl rfl ?_
      refine fz_icmp_ne (tgt := 33) kX5_nextOf rfl (by decide) (fun c31 => ?_) (fun c31 => ?_)
      · refine fz_iconst ⟨by decide, by decide⟩ kX5_nextOf rfl ?_
        exact fz_iret kX5_nextOf rfl rfl (fun _ => ⟨hI, hf, _, rfl, (by omega)⟩)
      · refine fz_aload_n kX5_nextOf rfl rfl ?_
        refine fz_iload kX5_nextOf rfl rfl ?_
        refine fz_callV (d' := 0) (M' := mX5_passed) (As := [fz_i y10]) (st := []) kX5_nextOf rfl rfl vX5_passed rfl rfl rfl rfl (Nat.le_of_ble_eq_true rfl) (Nat.le_of_ble_eq_true rfl) (by decide) (sX5_passed h hI y10 (by omega)) (fun H32 r33 q34 o35 => ?_)
        obtain ⟨hI36, hf37, y39, rfl, f38⟩ := q34
        clear o35
        have hf40 := fz_fr_tr hf hf37 (show fz_su [(20, 3)] [(20, 3)] = true from rfl)
        refine fz_goto (tgt := 34) kX5_nextOf rfl (by decide) ?_
        exact fz_iret kX5_nextOf rfl rfl (fun _ => ⟨hI36, hf40, _, rfl, (by omega)⟩)

abbrev qX5_readNumber (h : fz_H) : fz_H → Option fz_V → Prop := fun h' r0 => fz_Iv h' ∧ fz_fr [(20, 3), (21, 4), (22, 99999), (23, 99999)] h h' ∧ r0 = none
set_option maxHeartbeats 1000000 in
set_option maxRecDepth 100000 in
theorem sX5_readNumber (h : fz_H) (hI : fz_Iv h) : fz_R 1 mX5_readNumber 0 [(0, fz_r 20)] [] h (qX5_readNumber h) := by
  have hf : fz_fr [(20, 3), (21, 4), (22, 99999), (23, 99999)] h h := fz_fr_rf
  refine fz_iconst ⟨by decide, by decide⟩ kX5_readNumber rfl ?_
  refine fz_istore_n (ls' := [(1, fz_i 0), (0, fz_r 20)]) kX5_readNumber rfl (by decide) rfl ?_
  refine fz_iconst ⟨by decide, by decide⟩ kX5_readNumber rfl ?_
  refine fz_istore_n (ls' := [(2, fz_i 0), (1, fz_i 0), (0, fz_r 20)]) kX5_readNumber rfl (by decide) rfl ?_
  have lp7 : ∀ (n6 : Nat) (x1 : Int) (x2 : Int) (H3 : fz_H), fz_Iv H3 → fz_fr [(20, 3), (21, 4), (22, 99999), (23, 99999)] h H3 → (0 ≤ x1 ∧ x1 ≤ 2147483647) → ((-2147483648) ≤ x2 ∧ x2 ≤ 2147483647) → (4 - x1).toNat < n6 → fz_R 1 mX5_readNumber 4 [(2, fz_i x1), (1, fz_i x2), (0, fz_r 20)] [] H3 (qX5_readNumber h) := by
    intro n6
    induction n6 with
    | zero => intro x1 x2 H3 hI4 hf5 hv10 hv11 hm9; exact absurd hm9 (by omega)
    | succ n6 ih8 =>
      intro x1 x2 H3 hI4 hf5 hv10 hv11 hm9
      refine fz_iload_n kX5_readNumber rfl rfl ?_
      refine fz_iconst ⟨by decide, by decide⟩ kX5_readNumber rfl ?_
      refine fz_icmp_ge (tgt := 56) kX5_readNumber rfl (by decide) (fun c12 => ?_) (fun c12 => ?_)
      · refine fz_aload_n kX5_readNumber rfl rfl ?_
        refine fz_getR (t := 21) kX5_readNumber rfl rfl ?_
        refine fz_bipush ⟨by decide, by decide⟩ kX5_readNumber rfl ?_
        refine fz_iload_n kX5_readNumber rfl rfl ?_
        refine fz_callV (d' := 0) (M' := mX3_add) (As := [fz_i 35, fz_i x2]) (st := []) kX5_readNumber rfl rfl vX3_add rfl rfl rfl rfl (Nat.le_of_ble_eq_true rfl) (Nat.le_of_ble_eq_true rfl) (by decide) (sX3_add H3 hI4 35 x2 ) (fun H13 r14 q15 o16 => ?_)
        obtain ⟨hI17, hf18, y20, rfl, f19⟩ := q15
        clear o16
        have hf21 := fz_fr_tr hf5 hf18 (show fz_su [(21, 4), (22, 99999), (23, 99999)] [(20, 3), (21, 4), (22, 99999), (23, 99999)] = true from rfl)
        refine fz_pop rfl kX5_readNumber rfl ?_
        exact fz_vret kX5_readNumber rfl rfl ⟨hI17, hf21, rfl⟩
      · refine fz_aload_n kX5_readNumber rfl rfl ?_
        have b22 : 0 ≤ H3 20 3 ∧ H3 20 3 ≤ 120 := hI4.1 20 _
        have b23 : 0 ≤ h 20 2 ∧ h 20 2 ≤ 120 := hI.1 20 _
        have e24 : H3 20 2 = h 20 2 := hf5 20 2 rfl
        refine fz_callV (d' := 0) (M' := mX5_letterHere) (As := []) (st := []) kX5_readNumber rfl rfl vX5_letterHere rfl rfl rfl rfl (Nat.le_of_ble_eq_true rfl) (Nat.le_of_ble_eq_true rfl) (by decide) (sX5_letterHere H3 hI4  ) (fun H25 r26 q27 o28 => ?_)
        obtain ⟨e29, y32, rfl, f30, f31⟩ := q27
        subst H25
        clear o28
        refine fz_bipush ⟨by decide, by decide⟩ kX5_readNumber rfl ?_
        refine fz_icmp_lt (tgt := 56) kX5_readNumber rfl (by decide) (fun c33 => ?_) (fun c33 => ?_)
        · refine fz_aload_n kX5_readNumber rfl rfl ?_
          refine fz_getR (t := 21) kX5_readNumber rfl rfl ?_
          refine fz_bipush ⟨by decide, by decide⟩ kX5_readNumber rfl ?_
          refine fz_iload_n kX5_readNumber rfl rfl ?_
          refine fz_callV (d' := 0) (M' := mX3_add) (As := [fz_i 35, fz_i x2]) (st := []) kX5_readNumber rfl rfl vX3_add rfl rfl rfl rfl (Nat.le_of_ble_eq_true rfl) (Nat.le_of_ble_eq_true rfl) (by decide) (sX3_add H3 hI4 35 x2 ) (fun H34 r35 q36 o37 => ?_)
          obtain ⟨hI38, hf39, y41, rfl, f40⟩ := q36
          clear o37
          have hf42 := fz_fr_tr hf5 hf39 (show fz_su [(21, 4), (22, 99999), (23, 99999)] [(20, 3), (21, 4), (22, 99999), (23, 99999)] = true from rfl)
          refine fz_pop rfl kX5_readNumber rfl ?_
          exact fz_vret kX5_readNumber rfl rfl ⟨hI38, hf42, rfl⟩
        · refine fz_aload_n kX5_readNumber rfl rfl ?_
          refine fz_callV (d' := 0) (M' := mX5_letterHere) (As := []) (st := []) kX5_readNumber rfl rfl vX5_letterHere rfl rfl rfl rfl (Nat.le_of_ble_eq_true rfl) (Nat.le_of_ble_eq_true rfl) (by decide) (sX5_letterHere H3 hI4  ) (fun H43 r44 q45 o46 => ?_)
          obtain ⟨e47, y50, rfl, f48, f49⟩ := q45
          subst H43
          clear o46
          refine fz_bipush ⟨by decide, by decide⟩ kX5_readNumber rfl ?_
          refine fz_icmp_gt (tgt := 56) kX5_readNumber rfl (by decide) (fun c51 => ?_) (fun c51 => ?_)
          · refine fz_aload_n kX5_readNumber rfl rfl ?_
            refine fz_getR (t := 21) kX5_readNumber rfl rfl ?_
            refine fz_bipush ⟨by decide, by decide⟩ kX5_readNumber rfl ?_
            refine fz_iload_n kX5_readNumber rfl rfl ?_
            refine fz_callV (d' := 0) (M' := mX3_add) (As := [fz_i 35, fz_i x2]) (st := []) kX5_readNumber rfl rfl vX3_add rfl rfl rfl rfl (Nat.le_of_ble_eq_true rfl) (Nat.le_of_ble_eq_true rfl) (by decide) (sX3_add H3 hI4 35 x2 ) (fun H52 r53 q54 o55 => ?_)
            obtain ⟨hI56, hf57, y59, rfl, f58⟩ := q54
            clear o55
            have hf60 := fz_fr_tr hf5 hf57 (show fz_su [(21, 4), (22, 99999), (23, 99999)] [(20, 3), (21, 4), (22, 99999), (23, 99999)] = true from rfl)
            refine fz_pop rfl kX5_readNumber rfl ?_
            exact fz_vret kX5_readNumber rfl rfl ⟨hI56, hf60, rfl⟩
          · refine fz_iload_n kX5_readNumber rfl rfl ?_
            refine fz_bipush ⟨by decide, by decide⟩ kX5_readNumber rfl ?_
            refine fz_imul kX5_readNumber rfl ?_
            refine fz_nmw (fun z61 e62 => ?_)
            refine fz_aload_n kX5_readNumber rfl rfl ?_
            refine fz_callV (d' := 0) (M' := mX5_letterHere) (As := []) (st := [fz_i z61]) kX5_readNumber rfl rfl vX5_letterHere rfl rfl rfl rfl (Nat.le_of_ble_eq_true rfl) (Nat.le_of_ble_eq_true rfl) (by decide) (sX5_letterHere H3 hI4  ) (fun H63 r64 q65 o66 => ?_)
            obtain ⟨e67, y70, rfl, f68, f69⟩ := q65
            subst H63
            clear o66
            refine fz_iadd kX5_readNumber rfl ?_
            refine fz_nmw (fun z71 e72 => ?_)
            refine fz_bipush ⟨by decide, by decide⟩ kX5_readNumber rfl ?_
            refine fz_isub kX5_readNumber rfl ?_
            refine fz_nmw (fun z73 e74 => ?_)
            refine fz_istore_n (ls' := [(1, fz_i z73), (2, fz_i x1), (0, fz_r 20)]) kX5_readNumber rfl (by decide) rfl ?_
            refine fz_aload_n kX5_readNumber rfl rfl ?_
            refine fz_dup rfl kX5_readNumber rfl ?_
            obtain ⟨v75, e76⟩ : ∃ z, H3 20 (3) = z := ⟨_, rfl⟩
            refine fz_getV (v := v75) kX5_readNumber rfl rfl e76 ?_
            have b77 : 0 ≤ v75 ∧ v75 ≤ 120 := by rw [← e76]; exact hI4.1 20 _
            refine fz_iconst ⟨by decide, by decide⟩ kX5_readNumber rfl ?_
            refine fz_iaddN kX5_readNumber rfl (by omega) ?_
            refine fz_putI kX5_readNumber rfl rfl rfl ?_
            refine fz_nmu (S := [(20, 3), (21, 4), (22, 99999), (23, 99999)]) (h0 := h) (fz_Iv_up hI4 (by decide) (show (0 : Int) ≤ (v75 + 1) by omega) (show ((v75 + 1) : Int) ≤ 120 by omega)) (fz_fr_up hf5 rfl) (fun H78 hI79 hf80 e81 => ?_)
            have k82 : H78 20 3 = (v75 + 1) := by rw [e81]; exact fz_up_e
            clear e81
            refine fz_iincN (ls' := [(2, fz_i (x1 + 1)), (1, fz_i z73), (0, fz_r 20)]) kX5_readNumber rfl (by decide) rfl (by omega) rfl ?_
            refine fz_goto (tgt := 4) kX5_readNumber rfl (by decide) ?_
            exact ih8 (x1 + 1) z73 H78 hI79 hf80 (by omega) (by omega) (by omega)
  exact lp7 _ 0 0 h hI hf (by omega) (by omega) (Nat.lt_succ_self _)

abbrev qX5_readO_6 (h : fz_H) : fz_H → Option fz_V → Prop := fun h' r0 => fz_Iv h' ∧ fz_fr [(20, 3), (20, 4), (21, 4), (22, 99999), (23, 99999)] h h' ∧ r0 = none
set_option maxHeartbeats 1000000 in
set_option maxRecDepth 100000 in
theorem sX5_readO_6 (h : fz_H) (hI : fz_Iv h) : fz_R 2 mX5_readO 0 [(0, fz_r 20), (1, fz_i 6)] [] h (qX5_readO_6 h) := by
  have hf : fz_fr [(20, 3), (20, 4), (21, 4), (22, 99999), (23, 99999)] h h := fz_fr_rf
  refine fz_aload_n kX5_readO rfl rfl ?_
  have b1 : 0 ≤ h 20 3 ∧ h 20 3 ≤ 120 := hI.1 20 _
  have b2 : 0 ≤ h 20 2 ∧ h 20 2 ≤ 120 := hI.1 20 _
  refine fz_callV (d' := 0) (M' := mX5_letterHere) (As := []) (st := []) kX5_readO rfl rfl vX5_letterHere rfl rfl rfl rfl (Nat.le_of_ble_eq_true rfl) (Nat.le_of_ble_eq_true rfl) (by decide) (sX5_letterHere h hI  ) (fun H3 r4 q5 o6 => ?_)
  obtain ⟨e7, y10, rfl, f8, f9⟩ := q5
  subst H3
  clear o6
  refine fz_istore_n (ls' := [(2, fz_i y10), (0, fz_r 20), (1, fz_i 6)]) kX5_readO rfl (by decide) rfl ?_
  refine fz_iload_n kX5_readO rfl rfl ?_
  refine fz_callS (d' := 0) (M' := mX5_nameOf) (As := [fz_i y10]) (st := []) kX5_readO rfl rfl vX5_nameOf rfl rfl (Nat.le_of_ble_eq_true rfl) (Nat.le_of_ble_eq_true rfl) (by decide) (sX5_nameOf h hI y10 ) (fun H11 r12 q13 o14 => ?_)
  obtain ⟨e15, y18, rfl, f16, f17⟩ := q13
  subst H11
  clear o14
  refine fz_istore_n (ls' := [(3, fz_i y18), (2, fz_i y10), (0, fz_r 20), (1, fz_i 6)]) kX5_readO rfl (by decide) rfl ?_
  refine fz_iload_n kX5_readO rfl rfl ?_
  refine fz_bipush ⟨by decide, by decide⟩ kX5_readO rfl ?_
  refine fz_icmp_lt (tgt := 29) kX5_readO rfl (by decide) (fun c19 => ?_) (fun c19 => ?_)
  · refine fz_iload_n kX5_readO rfl rfl ?_
    refine fz_if_lt (tgt := 57) kX5_readO rfl (by decide) (fun c20 => ?_) (fun c20 => ?_)
    · refine fz_iload_n kX5_readO rfl rfl ?_
      refine fz_bipush ⟨by decide, by decide⟩ kX5_readO rfl ?_
      refine fz_icmp_lt (tgt := 71) kX5_readO rfl (by decide) (fun c21 => ?_) (fun c21 => ?_)
      · exfalso; omega
      · refine fz_aload_n kX5_readO rfl rfl ?_
        refine fz_iconst ⟨by decide, by decide⟩ kX5_readO rfl ?_
        refine fz_putZ kX5_readO rfl rfl rfl (by omega) ?_
        refine fz_nmu (S := [(20, 3), (20, 4), (21, 4), (22, 99999), (23, 99999)]) (h0 := h) (fz_Iv_up hI (by decide) (show (0 : Int) ≤ 1 by decide) (show (1 : Int) ≤ 1 by decide)) (fz_fr_up hf rfl) (fun H22 hI23 hf24 e25 => ?_)
        have k26 : H22 20 4 = 1 := by rw [e25]; exact fz_up_e
        clear e25
        refine fz_goto (tgt := 180) kX5_readO rfl (by decide) ?_
        exact fz_vret kX5_readO rfl rfl ⟨hI23, hf24, rfl⟩
    · refine fz_aload_n kX5_readO rfl rfl ?_
      refine fz_dup rfl kX5_readO rfl ?_
      refine fz_getV (v := h 20 3) kX5_readO rfl rfl rfl ?_
      have b27 : 0 ≤ h 20 3 ∧ h 20 3 ≤ 120 := hI.1 20 _
      refine fz_iconst ⟨by decide, by decide⟩ kX5_readO rfl ?_
      refine fz_iaddN kX5_readO rfl (by omega) ?_
      refine fz_putI kX5_readO rfl rfl rfl ?_
      refine fz_nmu (S := [(20, 3), (20, 4), (21, 4), (22, 99999), (23, 99999)]) (h0 := h) (fz_Iv_up hI (by decide) (show (0 : Int) ≤ ((h 20 3) + 1) by omega) (show (((h 20 3) + 1) : Int) ≤ 120 by omega)) (fz_fr_up hf rfl) (fun H28 hI29 hf30 e31 => ?_)
      have k32 : H28 20 3 = ((h 20 3) + 1) := by rw [e31]; exact fz_up_e
      clear e31
      refine fz_aload_n kX5_readO rfl rfl ?_
      refine fz_getR (t := 21) kX5_readO rfl rfl ?_
      refine fz_bipush ⟨by decide, by decide⟩ kX5_readO rfl ?_
      refine fz_iload_n kX5_readO rfl rfl ?_
      refine fz_callV (d' := 0) (M' := mX3_add) (As := [fz_i 64, fz_i y18]) (st := []) kX5_readO rfl rfl vX3_add rfl rfl rfl rfl (Nat.le_of_ble_eq_true rfl) (Nat.le_of_ble_eq_true rfl) (by decide) (sX3_add H28 hI29 64 y18 ) (fun H33 r34 q35 o36 => ?_)
      obtain ⟨hI37, hf38, y40, rfl, f39⟩ := q35
      clear o36
      have hf41 := fz_fr_tr hf30 hf38 (show fz_su [(21, 4), (22, 99999), (23, 99999)] [(20, 3), (20, 4), (21, 4), (22, 99999), (23, 99999)] = true from rfl)
      have k42 : H33 20 3 = ((h 20 3) + 1) := (hf38 20 3 rfl).trans k32
      refine fz_pop rfl kX5_readO rfl ?_
      refine fz_goto (tgt := 180) kX5_readO rfl (by decide) ?_
      exact fz_vret kX5_readO rfl rfl ⟨hI37, hf41, rfl⟩
  · refine fz_iload_n kX5_readO rfl rfl ?_
    refine fz_bipush ⟨by decide, by decide⟩ kX5_readO rfl ?_
    refine fz_icmp_gt (tgt := 29) kX5_readO rfl (by decide) (fun c43 => ?_) (fun c43 => ?_)
    · refine fz_iload_n kX5_readO rfl rfl ?_
      refine fz_if_lt (tgt := 57) kX5_readO rfl (by decide) (fun c44 => ?_) (fun c44 => ?_)
      · refine fz_iload_n kX5_readO rfl rfl ?_
        refine fz_bipush ⟨by decide, by decide⟩ kX5_readO rfl ?_
        refine fz_icmp_lt (tgt := 71) kX5_readO rfl (by decide) (fun c45 => ?_) (fun c45 => ?_)
        · exfalso; omega
        · refine fz_aload_n kX5_readO rfl rfl ?_
          refine fz_iconst ⟨by decide, by decide⟩ kX5_readO rfl ?_
          refine fz_putZ kX5_readO rfl rfl rfl (by omega) ?_
          refine fz_nmu (S := [(20, 3), (20, 4), (21, 4), (22, 99999), (23, 99999)]) (h0 := h) (fz_Iv_up hI (by decide) (show (0 : Int) ≤ 1 by decide) (show (1 : Int) ≤ 1 by decide)) (fz_fr_up hf rfl) (fun H46 hI47 hf48 e49 => ?_)
          have k50 : H46 20 4 = 1 := by rw [e49]; exact fz_up_e
          clear e49
          refine fz_goto (tgt := 180) kX5_readO rfl (by decide) ?_
          exact fz_vret kX5_readO rfl rfl ⟨hI47, hf48, rfl⟩
      · refine fz_aload_n kX5_readO rfl rfl ?_
        refine fz_dup rfl kX5_readO rfl ?_
        refine fz_getV (v := h 20 3) kX5_readO rfl rfl rfl ?_
        have b51 : 0 ≤ h 20 3 ∧ h 20 3 ≤ 120 := hI.1 20 _
        refine fz_iconst ⟨by decide, by decide⟩ kX5_readO rfl ?_
        refine fz_iaddN kX5_readO rfl (by omega) ?_
        refine fz_putI kX5_readO rfl rfl rfl ?_
        refine fz_nmu (S := [(20, 3), (20, 4), (21, 4), (22, 99999), (23, 99999)]) (h0 := h) (fz_Iv_up hI (by decide) (show (0 : Int) ≤ ((h 20 3) + 1) by omega) (show (((h 20 3) + 1) : Int) ≤ 120 by omega)) (fz_fr_up hf rfl) (fun H52 hI53 hf54 e55 => ?_)
        have k56 : H52 20 3 = ((h 20 3) + 1) := by rw [e55]; exact fz_up_e
        clear e55
        refine fz_aload_n kX5_readO rfl rfl ?_
        refine fz_getR (t := 21) kX5_readO rfl rfl ?_
        refine fz_bipush ⟨by decide, by decide⟩ kX5_readO rfl ?_
        refine fz_iload_n kX5_readO rfl rfl ?_
        refine fz_callV (d' := 0) (M' := mX3_add) (As := [fz_i 64, fz_i y18]) (st := []) kX5_readO rfl rfl vX3_add rfl rfl rfl rfl (Nat.le_of_ble_eq_true rfl) (Nat.le_of_ble_eq_true rfl) (by decide) (sX3_add H52 hI53 64 y18 ) (fun H57 r58 q59 o60 => ?_)
        obtain ⟨hI61, hf62, y64, rfl, f63⟩ := q59
        clear o60
        have hf65 := fz_fr_tr hf54 hf62 (show fz_su [(21, 4), (22, 99999), (23, 99999)] [(20, 3), (20, 4), (21, 4), (22, 99999), (23, 99999)] = true from rfl)
        have k66 : H57 20 3 = ((h 20 3) + 1) := (hf62 20 3 rfl).trans k56
        refine fz_pop rfl kX5_readO rfl ?_
        refine fz_goto (tgt := 180) kX5_readO rfl (by decide) ?_
        exact fz_vret kX5_readO rfl rfl ⟨hI61, hf65, rfl⟩
    · refine fz_aload_n kX5_readO rfl rfl ?_
      refine fz_callV (d' := 1) (M' := mX5_readNumber) (As := []) (st := []) kX5_readO rfl rfl vX5_readNumber rfl rfl rfl rfl (Nat.le_of_ble_eq_true rfl) (Nat.le_of_ble_eq_true rfl) (by decide) (sX5_readNumber h hI  ) (fun H67 r68 q69 o70 => ?_)
      obtain ⟨hI71, hf72, rfl⟩ := q69
      clear o70
      have hf73 := fz_fr_tr hf hf72 (show fz_su [(20, 3), (21, 4), (22, 99999), (23, 99999)] [(20, 3), (20, 4), (21, 4), (22, 99999), (23, 99999)] = true from rfl)
      refine fz_goto (tgt := 180) kX5_readO rfl (by decide) ?_
      exact fz_vret kX5_readO rfl rfl ⟨hI71, hf73, rfl⟩

abbrev qX5_readP_6 (h : fz_H) : fz_H → Option fz_V → Prop := fun h' r0 => fz_Iv h' ∧ fz_fr [(20, 3), (20, 4), (21, 4), (22, 99999), (23, 99999)] h h' ∧ r0 = none
set_option maxHeartbeats 1000000 in
set_option maxRecDepth 100000 in
theorem sX5_readP_6 (h : fz_H) (hI : fz_Iv h) : fz_R 3 mX5_readP 0 [(0, fz_r 20), (1, fz_i 6)] [] h (qX5_readP_6 h) := by
  have hf : fz_fr [(20, 3), (20, 4), (21, 4), (22, 99999), (23, 99999)] h h := fz_fr_rf
  refine fz_aload_n kX5_readP rfl rfl ?_
  refine fz_iload_n kX5_readP rfl rfl ?_
  refine fz_callV (d' := 2) (M' := mX5_readO) (As := [fz_i 6]) (st := []) kX5_readP rfl rfl vX5_readO rfl rfl rfl rfl (Nat.le_of_ble_eq_true rfl) (Nat.le_of_ble_eq_true rfl) (by decide) (sX5_readO_6 h hI  ) (fun H1 r2 q3 o4 => ?_)
  obtain ⟨hI5, hf6, rfl⟩ := q3
  clear o4
  have hf7 := fz_fr_tr hf hf6 (show fz_su [(20, 3), (20, 4), (21, 4), (22, 99999), (23, 99999)] [(20, 3), (20, 4), (21, 4), (22, 99999), (23, 99999)] = true from rfl)
  refine fz_aload_n kX5_readP rfl rfl ?_
  refine fz_bipush ⟨by decide, by decide⟩ kX5_readP rfl ?_
  refine fz_bipush ⟨by decide, by decide⟩ kX5_readP rfl ?_
  refine fz_bipush ⟨by decide, by decide⟩ kX5_readP rfl ?_
  refine fz_callV (d' := 1) (M' := mX5_nextOf) (As := [fz_i 42, fz_i 47, fz_i 37]) (st := []) kX5_readP rfl rfl vX5_nextOf rfl rfl rfl rfl (Nat.le_of_ble_eq_true rfl) (Nat.le_of_ble_eq_true rfl) (by decide) (sX5_nextOf H1 hI5 42 47 37 ) (fun H8 r9 q10 o11 => ?_)
  obtain ⟨hI12, hf13, y15, rfl, f14⟩ := q10
  clear o11
  have hf16 := fz_fr_tr hf7 hf13 (show fz_su [(20, 3)] [(20, 3), (20, 4), (21, 4), (22, 99999), (23, 99999)] = true from rfl)
  refine fz_istore_n (ls' := [(2, fz_i y15), (0, fz_r 20), (1, fz_i 6)]) kX5_readP rfl (by decide) rfl ?_
  refine fz_iconst ⟨by decide, by decide⟩ kX5_readP rfl ?_
  refine fz_istore_n (ls' := [(3, fz_i 0), (2, fz_i y15), (0, fz_r 20), (1, fz_i 6)]) kX5_readP rfl (by decide) rfl ?_
  have lp23 : ∀ (n22 : Nat) (x17 : Int) (x18 : Int) (H19 : fz_H), fz_Iv H19 → fz_fr [(20, 3), (20, 4), (21, 4), (22, 99999), (23, 99999)] h H19 → (0 ≤ x17 ∧ x17 ≤ 2147483647) → ((-2147483648) ≤ x18 ∧ x18 ≤ 2147483647) → (120 - x17).toNat < n22 → fz_R 3 mX5_readP 18 [(3, fz_i x17), (2, fz_i x18), (0, fz_r 20), (1, fz_i 6)] [] H19 (qX5_readP_6 h) := by
    intro n22
    induction n22 with
    | zero => intro x17 x18 H19 hI20 hf21 hv26 hv27 hm25; exact absurd hm25 (by omega)
    | succ n22 ih24 =>
      intro x17 x18 H19 hI20 hf21 hv26 hv27 hm25
      refine fz_iload_n kX5_readP rfl rfl ?_
      refine fz_bipush ⟨by decide, by decide⟩ kX5_readP rfl ?_
      refine fz_icmp_ge (tgt := 60) kX5_readP rfl (by decide) (fun c28 => ?_) (fun c28 => ?_)
      · exact fz_vret kX5_readP rfl rfl ⟨hI20, hf21, rfl⟩
      · refine fz_iload_n kX5_readP rfl rfl ?_
        refine fz_if_eq (tgt := 60) kX5_readP rfl (by decide) (fun c29 => ?_) (fun c29 => ?_)
        · exact fz_vret kX5_readP rfl rfl ⟨hI20, hf21, rfl⟩
        · refine fz_aload_n kX5_readP rfl rfl ?_
          refine fz_iload_n kX5_readP rfl rfl ?_
          refine fz_callV (d' := 2) (M' := mX5_readO) (As := [fz_i 6]) (st := []) kX5_readP rfl rfl vX5_readO rfl rfl rfl rfl (Nat.le_of_ble_eq_true rfl) (Nat.le_of_ble_eq_true rfl) (by decide) (sX5_readO_6 H19 hI20  ) (fun H30 r31 q32 o33 => ?_)
          obtain ⟨hI34, hf35, rfl⟩ := q32
          clear o33
          have hf36 := fz_fr_tr hf21 hf35 (show fz_su [(20, 3), (20, 4), (21, 4), (22, 99999), (23, 99999)] [(20, 3), (20, 4), (21, 4), (22, 99999), (23, 99999)] = true from rfl)
          refine fz_aload_n kX5_readP rfl rfl ?_
          refine fz_getR (t := 21) kX5_readP rfl rfl ?_
          refine fz_iload_n kX5_readP rfl rfl ?_
          refine fz_iconst ⟨by decide, by decide⟩ kX5_readP rfl ?_
          refine fz_callV (d' := 0) (M' := mX3_add) (As := [fz_i x18, fz_i 0]) (st := []) kX5_readP rfl rfl vX3_add rfl rfl rfl rfl (Nat.le_of_ble_eq_true rfl) (Nat.le_of_ble_eq_true rfl) (by decide) (sX3_add H30 hI34 x18 0 ) (fun H37 r38 q39 o40 => ?_)
          obtain ⟨hI41, hf42, y44, rfl, f43⟩ := q39
          clear o40
          have hf45 := fz_fr_tr hf36 hf42 (show fz_su [(21, 4), (22, 99999), (23, 99999)] [(20, 3), (20, 4), (21, 4), (22, 99999), (23, 99999)] = true from rfl)
          refine fz_pop rfl kX5_readP rfl ?_
          refine fz_aload_n kX5_readP rfl rfl ?_
          refine fz_bipush ⟨by decide, by decide⟩ kX5_readP rfl ?_
          refine fz_bipush ⟨by decide, by decide⟩ kX5_readP rfl ?_
          refine fz_bipush ⟨by decide, by decide⟩ kX5_readP rfl ?_
          refine fz_callV (d' := 1) (M' := mX5_nextOf) (As := [fz_i 42, fz_i 47, fz_i 37]) (st := []) kX5_readP rfl rfl vX5_nextOf rfl rfl rfl rfl (Nat.le_of_ble_eq_true rfl) (Nat.le_of_ble_eq_true rfl) (by decide) (sX5_nextOf H37 hI41 42 47 37 ) (fun H46 r47 q48 o49 => ?_)
          obtain ⟨hI50, hf51, y53, rfl, f52⟩ := q48
          clear o49
          have hf54 := fz_fr_tr hf45 hf51 (show fz_su [(20, 3)] [(20, 3), (20, 4), (21, 4), (22, 99999), (23, 99999)] = true from rfl)
          refine fz_istore_n (ls' := [(2, fz_i y53), (3, fz_i x17), (0, fz_r 20), (1, fz_i 6)]) kX5_readP rfl (by decide) rfl ?_
          refine fz_iincN (ls' := [(3, fz_i (x17 + 1)), (2, fz_i y53), (0, fz_r 20), (1, fz_i 6)]) kX5_readP rfl (by decide) rfl (by omega) rfl ?_
          refine fz_goto (tgt := 18) kX5_readP rfl (by decide) ?_
          exact ih24 (x17 + 1) y53 H46 hI50 hf54 (by omega) (by omega) (by omega)
  exact lp23 _ 0 y15 H8 hI12 hf16 (by omega) (by omega) (Nat.lt_succ_self _)

abbrev qX5_readS_6 (h : fz_H) : fz_H → Option fz_V → Prop := fun h' r0 => fz_Iv h' ∧ fz_fr [(20, 3), (20, 4), (21, 4), (22, 99999), (23, 99999)] h h' ∧ r0 = none
set_option maxHeartbeats 1000000 in
set_option maxRecDepth 100000 in
theorem sX5_readS_6 (h : fz_H) (hI : fz_Iv h) : fz_R 4 mX5_readS 0 [(0, fz_r 20), (1, fz_i 6)] [] h (qX5_readS_6 h) := by
  have hf : fz_fr [(20, 3), (20, 4), (21, 4), (22, 99999), (23, 99999)] h h := fz_fr_rf
  refine fz_aload_n kX5_readS rfl rfl ?_
  refine fz_iload_n kX5_readS rfl rfl ?_
  refine fz_callV (d' := 3) (M' := mX5_readP) (As := [fz_i 6]) (st := []) kX5_readS rfl rfl vX5_readP rfl rfl rfl rfl (Nat.le_of_ble_eq_true rfl) (Nat.le_of_ble_eq_true rfl) (by decide) (sX5_readP_6 h hI  ) (fun H1 r2 q3 o4 => ?_)
  obtain ⟨hI5, hf6, rfl⟩ := q3
  clear o4
  have hf7 := fz_fr_tr hf hf6 (show fz_su [(20, 3), (20, 4), (21, 4), (22, 99999), (23, 99999)] [(20, 3), (20, 4), (21, 4), (22, 99999), (23, 99999)] = true from rfl)
  refine fz_aload_n kX5_readS rfl rfl ?_
  refine fz_bipush ⟨by decide, by decide⟩ kX5_readS rfl ?_
  refine fz_bipush ⟨by decide, by decide⟩ kX5_readS rfl ?_
  refine fz_bipush ⟨by decide, by decide⟩ kX5_readS rfl ?_
  refine fz_callV (d' := 1) (M' := mX5_nextOf) (As := [fz_i 43, fz_i 45, fz_i 45]) (st := []) kX5_readS rfl rfl vX5_nextOf rfl rfl rfl rfl (Nat.le_of_ble_eq_true rfl) (Nat.le_of_ble_eq_true rfl) (by decide) (sX5_nextOf H1 hI5 43 45 45 ) (fun H8 r9 q10 o11 => ?_)
  obtain ⟨hI12, hf13, y15, rfl, f14⟩ := q10
  clear o11
  have hf16 := fz_fr_tr hf7 hf13 (show fz_su [(20, 3)] [(20, 3), (20, 4), (21, 4), (22, 99999), (23, 99999)] = true from rfl)
  refine fz_istore_n (ls' := [(2, fz_i y15), (0, fz_r 20), (1, fz_i 6)]) kX5_readS rfl (by decide) rfl ?_
  refine fz_iconst ⟨by decide, by decide⟩ kX5_readS rfl ?_
  refine fz_istore_n (ls' := [(3, fz_i 0), (2, fz_i y15), (0, fz_r 20), (1, fz_i 6)]) kX5_readS rfl (by decide) rfl ?_
  have lp23 : ∀ (n22 : Nat) (x17 : Int) (x18 : Int) (H19 : fz_H), fz_Iv H19 → fz_fr [(20, 3), (20, 4), (21, 4), (22, 99999), (23, 99999)] h H19 → (0 ≤ x17 ∧ x17 ≤ 2147483647) → ((-2147483648) ≤ x18 ∧ x18 ≤ 2147483647) → (120 - x17).toNat < n22 → fz_R 4 mX5_readS 18 [(3, fz_i x17), (2, fz_i x18), (0, fz_r 20), (1, fz_i 6)] [] H19 (qX5_readS_6 h) := by
    intro n22
    induction n22 with
    | zero => intro x17 x18 H19 hI20 hf21 hv26 hv27 hm25; exact absurd hm25 (by omega)
    | succ n22 ih24 =>
      intro x17 x18 H19 hI20 hf21 hv26 hv27 hm25
      refine fz_iload_n kX5_readS rfl rfl ?_
      refine fz_bipush ⟨by decide, by decide⟩ kX5_readS rfl ?_
      refine fz_icmp_ge (tgt := 60) kX5_readS rfl (by decide) (fun c28 => ?_) (fun c28 => ?_)
      · exact fz_vret kX5_readS rfl rfl ⟨hI20, hf21, rfl⟩
      · refine fz_iload_n kX5_readS rfl rfl ?_
        refine fz_if_eq (tgt := 60) kX5_readS rfl (by decide) (fun c29 => ?_) (fun c29 => ?_)
        · exact fz_vret kX5_readS rfl rfl ⟨hI20, hf21, rfl⟩
        · refine fz_aload_n kX5_readS rfl rfl ?_
          refine fz_iload_n kX5_readS rfl rfl ?_
          refine fz_callV (d' := 3) (M' := mX5_readP) (As := [fz_i 6]) (st := []) kX5_readS rfl rfl vX5_readP rfl rfl rfl rfl (Nat.le_of_ble_eq_true rfl) (Nat.le_of_ble_eq_true rfl) (by decide) (sX5_readP_6 H19 hI20  ) (fun H30 r31 q32 o33 => ?_)
          obtain ⟨hI34, hf35, rfl⟩ := q32
          clear o33
          have hf36 := fz_fr_tr hf21 hf35 (show fz_su [(20, 3), (20, 4), (21, 4), (22, 99999), (23, 99999)] [(20, 3), (20, 4), (21, 4), (22, 99999), (23, 99999)] = true from rfl)
          refine fz_aload_n kX5_readS rfl rfl ?_
          refine fz_getR (t := 21) kX5_readS rfl rfl ?_
          refine fz_iload_n kX5_readS rfl rfl ?_
          refine fz_iconst ⟨by decide, by decide⟩ kX5_readS rfl ?_
          refine fz_callV (d' := 0) (M' := mX3_add) (As := [fz_i x18, fz_i 0]) (st := []) kX5_readS rfl rfl vX3_add rfl rfl rfl rfl (Nat.le_of_ble_eq_true rfl) (Nat.le_of_ble_eq_true rfl) (by decide) (sX3_add H30 hI34 x18 0 ) (fun H37 r38 q39 o40 => ?_)
          obtain ⟨hI41, hf42, y44, rfl, f43⟩ := q39
          clear o40
          have hf45 := fz_fr_tr hf36 hf42 (show fz_su [(21, 4), (22, 99999), (23, 99999)] [(20, 3), (20, 4), (21, 4), (22, 99999), (23, 99999)] = true from rfl)
          refine fz_pop rfl kX5_readS rfl ?_
          refine fz_aload_n kX5_readS rfl rfl ?_
          refine fz_bipush ⟨by decide, by decide⟩ kX5_readS rfl ?_
          refine fz_bipush ⟨by decide, by decide⟩ kX5_readS rfl ?_
          refine fz_bipush ⟨by decide, by decide⟩ kX5_readS rfl ?_
          refine fz_callV (d' := 1) (M' := mX5_nextOf) (As := [fz_i 43, fz_i 45, fz_i 45]) (st := []) kX5_readS rfl rfl vX5_nextOf rfl rfl rfl rfl (Nat.le_of_ble_eq_true rfl) (Nat.le_of_ble_eq_true rfl) (by decide) (sX5_nextOf H37 hI41 43 45 45 ) (fun H46 r47 q48 o49 => ?_)
          obtain ⟨hI50, hf51, y53, rfl, f52⟩ := q48
          clear o49
          have hf54 := fz_fr_tr hf45 hf51 (show fz_su [(20, 3)] [(20, 3), (20, 4), (21, 4), (22, 99999), (23, 99999)] = true from rfl)
          refine fz_istore_n (ls' := [(2, fz_i y53), (3, fz_i x17), (0, fz_r 20), (1, fz_i 6)]) kX5_readS rfl (by decide) rfl ?_
          refine fz_iincN (ls' := [(3, fz_i (x17 + 1)), (2, fz_i y53), (0, fz_r 20), (1, fz_i 6)]) kX5_readS rfl (by decide) rfl (by omega) rfl ?_
          refine fz_goto (tgt := 18) kX5_readS rfl (by decide) ?_
          exact ih24 (x17 + 1) y53 H46 hI50 hf54 (by omega) (by omega) (by omega)
  exact lp23 _ 0 y15 H8 hI12 hf16 (by omega) (by omega) (Nat.lt_succ_self _)

abbrev qX5_readB_6 (h : fz_H) : fz_H → Option fz_V → Prop := fun h' r0 => fz_Iv h' ∧ fz_fr [(20, 3), (20, 4), (21, 4), (22, 99999), (23, 99999)] h h' ∧ r0 = none
set_option maxHeartbeats 1000000 in
set_option maxRecDepth 100000 in
theorem sX5_readB_6 (h : fz_H) (hI : fz_Iv h) : fz_R 5 mX5_readB 0 [(0, fz_r 20), (1, fz_i 6)] [] h (qX5_readB_6 h) := by
  have hf : fz_fr [(20, 3), (20, 4), (21, 4), (22, 99999), (23, 99999)] h h := fz_fr_rf
  refine fz_aload_n kX5_readB rfl rfl ?_
  refine fz_iload_n kX5_readB rfl rfl ?_
  refine fz_callV (d' := 4) (M' := mX5_readS) (As := [fz_i 6]) (st := []) kX5_readB rfl rfl vX5_readS rfl rfl rfl rfl (Nat.le_of_ble_eq_true rfl) (Nat.le_of_ble_eq_true rfl) (by decide) (sX5_readS_6 h hI  ) (fun H1 r2 q3 o4 => ?_)
  obtain ⟨hI5, hf6, rfl⟩ := q3
  clear o4
  have hf7 := fz_fr_tr hf hf6 (show fz_su [(20, 3), (20, 4), (21, 4), (22, 99999), (23, 99999)] [(20, 3), (20, 4), (21, 4), (22, 99999), (23, 99999)] = true from rfl)
  refine fz_aload_n kX5_readB rfl rfl ?_
  refine fz_bipush ⟨by decide, by decide⟩ kX5_readB rfl ?_
  refine fz_bipush ⟨by decide, by decide⟩ kX5_readB rfl ?_
  refine fz_bipush ⟨by decide, by decide⟩ kX5_readB rfl ?_
  refine fz_callV (d' := 1) (M' := mX5_nextOf) (As := [fz_i 60, fz_i 61, fz_i 62]) (st := []) kX5_readB rfl rfl vX5_nextOf rfl rfl rfl rfl (Nat.le_of_ble_eq_true rfl) (Nat.le_of_ble_eq_true rfl) (by decide) (sX5_nextOf H1 hI5 60 61 62 ) (fun H8 r9 q10 o11 => ?_)
  obtain ⟨hI12, hf13, y15, rfl, f14⟩ := q10
  clear o11
  have hf16 := fz_fr_tr hf7 hf13 (show fz_su [(20, 3)] [(20, 3), (20, 4), (21, 4), (22, 99999), (23, 99999)] = true from rfl)
  refine fz_istore_n (ls' := [(2, fz_i y15), (0, fz_r 20), (1, fz_i 6)]) kX5_readB rfl (by decide) rfl ?_
  refine fz_iload_n kX5_readB rfl rfl ?_
  refine fz_if_eq (tgt := 35) kX5_readB rfl (by decide) (fun c17 => ?_) (fun c17 => ?_)
  · exact fz_vret kX5_readB rfl rfl ⟨hI12, hf16, rfl⟩
  · refine fz_aload_n kX5_readB rfl rfl ?_
    refine fz_iload_n kX5_readB rfl rfl ?_
    refine fz_callV (d' := 4) (M' := mX5_readS) (As := [fz_i 6]) (st := []) kX5_readB rfl rfl vX5_readS rfl rfl rfl rfl (Nat.le_of_ble_eq_true rfl) (Nat.le_of_ble_eq_true rfl) (by decide) (sX5_readS_6 H8 hI12  ) (fun H18 r19 q20 o21 => ?_)
    obtain ⟨hI22, hf23, rfl⟩ := q20
    clear o21
    have hf24 := fz_fr_tr hf16 hf23 (show fz_su [(20, 3), (20, 4), (21, 4), (22, 99999), (23, 99999)] [(20, 3), (20, 4), (21, 4), (22, 99999), (23, 99999)] = true from rfl)
    refine fz_aload_n kX5_readB rfl rfl ?_
    refine fz_getR (t := 21) kX5_readB rfl rfl ?_
    refine fz_iload_n kX5_readB rfl rfl ?_
    refine fz_iconst ⟨by decide, by decide⟩ kX5_readB rfl ?_
    refine fz_callV (d' := 0) (M' := mX3_add) (As := [fz_i y15, fz_i 0]) (st := []) kX5_readB rfl rfl vX3_add rfl rfl rfl rfl (Nat.le_of_ble_eq_true rfl) (Nat.le_of_ble_eq_true rfl) (by decide) (sX3_add H18 hI22 y15 0 ) (fun H25 r26 q27 o28 => ?_)
    obtain ⟨hI29, hf30, y32, rfl, f31⟩ := q27
    clear o28
    have hf33 := fz_fr_tr hf24 hf30 (show fz_su [(21, 4), (22, 99999), (23, 99999)] [(20, 3), (20, 4), (21, 4), (22, 99999), (23, 99999)] = true from rfl)
    refine fz_pop rfl kX5_readB rfl ?_
    exact fz_vret kX5_readB rfl rfl ⟨hI29, hf33, rfl⟩

abbrev qX5_readA_6 (h : fz_H) : fz_H → Option fz_V → Prop := fun h' r0 => fz_Iv h' ∧ fz_fr [(20, 3), (20, 4), (21, 4), (22, 99999), (23, 99999)] h h' ∧ r0 = none
set_option maxHeartbeats 1000000 in
set_option maxRecDepth 100000 in
theorem sX5_readA_6 (h : fz_H) (hI : fz_Iv h) : fz_R 6 mX5_readA 0 [(0, fz_r 20), (1, fz_i 6)] [] h (qX5_readA_6 h) := by
  have hf : fz_fr [(20, 3), (20, 4), (21, 4), (22, 99999), (23, 99999)] h h := fz_fr_rf
  refine fz_aload_n kX5_readA rfl rfl ?_
  refine fz_iload_n kX5_readA rfl rfl ?_
  refine fz_callV (d' := 5) (M' := mX5_readB) (As := [fz_i 6]) (st := []) kX5_readA rfl rfl vX5_readB rfl rfl rfl rfl (Nat.le_of_ble_eq_true rfl) (Nat.le_of_ble_eq_true rfl) (by decide) (sX5_readB_6 h hI  ) (fun H1 r2 q3 o4 => ?_)
  obtain ⟨hI5, hf6, rfl⟩ := q3
  clear o4
  have hf7 := fz_fr_tr hf hf6 (show fz_su [(20, 3), (20, 4), (21, 4), (22, 99999), (23, 99999)] [(20, 3), (20, 4), (21, 4), (22, 99999), (23, 99999)] = true from rfl)
  refine fz_iconst ⟨by decide, by decide⟩ kX5_readA rfl ?_
  refine fz_istore_n (ls' := [(2, fz_i 0), (0, fz_r 20), (1, fz_i 6)]) kX5_readA rfl (by decide) rfl ?_
  have lp13 : ∀ (n12 : Nat) (x8 : Int) (H9 : fz_H), fz_Iv H9 → fz_fr [(20, 3), (20, 4), (21, 4), (22, 99999), (23, 99999)] h H9 → (0 ≤ x8 ∧ x8 ≤ 2147483647) → (120 - x8).toNat < n12 → fz_R 6 mX5_readA 7 [(2, fz_i x8), (0, fz_r 20), (1, fz_i 6)] [] H9 (qX5_readA_6 h) := by
    intro n12
    induction n12 with
    | zero => intro x8 H9 hI10 hf11 hv16 hm15; exact absurd hm15 (by omega)
    | succ n12 ih14 =>
      intro x8 H9 hI10 hf11 hv16 hm15
      refine fz_iload_n kX5_readA rfl rfl ?_
      refine fz_bipush ⟨by decide, by decide⟩ kX5_readA rfl ?_
      refine fz_icmp_ge (tgt := 44) kX5_readA rfl (by decide) (fun c17 => ?_) (fun c17 => ?_)
      · exact fz_vret kX5_readA rfl rfl ⟨hI10, hf11, rfl⟩
      · refine fz_aload_n kX5_readA rfl rfl ?_
        refine fz_bipush ⟨by decide, by decide⟩ kX5_readA rfl ?_
        refine fz_callV (d' := 1) (M' := mX5_goesOnWith) (As := [fz_i 38]) (st := []) kX5_readA rfl rfl vX5_goesOnWith rfl rfl rfl rfl (Nat.le_of_ble_eq_true rfl) (Nat.le_of_ble_eq_true rfl) (by decide) (sX5_goesOnWith H9 hI10 38 (by omega)) (fun H18 r19 q20 o21 => ?_)
        obtain ⟨hI22, hf23, y24, rfl, p25⟩ := q20
        clear o21
        have hf26 := fz_fr_tr hf11 hf23 (show fz_su [(20, 3)] [(20, 3), (20, 4), (21, 4), (22, 99999), (23, 99999)] = true from rfl)
        refine fz_if_eq (tgt := 44) kX5_readA rfl (by decide) (fun c27 => ?_) (fun c27 => ?_)
        · exact fz_vret kX5_readA rfl rfl ⟨hI22, hf26, rfl⟩
        · refine fz_aload_n kX5_readA rfl rfl ?_
          refine fz_iload_n kX5_readA rfl rfl ?_
          refine fz_callV (d' := 5) (M' := mX5_readB) (As := [fz_i 6]) (st := []) kX5_readA rfl rfl vX5_readB rfl rfl rfl rfl (Nat.le_of_ble_eq_true rfl) (Nat.le_of_ble_eq_true rfl) (by decide) (sX5_readB_6 H18 hI22  ) (fun H28 r29 q30 o31 => ?_)
          obtain ⟨hI32, hf33, rfl⟩ := q30
          clear o31
          have hf34 := fz_fr_tr hf26 hf33 (show fz_su [(20, 3), (20, 4), (21, 4), (22, 99999), (23, 99999)] [(20, 3), (20, 4), (21, 4), (22, 99999), (23, 99999)] = true from rfl)
          refine fz_aload_n kX5_readA rfl rfl ?_
          refine fz_getR (t := 21) kX5_readA rfl rfl ?_
          refine fz_bipush ⟨by decide, by decide⟩ kX5_readA rfl ?_
          refine fz_iconst ⟨by decide, by decide⟩ kX5_readA rfl ?_
          refine fz_callV (d' := 0) (M' := mX3_add) (As := [fz_i 38, fz_i 0]) (st := []) kX5_readA rfl rfl vX3_add rfl rfl rfl rfl (Nat.le_of_ble_eq_true rfl) (Nat.le_of_ble_eq_true rfl) (by decide) (sX3_add H28 hI32 38 0 ) (fun H35 r36 q37 o38 => ?_)
          obtain ⟨hI39, hf40, y42, rfl, f41⟩ := q37
          clear o38
          have hf43 := fz_fr_tr hf34 hf40 (show fz_su [(21, 4), (22, 99999), (23, 99999)] [(20, 3), (20, 4), (21, 4), (22, 99999), (23, 99999)] = true from rfl)
          refine fz_pop rfl kX5_readA rfl ?_
          refine fz_iincN (ls' := [(2, fz_i (x8 + 1)), (0, fz_r 20), (1, fz_i 6)]) kX5_readA rfl (by decide) rfl (by omega) rfl ?_
          refine fz_goto (tgt := 7) kX5_readA rfl (by decide) ?_
          exact ih14 (x8 + 1) H35 hI39 hf43 (by omega) (by omega)
  exact lp13 _ 0 H1 hI5 hf7 (by omega) (Nat.lt_succ_self _)

abbrev qX5_readE_6 (h : fz_H) : fz_H → Option fz_V → Prop := fun h' r0 => fz_Iv h' ∧ fz_fr [(20, 3), (20, 4), (21, 4), (22, 99999), (23, 99999)] h h' ∧ r0 = none
set_option maxHeartbeats 1000000 in
set_option maxRecDepth 100000 in
theorem sX5_readE_6 (h : fz_H) (hI : fz_Iv h) : fz_R 7 mX5_readE 0 [(0, fz_r 20), (1, fz_i 6)] [] h (qX5_readE_6 h) := by
  have hf : fz_fr [(20, 3), (20, 4), (21, 4), (22, 99999), (23, 99999)] h h := fz_fr_rf
  refine fz_aload_n kX5_readE rfl rfl ?_
  refine fz_iload_n kX5_readE rfl rfl ?_
  refine fz_callV (d' := 6) (M' := mX5_readA) (As := [fz_i 6]) (st := []) kX5_readE rfl rfl vX5_readA rfl rfl rfl rfl (Nat.le_of_ble_eq_true rfl) (Nat.le_of_ble_eq_true rfl) (by decide) (sX5_readA_6 h hI  ) (fun H1 r2 q3 o4 => ?_)
  obtain ⟨hI5, hf6, rfl⟩ := q3
  clear o4
  have hf7 := fz_fr_tr hf hf6 (show fz_su [(20, 3), (20, 4), (21, 4), (22, 99999), (23, 99999)] [(20, 3), (20, 4), (21, 4), (22, 99999), (23, 99999)] = true from rfl)
  refine fz_iconst ⟨by decide, by decide⟩ kX5_readE rfl ?_
  refine fz_istore_n (ls' := [(2, fz_i 0), (0, fz_r 20), (1, fz_i 6)]) kX5_readE rfl (by decide) rfl ?_
  have lp13 : ∀ (n12 : Nat) (x8 : Int) (H9 : fz_H), fz_Iv H9 → fz_fr [(20, 3), (20, 4), (21, 4), (22, 99999), (23, 99999)] h H9 → (0 ≤ x8 ∧ x8 ≤ 2147483647) → (120 - x8).toNat < n12 → fz_R 7 mX5_readE 7 [(2, fz_i x8), (0, fz_r 20), (1, fz_i 6)] [] H9 (qX5_readE_6 h) := by
    intro n12
    induction n12 with
    | zero => intro x8 H9 hI10 hf11 hv16 hm15; exact absurd hm15 (by omega)
    | succ n12 ih14 =>
      intro x8 H9 hI10 hf11 hv16 hm15
      refine fz_iload_n kX5_readE rfl rfl ?_
      refine fz_bipush ⟨by decide, by decide⟩ kX5_readE rfl ?_
      refine fz_icmp_ge (tgt := 44) kX5_readE rfl (by decide) (fun c17 => ?_) (fun c17 => ?_)
      · exact fz_vret kX5_readE rfl rfl ⟨hI10, hf11, rfl⟩
      · refine fz_aload_n kX5_readE rfl rfl ?_
        refine fz_bipush ⟨by decide, by decide⟩ kX5_readE rfl ?_
        refine fz_callV (d' := 1) (M' := mX5_goesOnWith) (As := [fz_i 124]) (st := []) kX5_readE rfl rfl vX5_goesOnWith rfl rfl rfl rfl (Nat.le_of_ble_eq_true rfl) (Nat.le_of_ble_eq_true rfl) (by decide) (sX5_goesOnWith H9 hI10 124 (by omega)) (fun H18 r19 q20 o21 => ?_)
        obtain ⟨hI22, hf23, y24, rfl, p25⟩ := q20
        clear o21
        have hf26 := fz_fr_tr hf11 hf23 (show fz_su [(20, 3)] [(20, 3), (20, 4), (21, 4), (22, 99999), (23, 99999)] = true from rfl)
        refine fz_if_eq (tgt := 44) kX5_readE rfl (by decide) (fun c27 => ?_) (fun c27 => ?_)
        · exact fz_vret kX5_readE rfl rfl ⟨hI22, hf26, rfl⟩
        · refine fz_aload_n kX5_readE rfl rfl ?_
          refine fz_iload_n kX5_readE rfl rfl ?_
          refine fz_callV (d' := 6) (M' := mX5_readA) (As := [fz_i 6]) (st := []) kX5_readE rfl rfl vX5_readA rfl rfl rfl rfl (Nat.le_of_ble_eq_true rfl) (Nat.le_of_ble_eq_true rfl) (by decide) (sX5_readA_6 H18 hI22  ) (fun H28 r29 q30 o31 => ?_)
          obtain ⟨hI32, hf33, rfl⟩ := q30
          clear o31
          have hf34 := fz_fr_tr hf26 hf33 (show fz_su [(20, 3), (20, 4), (21, 4), (22, 99999), (23, 99999)] [(20, 3), (20, 4), (21, 4), (22, 99999), (23, 99999)] = true from rfl)
          refine fz_aload_n kX5_readE rfl rfl ?_
          refine fz_getR (t := 21) kX5_readE rfl rfl ?_
          refine fz_bipush ⟨by decide, by decide⟩ kX5_readE rfl ?_
          refine fz_iconst ⟨by decide, by decide⟩ kX5_readE rfl ?_
          refine fz_callV (d' := 0) (M' := mX3_add) (As := [fz_i 124, fz_i 0]) (st := []) kX5_readE rfl rfl vX3_add rfl rfl rfl rfl (Nat.le_of_ble_eq_true rfl) (Nat.le_of_ble_eq_true rfl) (by decide) (sX3_add H28 hI32 124 0 ) (fun H35 r36 q37 o38 => ?_)
          obtain ⟨hI39, hf40, y42, rfl, f41⟩ := q37
          clear o38
          have hf43 := fz_fr_tr hf34 hf40 (show fz_su [(21, 4), (22, 99999), (23, 99999)] [(20, 3), (20, 4), (21, 4), (22, 99999), (23, 99999)] = true from rfl)
          refine fz_pop rfl kX5_readE rfl ?_
          refine fz_iincN (ls' := [(2, fz_i (x8 + 1)), (0, fz_r 20), (1, fz_i 6)]) kX5_readE rfl (by decide) rfl (by omega) rfl ?_
          refine fz_goto (tgt := 7) kX5_readE rfl (by decide) ?_
          exact ih14 (x8 + 1) H35 hI39 hf43 (by omega) (by omega)
  exact lp13 _ 0 H1 hI5 hf7 (by omega) (Nat.lt_succ_self _)

abbrev qX5_readO_g (f : Nat) (L : Int) (h : fz_H) : fz_H → Option fz_V → Prop := fun h' r0 => fz_Iv h' ∧ fz_fr [(20, 3), (20, 4), (21, 4), (22, 99999), (23, 99999)] h h' ∧ r0 = none
abbrev qX5_readP_g (f : Nat) (L : Int) (h : fz_H) : fz_H → Option fz_V → Prop := fun h' r0 => fz_Iv h' ∧ fz_fr [(20, 3), (20, 4), (21, 4), (22, 99999), (23, 99999)] h h' ∧ r0 = none
abbrev qX5_readS_g (f : Nat) (L : Int) (h : fz_H) : fz_H → Option fz_V → Prop := fun h' r0 => fz_Iv h' ∧ fz_fr [(20, 3), (20, 4), (21, 4), (22, 99999), (23, 99999)] h h' ∧ r0 = none
abbrev qX5_readB_g (f : Nat) (L : Int) (h : fz_H) : fz_H → Option fz_V → Prop := fun h' r0 => fz_Iv h' ∧ fz_fr [(20, 3), (20, 4), (21, 4), (22, 99999), (23, 99999)] h h' ∧ r0 = none
abbrev qX5_readA_g (f : Nat) (L : Int) (h : fz_H) : fz_H → Option fz_V → Prop := fun h' r0 => fz_Iv h' ∧ fz_fr [(20, 3), (20, 4), (21, 4), (22, 99999), (23, 99999)] h h' ∧ r0 = none
abbrev qX5_readE_g (f : Nat) (L : Int) (h : fz_H) : fz_H → Option fz_V → Prop := fun h' r0 => fz_Iv h' ∧ fz_fr [(20, 3), (20, 4), (21, 4), (22, 99999), (23, 99999)] h h' ∧ r0 = none

set_option maxHeartbeats 1000000 in
set_option maxRecDepth 100000 in
theorem sX5_readO_g (k : Nat) (L : Int) (D : Nat) (hL : 0 ≤ L ∧ L ≤ 5) (ihO : ∀ (h : fz_H) (hI : fz_Iv h), fz_R (D + 2) mX5_readO 0 [(0, fz_r 20), (1, fz_i (L + 1))] [] h (qX5_readO_g k (L + 1) h)) (ihE : ∀ (h : fz_H) (hI : fz_Iv h), fz_R (D + 7) mX5_readE 0 [(0, fz_r 20), (1, fz_i (L + 1))] [] h (qX5_readE_g k (L + 1) h)) (h : fz_H) (hI : fz_Iv h) : fz_R (D + 8) mX5_readO 0 [(0, fz_r 20), (1, fz_i L)] [] h (qX5_readO_g (k + 1) L h) := by
  have hf : fz_fr [(20, 3), (20, 4), (21, 4), (22, 99999), (23, 99999)] h h := fz_fr_rf
  refine fz_aload_n kX5_readO rfl rfl ?_
  have b1 : 0 ≤ h 20 3 ∧ h 20 3 ≤ 120 := hI.1 20 _
  have b2 : 0 ≤ h 20 2 ∧ h 20 2 ≤ 120 := hI.1 20 _
  refine fz_callV (d' := 0) (M' := mX5_letterHere) (As := []) (st := []) kX5_readO rfl rfl vX5_letterHere rfl rfl rfl rfl (Nat.le_of_ble_eq_true rfl) (Nat.le_of_ble_eq_true rfl) (by omega) (sX5_letterHere h hI  ) (fun H3 r4 q5 o6 => ?_)
  obtain ⟨e7, y10, rfl, f8, f9⟩ := q5
  subst H3
  clear o6
  refine fz_istore_n (ls' := [(2, fz_i y10), (0, fz_r 20), (1, fz_i L)]) kX5_readO rfl (by decide) rfl ?_
  refine fz_iload_n kX5_readO rfl rfl ?_
  refine fz_callS (d' := 0) (M' := mX5_nameOf) (As := [fz_i y10]) (st := []) kX5_readO rfl rfl vX5_nameOf rfl rfl (Nat.le_of_ble_eq_true rfl) (Nat.le_of_ble_eq_true rfl) (by omega) (sX5_nameOf h hI y10 ) (fun H11 r12 q13 o14 => ?_)
  obtain ⟨e15, y18, rfl, f16, f17⟩ := q13
  subst H11
  clear o14
  refine fz_istore_n (ls' := [(3, fz_i y18), (2, fz_i y10), (0, fz_r 20), (1, fz_i L)]) kX5_readO rfl (by decide) rfl ?_
  refine fz_iload_n kX5_readO rfl rfl ?_
  refine fz_bipush ⟨by decide, by decide⟩ kX5_readO rfl ?_
  refine fz_icmp_lt (tgt := 29) kX5_readO rfl (by decide) (fun c19 => ?_) (fun c19 => ?_)
  · refine fz_iload_n kX5_readO rfl rfl ?_
    refine fz_if_lt (tgt := 57) kX5_readO rfl (by decide) (fun c20 => ?_) (fun c20 => ?_)
    · refine fz_iload_n kX5_readO rfl rfl ?_
      refine fz_bipush ⟨by decide, by decide⟩ kX5_readO rfl ?_
      refine fz_icmp_lt (tgt := 71) kX5_readO rfl (by decide) (fun c21 => ?_) (fun c21 => ?_)
      · refine fz_aload_n kX5_readO rfl rfl ?_
        refine fz_bipush ⟨by decide, by decide⟩ kX5_readO rfl ?_
        refine fz_callV (d' := 1) (M' := mX5_goesOnWith) (As := [fz_i 40]) (st := []) kX5_readO rfl rfl vX5_goesOnWith rfl rfl rfl rfl (Nat.le_of_ble_eq_true rfl) (Nat.le_of_ble_eq_true rfl) (by omega) (sX5_goesOnWith h hI 40 (by omega)) (fun H22 r23 q24 o25 => ?_)
        obtain ⟨hI26, hf27, y28, rfl, p29⟩ := q24
        clear o25
        have hf30 := fz_fr_tr hf hf27 (show fz_su [(20, 3)] [(20, 3), (20, 4), (21, 4), (22, 99999), (23, 99999)] = true from rfl)
        refine fz_if_eq (tgt := 115) kX5_readO rfl (by decide) (fun c31 => ?_) (fun c31 => ?_)
        · refine fz_aload_n kX5_readO rfl rfl ?_
          refine fz_bipush ⟨by decide, by decide⟩ kX5_readO rfl ?_
          refine fz_callV (d' := 1) (M' := mX5_goesOnWith) (As := [fz_i 33]) (st := []) kX5_readO rfl rfl vX5_goesOnWith rfl rfl rfl rfl (Nat.le_of_ble_eq_true rfl) (Nat.le_of_ble_eq_true rfl) (by omega) (sX5_goesOnWith H22 hI26 33 (by omega)) (fun H32 r33 q34 o35 => ?_)
          obtain ⟨hI36, hf37, y38, rfl, p39⟩ := q34
          clear o35
          have hf40 := fz_fr_tr hf30 hf37 (show fz_su [(20, 3)] [(20, 3), (20, 4), (21, 4), (22, 99999), (23, 99999)] = true from rfl)
          refine fz_if_eq (tgt := 145) kX5_readO rfl (by decide) (fun c41 => ?_) (fun c41 => ?_)
          · refine fz_aload_n kX5_readO rfl rfl ?_
            refine fz_bipush ⟨by decide, by decide⟩ kX5_readO rfl ?_
            refine fz_callV (d' := 1) (M' := mX5_goesOnWith) (As := [fz_i 45]) (st := []) kX5_readO rfl rfl vX5_goesOnWith rfl rfl rfl rfl (Nat.le_of_ble_eq_true rfl) (Nat.le_of_ble_eq_true rfl) (by omega) (sX5_goesOnWith H32 hI36 45 (by omega)) (fun H42 r43 q44 o45 => ?_)
            obtain ⟨hI46, hf47, y48, rfl, p49⟩ := q44
            clear o45
            have hf50 := fz_fr_tr hf40 hf47 (show fz_su [(20, 3)] [(20, 3), (20, 4), (21, 4), (22, 99999), (23, 99999)] = true from rfl)
            refine fz_if_eq (tgt := 175) kX5_readO rfl (by decide) (fun c51 => ?_) (fun c51 => ?_)
            · refine fz_aload_n kX5_readO rfl rfl ?_
              refine fz_iconst ⟨by decide, by decide⟩ kX5_readO rfl ?_
              refine fz_putZ kX5_readO rfl rfl rfl (by omega) ?_
              refine fz_nmu (S := [(20, 3), (20, 4), (21, 4), (22, 99999), (23, 99999)]) (h0 := h) (fz_Iv_up hI46 (by decide) (show (0 : Int) ≤ 1 by decide) (show (1 : Int) ≤ 1 by decide)) (fz_fr_up hf50 rfl) (fun H52 hI53 hf54 e55 => ?_)
              have k56 : H52 20 4 = 1 := by rw [e55]; exact fz_up_e
              clear e55
              exact fz_vret kX5_readO rfl rfl ⟨hI53, hf54, rfl⟩
            · refine fz_aload_n kX5_readO rfl rfl ?_
              refine fz_iload_n kX5_readO rfl rfl ?_
              refine fz_iconst ⟨by decide, by decide⟩ kX5_readO rfl ?_
              refine fz_iaddN kX5_readO rfl (by omega) ?_
              refine fz_eqi (y := (L + 1)) (by omega) ?_
              refine fz_callV (d' := (D + 2)) (M' := mX5_readO) (As := [fz_i (L + 1)]) (st := []) kX5_readO rfl rfl vX5_readO rfl rfl rfl rfl (Nat.le_of_ble_eq_true rfl) (Nat.le_of_ble_eq_true rfl) (by omega) (ihO H42 hI46  ) (fun H57 r58 q59 o60 => ?_)
              obtain ⟨hI61, hf62, rfl⟩ := q59
              clear o60
              have hf63 := fz_fr_tr hf50 hf62 (show fz_su [(20, 3), (20, 4), (21, 4), (22, 99999), (23, 99999)] [(20, 3), (20, 4), (21, 4), (22, 99999), (23, 99999)] = true from rfl)
              refine fz_aload_n kX5_readO rfl rfl ?_
              refine fz_getR (t := 21) kX5_readO rfl rfl ?_
              refine fz_bipush ⟨by decide, by decide⟩ kX5_readO rfl ?_
              refine fz_iconst ⟨by decide, by decide⟩ kX5_readO rfl ?_
              refine fz_callV (d' := 0) (M' := mX3_add) (As := [fz_i 126, fz_i 0]) (st := []) kX5_readO rfl rfl vX3_add rfl rfl rfl rfl (Nat.le_of_ble_eq_true rfl) (Nat.le_of_ble_eq_true rfl) (by omega) (sX3_add H57 hI61 126 0 ) (fun H64 r65 q66 o67 => ?_)
              obtain ⟨hI68, hf69, y71, rfl, f70⟩ := q66
              clear o67
              have hf72 := fz_fr_tr hf63 hf69 (show fz_su [(21, 4), (22, 99999), (23, 99999)] [(20, 3), (20, 4), (21, 4), (22, 99999), (23, 99999)] = true from rfl)
              refine fz_pop rfl kX5_readO rfl ?_
              refine fz_goto (tgt := 180) kX5_readO rfl (by decide) ?_
              exact fz_vret kX5_readO rfl rfl ⟨hI68, hf72, rfl⟩
          · refine fz_aload_n kX5_readO rfl rfl ?_
            refine fz_iload_n kX5_readO rfl rfl ?_
            refine fz_iconst ⟨by decide, by decide⟩ kX5_readO rfl ?_
            refine fz_iaddN kX5_readO rfl (by omega) ?_
            refine fz_eqi (y := (L + 1)) (by omega) ?_
            refine fz_callV (d' := (D + 2)) (M' := mX5_readO) (As := [fz_i (L + 1)]) (st := []) kX5_readO rfl rfl vX5_readO rfl rfl rfl rfl (Nat.le_of_ble_eq_true rfl) (Nat.le_of_ble_eq_true rfl) (by omega) (ihO H32 hI36  ) (fun H73 r74 q75 o76 => ?_)
            obtain ⟨hI77, hf78, rfl⟩ := q75
            clear o76
            have hf79 := fz_fr_tr hf40 hf78 (show fz_su [(20, 3), (20, 4), (21, 4), (22, 99999), (23, 99999)] [(20, 3), (20, 4), (21, 4), (22, 99999), (23, 99999)] = true from rfl)
            refine fz_aload_n kX5_readO rfl rfl ?_
            refine fz_getR (t := 21) kX5_readO rfl rfl ?_
            refine fz_bipush ⟨by decide, by decide⟩ kX5_readO rfl ?_
            refine fz_iconst ⟨by decide, by decide⟩ kX5_readO rfl ?_
            refine fz_callV (d' := 0) (M' := mX3_add) (As := [fz_i 33, fz_i 0]) (st := []) kX5_readO rfl rfl vX3_add rfl rfl rfl rfl (Nat.le_of_ble_eq_true rfl) (Nat.le_of_ble_eq_true rfl) (by omega) (sX3_add H73 hI77 33 0 ) (fun H80 r81 q82 o83 => ?_)
            obtain ⟨hI84, hf85, y87, rfl, f86⟩ := q82
            clear o83
            have hf88 := fz_fr_tr hf79 hf85 (show fz_su [(21, 4), (22, 99999), (23, 99999)] [(20, 3), (20, 4), (21, 4), (22, 99999), (23, 99999)] = true from rfl)
            refine fz_pop rfl kX5_readO rfl ?_
            refine fz_goto (tgt := 180) kX5_readO rfl (by decide) ?_
            exact fz_vret kX5_readO rfl rfl ⟨hI84, hf88, rfl⟩
        · refine fz_aload_n kX5_readO rfl rfl ?_
          refine fz_iload_n kX5_readO rfl rfl ?_
          refine fz_iconst ⟨by decide, by decide⟩ kX5_readO rfl ?_
          refine fz_iaddN kX5_readO rfl (by omega) ?_
          refine fz_eqi (y := (L + 1)) (by omega) ?_
          refine fz_callV (d' := (D + 7)) (M' := mX5_readE) (As := [fz_i (L + 1)]) (st := []) kX5_readO rfl rfl vX5_readE rfl rfl rfl rfl (Nat.le_of_ble_eq_true rfl) (Nat.le_of_ble_eq_true rfl) (by omega) (ihE H22 hI26  ) (fun H89 r90 q91 o92 => ?_)
          obtain ⟨hI93, hf94, rfl⟩ := q91
          clear o92
          have hf95 := fz_fr_tr hf30 hf94 (show fz_su [(20, 3), (20, 4), (21, 4), (22, 99999), (23, 99999)] [(20, 3), (20, 4), (21, 4), (22, 99999), (23, 99999)] = true from rfl)
          refine fz_aload_n kX5_readO rfl rfl ?_
          refine fz_aload_n kX5_readO rfl rfl ?_
          obtain ⟨v96, e97⟩ : ∃ z, H89 20 (4) = z := ⟨_, rfl⟩
          refine fz_getV (v := v96) kX5_readO rfl rfl e97 ?_
          have b98 : 0 ≤ v96 ∧ v96 ≤ 1 := by rw [← e97]; exact hI93.1 20 _
          refine fz_if_ne (tgt := 104) kX5_readO rfl (by decide) (fun c99 => ?_) (fun c99 => ?_)
          · refine fz_iconst ⟨by decide, by decide⟩ kX5_readO rfl ?_
            refine fz_goto (tgt := 109) kX5_readO rfl (by decide) ?_
            refine fz_putZ kX5_readO rfl rfl rfl (by omega) ?_
            refine fz_nmu (S := [(20, 3), (20, 4), (21, 4), (22, 99999), (23, 99999)]) (h0 := h) (fz_Iv_up hI93 (by decide) (show (0 : Int) ≤ 1 by decide) (show (1 : Int) ≤ 1 by decide)) (fz_fr_up hf95 rfl) (fun H100 hI101 hf102 e103 => ?_)
            have k104 : H100 20 4 = 1 := by rw [e103]; exact fz_up_e
            clear e103
            refine fz_goto (tgt := 180) kX5_readO rfl (by decide) ?_
            exact fz_vret kX5_readO rfl rfl ⟨hI101, hf102, rfl⟩
          · refine fz_aload_n kX5_readO rfl rfl ?_
            refine fz_bipush ⟨by decide, by decide⟩ kX5_readO rfl ?_
            refine fz_callV (d' := 1) (M' := mX5_goesOnWith) (As := [fz_i 41]) (st := [fz_r 20]) kX5_readO rfl rfl vX5_goesOnWith rfl rfl rfl rfl (Nat.le_of_ble_eq_true rfl) (Nat.le_of_ble_eq_true rfl) (by omega) (sX5_goesOnWith H89 hI93 41 (by omega)) (fun H105 r106 q107 o108 => ?_)
            obtain ⟨hI109, hf110, y111, rfl, p112⟩ := q107
            clear o108
            have hf113 := fz_fr_tr hf95 hf110 (show fz_su [(20, 3)] [(20, 3), (20, 4), (21, 4), (22, 99999), (23, 99999)] = true from rfl)
            have k114 : H105 20 4 = v96 := (hf110 20 4 rfl).trans e97
            refine fz_if_ne (tgt := 108) kX5_readO rfl (by decide) (fun c115 => ?_) (fun c115 => ?_)
            · refine fz_iconst ⟨by decide, by decide⟩ kX5_readO rfl ?_
              refine fz_putZ kX5_readO rfl rfl rfl (by omega) ?_
              refine fz_nmu (S := [(20, 3), (20, 4), (21, 4), (22, 99999), (23, 99999)]) (h0 := h) (fz_Iv_up hI109 (by decide) (show (0 : Int) ≤ 0 by decide) (show (0 : Int) ≤ 1 by decide)) (fz_fr_up hf113 rfl) (fun H116 hI117 hf118 e119 => ?_)
              have k120 : H116 20 4 = 0 := by rw [e119]; exact fz_up_e
              clear e119
              refine fz_goto (tgt := 180) kX5_readO rfl (by decide) ?_
              exact fz_vret kX5_readO rfl rfl ⟨hI117, hf118, rfl⟩
            · refine fz_iconst ⟨by decide, by decide⟩ kX5_readO rfl ?_
              refine fz_goto (tgt := 109) kX5_readO rfl (by decide) ?_
              refine fz_putZ kX5_readO rfl rfl rfl (by omega) ?_
              refine fz_nmu (S := [(20, 3), (20, 4), (21, 4), (22, 99999), (23, 99999)]) (h0 := h) (fz_Iv_up hI109 (by decide) (show (0 : Int) ≤ 1 by decide) (show (1 : Int) ≤ 1 by decide)) (fz_fr_up hf113 rfl) (fun H121 hI122 hf123 e124 => ?_)
              have k125 : H121 20 4 = 1 := by rw [e124]; exact fz_up_e
              clear e124
              refine fz_goto (tgt := 180) kX5_readO rfl (by decide) ?_
              exact fz_vret kX5_readO rfl rfl ⟨hI122, hf123, rfl⟩
      · exfalso; omega
    · refine fz_aload_n kX5_readO rfl rfl ?_
      refine fz_dup rfl kX5_readO rfl ?_
      refine fz_getV (v := h 20 3) kX5_readO rfl rfl rfl ?_
      have b126 : 0 ≤ h 20 3 ∧ h 20 3 ≤ 120 := hI.1 20 _
      refine fz_iconst ⟨by decide, by decide⟩ kX5_readO rfl ?_
      refine fz_iaddN kX5_readO rfl (by omega) ?_
      refine fz_putI kX5_readO rfl rfl rfl ?_
      refine fz_nmu (S := [(20, 3), (20, 4), (21, 4), (22, 99999), (23, 99999)]) (h0 := h) (fz_Iv_up hI (by decide) (show (0 : Int) ≤ ((h 20 3) + 1) by omega) (show (((h 20 3) + 1) : Int) ≤ 120 by omega)) (fz_fr_up hf rfl) (fun H127 hI128 hf129 e130 => ?_)
      have k131 : H127 20 3 = ((h 20 3) + 1) := by rw [e130]; exact fz_up_e
      clear e130
      refine fz_aload_n kX5_readO rfl rfl ?_
      refine fz_getR (t := 21) kX5_readO rfl rfl ?_
      refine fz_bipush ⟨by decide, by decide⟩ kX5_readO rfl ?_
      refine fz_iload_n kX5_readO rfl rfl ?_
      refine fz_callV (d' := 0) (M' := mX3_add) (As := [fz_i 64, fz_i y18]) (st := []) kX5_readO rfl rfl vX3_add rfl rfl rfl rfl (Nat.le_of_ble_eq_true rfl) (Nat.le_of_ble_eq_true rfl) (by omega) (sX3_add H127 hI128 64 y18 ) (fun H132 r133 q134 o135 => ?_)
      obtain ⟨hI136, hf137, y139, rfl, f138⟩ := q134
      clear o135
      have hf140 := fz_fr_tr hf129 hf137 (show fz_su [(21, 4), (22, 99999), (23, 99999)] [(20, 3), (20, 4), (21, 4), (22, 99999), (23, 99999)] = true from rfl)
      have k141 : H132 20 3 = ((h 20 3) + 1) := (hf137 20 3 rfl).trans k131
      refine fz_pop rfl kX5_readO rfl ?_
      refine fz_goto (tgt := 180) kX5_readO rfl (by decide) ?_
      exact fz_vret kX5_readO rfl rfl ⟨hI136, hf140, rfl⟩
  · refine fz_iload_n kX5_readO rfl rfl ?_
    refine fz_bipush ⟨by decide, by decide⟩ kX5_readO rfl ?_
    refine fz_icmp_gt (tgt := 29) kX5_readO rfl (by decide) (fun c142 => ?_) (fun c142 => ?_)
    · refine fz_iload_n kX5_readO rfl rfl ?_
      refine fz_if_lt (tgt := 57) kX5_readO rfl (by decide) (fun c143 => ?_) (fun c143 => ?_)
      · refine fz_iload_n kX5_readO rfl rfl ?_
        refine fz_bipush ⟨by decide, by decide⟩ kX5_readO rfl ?_
        refine fz_icmp_lt (tgt := 71) kX5_readO rfl (by decide) (fun c144 => ?_) (fun c144 => ?_)
        · refine fz_aload_n kX5_readO rfl rfl ?_
          refine fz_bipush ⟨by decide, by decide⟩ kX5_readO rfl ?_
          refine fz_callV (d' := 1) (M' := mX5_goesOnWith) (As := [fz_i 40]) (st := []) kX5_readO rfl rfl vX5_goesOnWith rfl rfl rfl rfl (Nat.le_of_ble_eq_true rfl) (Nat.le_of_ble_eq_true rfl) (by omega) (sX5_goesOnWith h hI 40 (by omega)) (fun H145 r146 q147 o148 => ?_)
          obtain ⟨hI149, hf150, y151, rfl, p152⟩ := q147
          clear o148
          have hf153 := fz_fr_tr hf hf150 (show fz_su [(20, 3)] [(20, 3), (20, 4), (21, 4), (22, 99999), (23, 99999)] = true from rfl)
          refine fz_if_eq (tgt := 115) kX5_readO rfl (by decide) (fun c154 => ?_) (fun c154 => ?_)
          · refine fz_aload_n kX5_readO rfl rfl ?_
            refine fz_bipush ⟨by decide, by decide⟩ kX5_readO rfl ?_
            refine fz_callV (d' := 1) (M' := mX5_goesOnWith) (As := [fz_i 33]) (st := []) kX5_readO rfl rfl vX5_goesOnWith rfl rfl rfl rfl (Nat.le_of_ble_eq_true rfl) (Nat.le_of_ble_eq_true rfl) (by omega) (sX5_goesOnWith H145 hI149 33 (by omega)) (fun H155 r156 q157 o158 => ?_)
            obtain ⟨hI159, hf160, y161, rfl, p162⟩ := q157
            clear o158
            have hf163 := fz_fr_tr hf153 hf160 (show fz_su [(20, 3)] [(20, 3), (20, 4), (21, 4), (22, 99999), (23, 99999)] = true from rfl)
            refine fz_if_eq (tgt := 145) kX5_readO rfl (by decide) (fun c164 => ?_) (fun c164 => ?_)
            · refine fz_aload_n kX5_readO rfl rfl ?_
              refine fz_bipush ⟨by decide, by decide⟩ kX5_readO rfl ?_
              refine fz_callV (d' := 1) (M' := mX5_goesOnWith) (As := [fz_i 45]) (st := []) kX5_readO rfl rfl vX5_goesOnWith rfl rfl rfl rfl (Nat.le_of_ble_eq_true rfl) (Nat.le_of_ble_eq_true rfl) (by omega) (sX5_goesOnWith H155 hI159 45 (by omega)) (fun H165 r166 q167 o168 => ?_)
              obtain ⟨hI169, hf170, y171, rfl, p172⟩ := q167
              clear o168
              have hf173 := fz_fr_tr hf163 hf170 (show fz_su [(20, 3)] [(20, 3), (20, 4), (21, 4), (22, 99999), (23, 99999)] = true from rfl)
              refine fz_if_eq (tgt := 175) kX5_readO rfl (by decide) (fun c174 => ?_) (fun c174 => ?_)
              · refine fz_aload_n kX5_readO rfl rfl ?_
                refine fz_iconst ⟨by decide, by decide⟩ kX5_readO rfl ?_
                refine fz_putZ kX5_readO rfl rfl rfl (by omega) ?_
                refine fz_nmu (S := [(20, 3), (20, 4), (21, 4), (22, 99999), (23, 99999)]) (h0 := h) (fz_Iv_up hI169 (by decide) (show (0 : Int) ≤ 1 by decide) (show (1 : Int) ≤ 1 by decide)) (fz_fr_up hf173 rfl) (fun H175 hI176 hf177 e178 => ?_)
                have k179 : H175 20 4 = 1 := by rw [e178]; exact fz_up_e
                clear e178
                exact fz_vret kX5_readO rfl rfl ⟨hI176, hf177, rfl⟩
              · refine fz_aload_n kX5_readO rfl rfl ?_
                refine fz_iload_n kX5_readO rfl rfl ?_
                refine fz_iconst ⟨by decide, by decide⟩ kX5_readO rfl ?_
                refine fz_iaddN kX5_readO rfl (by omega) ?_
                refine fz_eqi (y := (L + 1)) (by omega) ?_
                refine fz_callV (d' := (D + 2)) (M' := mX5_readO) (As := [fz_i (L + 1)]) (st := []) kX5_readO rfl rfl vX5_readO rfl rfl rfl rfl (Nat.le_of_ble_eq_true rfl) (Nat.le_of_ble_eq_true rfl) (by omega) (ihO H165 hI169  ) (fun H180 r181 q182 o183 => ?_)
                obtain ⟨hI184, hf185, rfl⟩ := q182
                clear o183
                have hf186 := fz_fr_tr hf173 hf185 (show fz_su [(20, 3), (20, 4), (21, 4), (22, 99999), (23, 99999)] [(20, 3), (20, 4), (21, 4), (22, 99999), (23, 99999)] = true from rfl)
                refine fz_aload_n kX5_readO rfl rfl ?_
                refine fz_getR (t := 21) kX5_readO rfl rfl ?_
                refine fz_bipush ⟨by decide, by decide⟩ kX5_readO rfl ?_
                refine fz_iconst ⟨by decide, by decide⟩ kX5_readO rfl ?_
                refine fz_callV (d' := 0) (M' := mX3_add) (As := [fz_i 126, fz_i 0]) (st := []) kX5_readO rfl rfl vX3_add rfl rfl rfl rfl (Nat.le_of_ble_eq_true rfl) (Nat.le_of_ble_eq_true rfl) (by omega) (sX3_add H180 hI184 126 0 ) (fun H187 r188 q189 o190 => ?_)
                obtain ⟨hI191, hf192, y194, rfl, f193⟩ := q189
                clear o190
                have hf195 := fz_fr_tr hf186 hf192 (show fz_su [(21, 4), (22, 99999), (23, 99999)] [(20, 3), (20, 4), (21, 4), (22, 99999), (23, 99999)] = true from rfl)
                refine fz_pop rfl kX5_readO rfl ?_
                refine fz_goto (tgt := 180) kX5_readO rfl (by decide) ?_
                exact fz_vret kX5_readO rfl rfl ⟨hI191, hf195, rfl⟩
            · refine fz_aload_n kX5_readO rfl rfl ?_
              refine fz_iload_n kX5_readO rfl rfl ?_
              refine fz_iconst ⟨by decide, by decide⟩ kX5_readO rfl ?_
              refine fz_iaddN kX5_readO rfl (by omega) ?_
              refine fz_eqi (y := (L + 1)) (by omega) ?_
              refine fz_callV (d' := (D + 2)) (M' := mX5_readO) (As := [fz_i (L + 1)]) (st := []) kX5_readO rfl rfl vX5_readO rfl rfl rfl rfl (Nat.le_of_ble_eq_true rfl) (Nat.le_of_ble_eq_true rfl) (by omega) (ihO H155 hI159  ) (fun H196 r197 q198 o199 => ?_)
              obtain ⟨hI200, hf201, rfl⟩ := q198
              clear o199
              have hf202 := fz_fr_tr hf163 hf201 (show fz_su [(20, 3), (20, 4), (21, 4), (22, 99999), (23, 99999)] [(20, 3), (20, 4), (21, 4), (22, 99999), (23, 99999)] = true from rfl)
              refine fz_aload_n kX5_readO rfl rfl ?_
              refine fz_getR (t := 21) kX5_readO rfl rfl ?_
              refine fz_bipush ⟨by decide, by decide⟩ kX5_readO rfl ?_
              refine fz_iconst ⟨by decide, by decide⟩ kX5_readO rfl ?_
              refine fz_callV (d' := 0) (M' := mX3_add) (As := [fz_i 33, fz_i 0]) (st := []) kX5_readO rfl rfl vX3_add rfl rfl rfl rfl (Nat.le_of_ble_eq_true rfl) (Nat.le_of_ble_eq_true rfl) (by omega) (sX3_add H196 hI200 33 0 ) (fun H203 r204 q205 o206 => ?_)
              obtain ⟨hI207, hf208, y210, rfl, f209⟩ := q205
              clear o206
              have hf211 := fz_fr_tr hf202 hf208 (show fz_su [(21, 4), (22, 99999), (23, 99999)] [(20, 3), (20, 4), (21, 4), (22, 99999), (23, 99999)] = true from rfl)
              refine fz_pop rfl kX5_readO rfl ?_
              refine fz_goto (tgt := 180) kX5_readO rfl (by decide) ?_
              exact fz_vret kX5_readO rfl rfl ⟨hI207, hf211, rfl⟩
          · refine fz_aload_n kX5_readO rfl rfl ?_
            refine fz_iload_n kX5_readO rfl rfl ?_
            refine fz_iconst ⟨by decide, by decide⟩ kX5_readO rfl ?_
            refine fz_iaddN kX5_readO rfl (by omega) ?_
            refine fz_eqi (y := (L + 1)) (by omega) ?_
            refine fz_callV (d' := (D + 7)) (M' := mX5_readE) (As := [fz_i (L + 1)]) (st := []) kX5_readO rfl rfl vX5_readE rfl rfl rfl rfl (Nat.le_of_ble_eq_true rfl) (Nat.le_of_ble_eq_true rfl) (by omega) (ihE H145 hI149  ) (fun H212 r213 q214 o215 => ?_)
            obtain ⟨hI216, hf217, rfl⟩ := q214
            clear o215
            have hf218 := fz_fr_tr hf153 hf217 (show fz_su [(20, 3), (20, 4), (21, 4), (22, 99999), (23, 99999)] [(20, 3), (20, 4), (21, 4), (22, 99999), (23, 99999)] = true from rfl)
            refine fz_aload_n kX5_readO rfl rfl ?_
            refine fz_aload_n kX5_readO rfl rfl ?_
            obtain ⟨v219, e220⟩ : ∃ z, H212 20 (4) = z := ⟨_, rfl⟩
            refine fz_getV (v := v219) kX5_readO rfl rfl e220 ?_
            have b221 : 0 ≤ v219 ∧ v219 ≤ 1 := by rw [← e220]; exact hI216.1 20 _
            refine fz_if_ne (tgt := 104) kX5_readO rfl (by decide) (fun c222 => ?_) (fun c222 => ?_)
            · refine fz_iconst ⟨by decide, by decide⟩ kX5_readO rfl ?_
              refine fz_goto (tgt := 109) kX5_readO rfl (by decide) ?_
              refine fz_putZ kX5_readO rfl rfl rfl (by omega) ?_
              refine fz_nmu (S := [(20, 3), (20, 4), (21, 4), (22, 99999), (23, 99999)]) (h0 := h) (fz_Iv_up hI216 (by decide) (show (0 : Int) ≤ 1 by decide) (show (1 : Int) ≤ 1 by decide)) (fz_fr_up hf218 rfl) (fun H223 hI224 hf225 e226 => ?_)
              have k227 : H223 20 4 = 1 := by rw [e226]; exact fz_up_e
              clear e226
              refine fz_goto (tgt := 180) kX5_readO rfl (by decide) ?_
              exact fz_vret kX5_readO rfl rfl ⟨hI224, hf225, rfl⟩
            · refine fz_aload_n kX5_readO rfl rfl ?_
              refine fz_bipush ⟨by decide, by decide⟩ kX5_readO rfl ?_
              refine fz_callV (d' := 1) (M' := mX5_goesOnWith) (As := [fz_i 41]) (st := [fz_r 20]) kX5_readO rfl rfl vX5_goesOnWith rfl rfl rfl rfl (Nat.le_of_ble_eq_true rfl) (Nat.le_of_ble_eq_true rfl) (by omega) (sX5_goesOnWith H212 hI216 41 (by omega)) (fun H228 r229 q230 o231 => ?_)
              obtain ⟨hI232, hf233, y234, rfl, p235⟩ := q230
              clear o231
              have hf236 := fz_fr_tr hf218 hf233 (show fz_su [(20, 3)] [(20, 3), (20, 4), (21, 4), (22, 99999), (23, 99999)] = true from rfl)
              have k237 : H228 20 4 = v219 := (hf233 20 4 rfl).trans e220
              refine fz_if_ne (tgt := 108) kX5_readO rfl (by decide) (fun c238 => ?_) (fun c238 => ?_)
              · refine fz_iconst ⟨by decide, by decide⟩ kX5_readO rfl ?_
                refine fz_putZ kX5_readO rfl rfl rfl (by omega) ?_
                refine fz_nmu (S := [(20, 3), (20, 4), (21, 4), (22, 99999), (23, 99999)]) (h0 := h) (fz_Iv_up hI232 (by decide) (show (0 : Int) ≤ 0 by decide) (show (0 : Int) ≤ 1 by decide)) (fz_fr_up hf236 rfl) (fun H239 hI240 hf241 e242 => ?_)
                have k243 : H239 20 4 = 0 := by rw [e242]; exact fz_up_e
                clear e242
                refine fz_goto (tgt := 180) kX5_readO rfl (by decide) ?_
                exact fz_vret kX5_readO rfl rfl ⟨hI240, hf241, rfl⟩
              · refine fz_iconst ⟨by decide, by decide⟩ kX5_readO rfl ?_
                refine fz_goto (tgt := 109) kX5_readO rfl (by decide) ?_
                refine fz_putZ kX5_readO rfl rfl rfl (by omega) ?_
                refine fz_nmu (S := [(20, 3), (20, 4), (21, 4), (22, 99999), (23, 99999)]) (h0 := h) (fz_Iv_up hI232 (by decide) (show (0 : Int) ≤ 1 by decide) (show (1 : Int) ≤ 1 by decide)) (fz_fr_up hf236 rfl) (fun H244 hI245 hf246 e247 => ?_)
                have k248 : H244 20 4 = 1 := by rw [e247]; exact fz_up_e
                clear e247
                refine fz_goto (tgt := 180) kX5_readO rfl (by decide) ?_
                exact fz_vret kX5_readO rfl rfl ⟨hI245, hf246, rfl⟩
        · exfalso; omega
      · refine fz_aload_n kX5_readO rfl rfl ?_
        refine fz_dup rfl kX5_readO rfl ?_
        refine fz_getV (v := h 20 3) kX5_readO rfl rfl rfl ?_
        have b249 : 0 ≤ h 20 3 ∧ h 20 3 ≤ 120 := hI.1 20 _
        refine fz_iconst ⟨by decide, by decide⟩ kX5_readO rfl ?_
        refine fz_iaddN kX5_readO rfl (by omega) ?_
        refine fz_putI kX5_readO rfl rfl rfl ?_
        refine fz_nmu (S := [(20, 3), (20, 4), (21, 4), (22, 99999), (23, 99999)]) (h0 := h) (fz_Iv_up hI (by decide) (show (0 : Int) ≤ ((h 20 3) + 1) by omega) (show (((h 20 3) + 1) : Int) ≤ 120 by omega)) (fz_fr_up hf rfl) (fun H250 hI251 hf252 e253 => ?_)
        have k254 : H250 20 3 = ((h 20 3) + 1) := by rw [e253]; exact fz_up_e
        clear e253
        refine fz_aload_n kX5_readO rfl rfl ?_
        refine fz_getR (t := 21) kX5_readO rfl rfl ?_
        refine fz_bipush ⟨by decide, by decide⟩ kX5_readO rfl ?_
        refine fz_iload_n kX5_readO rfl rfl ?_
        refine fz_callV (d' := 0) (M' := mX3_add) (As := [fz_i 64, fz_i y18]) (st := []) kX5_readO rfl rfl vX3_add rfl rfl rfl rfl (Nat.le_of_ble_eq_true rfl) (Nat.le_of_ble_eq_true rfl) (by omega) (sX3_add H250 hI251 64 y18 ) (fun H255 r256 q257 o258 => ?_)
        obtain ⟨hI259, hf260, y262, rfl, f261⟩ := q257
        clear o258
        have hf263 := fz_fr_tr hf252 hf260 (show fz_su [(21, 4), (22, 99999), (23, 99999)] [(20, 3), (20, 4), (21, 4), (22, 99999), (23, 99999)] = true from rfl)
        have k264 : H255 20 3 = ((h 20 3) + 1) := (hf260 20 3 rfl).trans k254
        refine fz_pop rfl kX5_readO rfl ?_
        refine fz_goto (tgt := 180) kX5_readO rfl (by decide) ?_
        exact fz_vret kX5_readO rfl rfl ⟨hI259, hf263, rfl⟩
    · refine fz_aload_n kX5_readO rfl rfl ?_
      refine fz_callV (d' := 1) (M' := mX5_readNumber) (As := []) (st := []) kX5_readO rfl rfl vX5_readNumber rfl rfl rfl rfl (Nat.le_of_ble_eq_true rfl) (Nat.le_of_ble_eq_true rfl) (by omega) (sX5_readNumber h hI  ) (fun H265 r266 q267 o268 => ?_)
      obtain ⟨hI269, hf270, rfl⟩ := q267
      clear o268
      have hf271 := fz_fr_tr hf hf270 (show fz_su [(20, 3), (21, 4), (22, 99999), (23, 99999)] [(20, 3), (20, 4), (21, 4), (22, 99999), (23, 99999)] = true from rfl)
      refine fz_goto (tgt := 180) kX5_readO rfl (by decide) ?_
      exact fz_vret kX5_readO rfl rfl ⟨hI269, hf271, rfl⟩

set_option maxHeartbeats 1000000 in
set_option maxRecDepth 100000 in
theorem sX5_readP_g (k : Nat) (L : Int) (D : Nat) (hL : 0 ≤ L ∧ L ≤ 5) (ihO : ∀ (h : fz_H) (hI : fz_Iv h), fz_R (D + 2) mX5_readO 0 [(0, fz_r 20), (1, fz_i (L + 1))] [] h (qX5_readO_g k (L + 1) h)) (ihE : ∀ (h : fz_H) (hI : fz_Iv h), fz_R (D + 7) mX5_readE 0 [(0, fz_r 20), (1, fz_i (L + 1))] [] h (qX5_readE_g k (L + 1) h)) (h : fz_H) (hI : fz_Iv h) : fz_R (D + 9) mX5_readP 0 [(0, fz_r 20), (1, fz_i L)] [] h (qX5_readP_g (k + 1) L h) := by
  have hf : fz_fr [(20, 3), (20, 4), (21, 4), (22, 99999), (23, 99999)] h h := fz_fr_rf
  refine fz_aload_n kX5_readP rfl rfl ?_
  refine fz_iload_n kX5_readP rfl rfl ?_
  refine fz_callV (d' := (D + 8)) (M' := mX5_readO) (As := [fz_i L]) (st := []) kX5_readP rfl rfl vX5_readO rfl rfl rfl rfl (Nat.le_of_ble_eq_true rfl) (Nat.le_of_ble_eq_true rfl) (by omega) (sX5_readO_g k L D hL ihO ihE h hI  ) (fun H1 r2 q3 o4 => ?_)
  obtain ⟨hI5, hf6, rfl⟩ := q3
  clear o4
  have hf7 := fz_fr_tr hf hf6 (show fz_su [(20, 3), (20, 4), (21, 4), (22, 99999), (23, 99999)] [(20, 3), (20, 4), (21, 4), (22, 99999), (23, 99999)] = true from rfl)
  refine fz_aload_n kX5_readP rfl rfl ?_
  refine fz_bipush ⟨by decide, by decide⟩ kX5_readP rfl ?_
  refine fz_bipush ⟨by decide, by decide⟩ kX5_readP rfl ?_
  refine fz_bipush ⟨by decide, by decide⟩ kX5_readP rfl ?_
  refine fz_callV (d' := 1) (M' := mX5_nextOf) (As := [fz_i 42, fz_i 47, fz_i 37]) (st := []) kX5_readP rfl rfl vX5_nextOf rfl rfl rfl rfl (Nat.le_of_ble_eq_true rfl) (Nat.le_of_ble_eq_true rfl) (by omega) (sX5_nextOf H1 hI5 42 47 37 ) (fun H8 r9 q10 o11 => ?_)
  obtain ⟨hI12, hf13, y15, rfl, f14⟩ := q10
  clear o11
  have hf16 := fz_fr_tr hf7 hf13 (show fz_su [(20, 3)] [(20, 3), (20, 4), (21, 4), (22, 99999), (23, 99999)] = true from rfl)
  refine fz_istore_n (ls' := [(2, fz_i y15), (0, fz_r 20), (1, fz_i L)]) kX5_readP rfl (by decide) rfl ?_
  refine fz_iconst ⟨by decide, by decide⟩ kX5_readP rfl ?_
  refine fz_istore_n (ls' := [(3, fz_i 0), (2, fz_i y15), (0, fz_r 20), (1, fz_i L)]) kX5_readP rfl (by decide) rfl ?_
  have lp23 : ∀ (n22 : Nat) (x17 : Int) (x18 : Int) (H19 : fz_H), fz_Iv H19 → fz_fr [(20, 3), (20, 4), (21, 4), (22, 99999), (23, 99999)] h H19 → (0 ≤ x17 ∧ x17 ≤ 2147483647) → ((-2147483648) ≤ x18 ∧ x18 ≤ 2147483647) → (120 - x17).toNat < n22 → fz_R (D + 9) mX5_readP 18 [(3, fz_i x17), (2, fz_i x18), (0, fz_r 20), (1, fz_i L)] [] H19 (qX5_readP_g (k + 1) L h) := by
    intro n22
    induction n22 with
    | zero => intro x17 x18 H19 hI20 hf21 hv26 hv27 hm25; exact absurd hm25 (by omega)
    | succ n22 ih24 =>
      intro x17 x18 H19 hI20 hf21 hv26 hv27 hm25
      refine fz_iload_n kX5_readP rfl rfl ?_
      refine fz_bipush ⟨by decide, by decide⟩ kX5_readP rfl ?_
      refine fz_icmp_ge (tgt := 60) kX5_readP rfl (by decide) (fun c28 => ?_) (fun c28 => ?_)
      · exact fz_vret kX5_readP rfl rfl ⟨hI20, hf21, rfl⟩
      · refine fz_iload_n kX5_readP rfl rfl ?_
        refine fz_if_eq (tgt := 60) kX5_readP rfl (by decide) (fun c29 => ?_) (fun c29 => ?_)
        · exact fz_vret kX5_readP rfl rfl ⟨hI20, hf21, rfl⟩
        · refine fz_aload_n kX5_readP rfl rfl ?_
          refine fz_iload_n kX5_readP rfl rfl ?_
          refine fz_callV (d' := (D + 8)) (M' := mX5_readO) (As := [fz_i L]) (st := []) kX5_readP rfl rfl vX5_readO rfl rfl rfl rfl (Nat.le_of_ble_eq_true rfl) (Nat.le_of_ble_eq_true rfl) (by omega) (sX5_readO_g k L D hL ihO ihE H19 hI20  ) (fun H30 r31 q32 o33 => ?_)
          obtain ⟨hI34, hf35, rfl⟩ := q32
          clear o33
          have hf36 := fz_fr_tr hf21 hf35 (show fz_su [(20, 3), (20, 4), (21, 4), (22, 99999), (23, 99999)] [(20, 3), (20, 4), (21, 4), (22, 99999), (23, 99999)] = true from rfl)
          refine fz_aload_n kX5_readP rfl rfl ?_
          refine fz_getR (t := 21) kX5_readP rfl rfl ?_
          refine fz_iload_n kX5_readP rfl rfl ?_
          refine fz_iconst ⟨by decide, by decide⟩ kX5_readP rfl ?_
          refine fz_callV (d' := 0) (M' := mX3_add) (As := [fz_i x18, fz_i 0]) (st := []) kX5_readP rfl rfl vX3_add rfl rfl rfl rfl (Nat.le_of_ble_eq_true rfl) (Nat.le_of_ble_eq_true rfl) (by omega) (sX3_add H30 hI34 x18 0 ) (fun H37 r38 q39 o40 => ?_)
          obtain ⟨hI41, hf42, y44, rfl, f43⟩ := q39
          clear o40
          have hf45 := fz_fr_tr hf36 hf42 (show fz_su [(21, 4), (22, 99999), (23, 99999)] [(20, 3), (20, 4), (21, 4), (22, 99999), (23, 99999)] = true from rfl)
          refine fz_pop rfl kX5_readP rfl ?_
          refine fz_aload_n kX5_readP rfl rfl ?_
          refine fz_bipush ⟨by decide, by decide⟩ kX5_readP rfl ?_
          refine fz_bipush ⟨by decide, by decide⟩ kX5_readP rfl ?_
          refine fz_bipush ⟨by decide, by decide⟩ kX5_readP rfl ?_
          refine fz_callV (d' := 1) (M' := mX5_nextOf) (As := [fz_i 42, fz_i 47, fz_i 37]) (st := []) kX5_readP rfl rfl vX5_nextOf rfl rfl rfl rfl (Nat.le_of_ble_eq_true rfl) (Nat.le_of_ble_eq_true rfl) (by omega) (sX5_nextOf H37 hI41 42 47 37 ) (fun H46 r47 q48 o49 => ?_)
          obtain ⟨hI50, hf51, y53, rfl, f52⟩ := q48
          clear o49
          have hf54 := fz_fr_tr hf45 hf51 (show fz_su [(20, 3)] [(20, 3), (20, 4), (21, 4), (22, 99999), (23, 99999)] = true from rfl)
          refine fz_istore_n (ls' := [(2, fz_i y53), (3, fz_i x17), (0, fz_r 20), (1, fz_i L)]) kX5_readP rfl (by decide) rfl ?_
          refine fz_iincN (ls' := [(3, fz_i (x17 + 1)), (2, fz_i y53), (0, fz_r 20), (1, fz_i L)]) kX5_readP rfl (by decide) rfl (by omega) rfl ?_
          refine fz_goto (tgt := 18) kX5_readP rfl (by decide) ?_
          exact ih24 (x17 + 1) y53 H46 hI50 hf54 (by omega) (by omega) (by omega)
  exact lp23 _ 0 y15 H8 hI12 hf16 (by omega) (by omega) (Nat.lt_succ_self _)

set_option maxHeartbeats 1000000 in
set_option maxRecDepth 100000 in
theorem sX5_readS_g (k : Nat) (L : Int) (D : Nat) (hL : 0 ≤ L ∧ L ≤ 5) (ihO : ∀ (h : fz_H) (hI : fz_Iv h), fz_R (D + 2) mX5_readO 0 [(0, fz_r 20), (1, fz_i (L + 1))] [] h (qX5_readO_g k (L + 1) h)) (ihE : ∀ (h : fz_H) (hI : fz_Iv h), fz_R (D + 7) mX5_readE 0 [(0, fz_r 20), (1, fz_i (L + 1))] [] h (qX5_readE_g k (L + 1) h)) (h : fz_H) (hI : fz_Iv h) : fz_R (D + 10) mX5_readS 0 [(0, fz_r 20), (1, fz_i L)] [] h (qX5_readS_g (k + 1) L h) := by
  have hf : fz_fr [(20, 3), (20, 4), (21, 4), (22, 99999), (23, 99999)] h h := fz_fr_rf
  refine fz_aload_n kX5_readS rfl rfl ?_
  refine fz_iload_n kX5_readS rfl rfl ?_
  refine fz_callV (d' := (D + 9)) (M' := mX5_readP) (As := [fz_i L]) (st := []) kX5_readS rfl rfl vX5_readP rfl rfl rfl rfl (Nat.le_of_ble_eq_true rfl) (Nat.le_of_ble_eq_true rfl) (by omega) (sX5_readP_g k L D hL ihO ihE h hI  ) (fun H1 r2 q3 o4 => ?_)
  obtain ⟨hI5, hf6, rfl⟩ := q3
  clear o4
  have hf7 := fz_fr_tr hf hf6 (show fz_su [(20, 3), (20, 4), (21, 4), (22, 99999), (23, 99999)] [(20, 3), (20, 4), (21, 4), (22, 99999), (23, 99999)] = true from rfl)
  refine fz_aload_n kX5_readS rfl rfl ?_
  refine fz_bipush ⟨by decide, by decide⟩ kX5_readS rfl ?_
  refine fz_bipush ⟨by decide, by decide⟩ kX5_readS rfl ?_
  refine fz_bipush ⟨by decide, by decide⟩ kX5_readS rfl ?_
  refine fz_callV (d' := 1) (M' := mX5_nextOf) (As := [fz_i 43, fz_i 45, fz_i 45]) (st := []) kX5_readS rfl rfl vX5_nextOf rfl rfl rfl rfl (Nat.le_of_ble_eq_true rfl) (Nat.le_of_ble_eq_true rfl) (by omega) (sX5_nextOf H1 hI5 43 45 45 ) (fun H8 r9 q10 o11 => ?_)
  obtain ⟨hI12, hf13, y15, rfl, f14⟩ := q10
  clear o11
  have hf16 := fz_fr_tr hf7 hf13 (show fz_su [(20, 3)] [(20, 3), (20, 4), (21, 4), (22, 99999), (23, 99999)] = true from rfl)
  refine fz_istore_n (ls' := [(2, fz_i y15), (0, fz_r 20), (1, fz_i L)]) kX5_readS rfl (by decide) rfl ?_
  refine fz_iconst ⟨by decide, by decide⟩ kX5_readS rfl ?_
  refine fz_istore_n (ls' := [(3, fz_i 0), (2, fz_i y15), (0, fz_r 20), (1, fz_i L)]) kX5_readS rfl (by decide) rfl ?_
  have lp23 : ∀ (n22 : Nat) (x17 : Int) (x18 : Int) (H19 : fz_H), fz_Iv H19 → fz_fr [(20, 3), (20, 4), (21, 4), (22, 99999), (23, 99999)] h H19 → (0 ≤ x17 ∧ x17 ≤ 2147483647) → ((-2147483648) ≤ x18 ∧ x18 ≤ 2147483647) → (120 - x17).toNat < n22 → fz_R (D + 10) mX5_readS 18 [(3, fz_i x17), (2, fz_i x18), (0, fz_r 20), (1, fz_i L)] [] H19 (qX5_readS_g (k + 1) L h) := by
    intro n22
    induction n22 with
    | zero => intro x17 x18 H19 hI20 hf21 hv26 hv27 hm25; exact absurd hm25 (by omega)
    | succ n22 ih24 =>
      intro x17 x18 H19 hI20 hf21 hv26 hv27 hm25
      refine fz_iload_n kX5_readS rfl rfl ?_
      refine fz_bipush ⟨by decide, by decide⟩ kX5_readS rfl ?_
      refine fz_icmp_ge (tgt := 60) kX5_readS rfl (by decide) (fun c28 => ?_) (fun c28 => ?_)
      · exact fz_vret kX5_readS rfl rfl ⟨hI20, hf21, rfl⟩
      · refine fz_iload_n kX5_readS rfl rfl ?_
        refine fz_if_eq (tgt := 60) kX5_readS rfl (by decide) (fun c29 => ?_) (fun c29 => ?_)
        · exact fz_vret kX5_readS rfl rfl ⟨hI20, hf21, rfl⟩
        · refine fz_aload_n kX5_readS rfl rfl ?_
          refine fz_iload_n kX5_readS rfl rfl ?_
          refine fz_callV (d' := (D + 9)) (M' := mX5_readP) (As := [fz_i L]) (st := []) kX5_readS rfl rfl vX5_readP rfl rfl rfl rfl (Nat.le_of_ble_eq_true rfl) (Nat.le_of_ble_eq_true rfl) (by omega) (sX5_readP_g k L D hL ihO ihE H19 hI20  ) (fun H30 r31 q32 o33 => ?_)
          obtain ⟨hI34, hf35, rfl⟩ := q32
          clear o33
          have hf36 := fz_fr_tr hf21 hf35 (show fz_su [(20, 3), (20, 4), (21, 4), (22, 99999), (23, 99999)] [(20, 3), (20, 4), (21, 4), (22, 99999), (23, 99999)] = true from rfl)
          refine fz_aload_n kX5_readS rfl rfl ?_
          refine fz_getR (t := 21) kX5_readS rfl rfl ?_
          refine fz_iload_n kX5_readS rfl rfl ?_
          refine fz_iconst ⟨by decide, by decide⟩ kX5_readS rfl ?_
          refine fz_callV (d' := 0) (M' := mX3_add) (As := [fz_i x18, fz_i 0]) (st := []) kX5_readS rfl rfl vX3_add rfl rfl rfl rfl (Nat.le_of_ble_eq_true rfl) (Nat.le_of_ble_eq_true rfl) (by omega) (sX3_add H30 hI34 x18 0 ) (fun H37 r38 q39 o40 => ?_)
          obtain ⟨hI41, hf42, y44, rfl, f43⟩ := q39
          clear o40
          have hf45 := fz_fr_tr hf36 hf42 (show fz_su [(21, 4), (22, 99999), (23, 99999)] [(20, 3), (20, 4), (21, 4), (22, 99999), (23, 99999)] = true from rfl)
          refine fz_pop rfl kX5_readS rfl ?_
          refine fz_aload_n kX5_readS rfl rfl ?_
          refine fz_bipush ⟨by decide, by decide⟩ kX5_readS rfl ?_
          refine fz_bipush ⟨by decide, by decide⟩ kX5_readS rfl ?_
          refine fz_bipush ⟨by decide, by decide⟩ kX5_readS rfl ?_
          refine fz_callV (d' := 1) (M' := mX5_nextOf) (As := [fz_i 43, fz_i 45, fz_i 45]) (st := []) kX5_readS rfl rfl vX5_nextOf rfl rfl rfl rfl (Nat.le_of_ble_eq_true rfl) (Nat.le_of_ble_eq_true rfl) (by omega) (sX5_nextOf H37 hI41 43 45 45 ) (fun H46 r47 q48 o49 => ?_)
          obtain ⟨hI50, hf51, y53, rfl, f52⟩ := q48
          clear o49
          have hf54 := fz_fr_tr hf45 hf51 (show fz_su [(20, 3)] [(20, 3), (20, 4), (21, 4), (22, 99999), (23, 99999)] = true from rfl)
          refine fz_istore_n (ls' := [(2, fz_i y53), (3, fz_i x17), (0, fz_r 20), (1, fz_i L)]) kX5_readS rfl (by decide) rfl ?_
          refine fz_iincN (ls' := [(3, fz_i (x17 + 1)), (2, fz_i y53), (0, fz_r 20), (1, fz_i L)]) kX5_readS rfl (by decide) rfl (by omega) rfl ?_
          refine fz_goto (tgt := 18) kX5_readS rfl (by decide) ?_
          exact ih24 (x17 + 1) y53 H46 hI50 hf54 (by omega) (by omega) (by omega)
  exact lp23 _ 0 y15 H8 hI12 hf16 (by omega) (by omega) (Nat.lt_succ_self _)

set_option maxHeartbeats 1000000 in
set_option maxRecDepth 100000 in
theorem sX5_readB_g (k : Nat) (L : Int) (D : Nat) (hL : 0 ≤ L ∧ L ≤ 5) (ihO : ∀ (h : fz_H) (hI : fz_Iv h), fz_R (D + 2) mX5_readO 0 [(0, fz_r 20), (1, fz_i (L + 1))] [] h (qX5_readO_g k (L + 1) h)) (ihE : ∀ (h : fz_H) (hI : fz_Iv h), fz_R (D + 7) mX5_readE 0 [(0, fz_r 20), (1, fz_i (L + 1))] [] h (qX5_readE_g k (L + 1) h)) (h : fz_H) (hI : fz_Iv h) : fz_R (D + 11) mX5_readB 0 [(0, fz_r 20), (1, fz_i L)] [] h (qX5_readB_g (k + 1) L h) := by
  have hf : fz_fr [(20, 3), (20, 4), (21, 4), (22, 99999), (23, 99999)] h h := fz_fr_rf
  refine fz_aload_n kX5_readB rfl rfl ?_
  refine fz_iload_n kX5_readB rfl rfl ?_
  refine fz_callV (d' := (D + 10)) (M' := mX5_readS) (As := [fz_i L]) (st := []) kX5_readB rfl rfl vX5_readS rfl rfl rfl rfl (Nat.le_of_ble_eq_true rfl) (Nat.le_of_ble_eq_true rfl) (by omega) (sX5_readS_g k L D hL ihO ihE h hI  ) (fun H1 r2 q3 o4 => ?_)
  obtain ⟨hI5, hf6, rfl⟩ := q3
  clear o4
  have hf7 := fz_fr_tr hf hf6 (show fz_su [(20, 3), (20, 4), (21, 4), (22, 99999), (23, 99999)] [(20, 3), (20, 4), (21, 4), (22, 99999), (23, 99999)] = true from rfl)
  refine fz_aload_n kX5_readB rfl rfl ?_
  refine fz_bipush ⟨by decide, by decide⟩ kX5_readB rfl ?_
  refine fz_bipush ⟨by decide, by decide⟩ kX5_readB rfl ?_
  refine fz_bipush ⟨by decide, by decide⟩ kX5_readB rfl ?_
  refine fz_callV (d' := 1) (M' := mX5_nextOf) (As := [fz_i 60, fz_i 61, fz_i 62]) (st := []) kX5_readB rfl rfl vX5_nextOf rfl rfl rfl rfl (Nat.le_of_ble_eq_true rfl) (Nat.le_of_ble_eq_true rfl) (by omega) (sX5_nextOf H1 hI5 60 61 62 ) (fun H8 r9 q10 o11 => ?_)
  obtain ⟨hI12, hf13, y15, rfl, f14⟩ := q10
  clear o11
  have hf16 := fz_fr_tr hf7 hf13 (show fz_su [(20, 3)] [(20, 3), (20, 4), (21, 4), (22, 99999), (23, 99999)] = true from rfl)
  refine fz_istore_n (ls' := [(2, fz_i y15), (0, fz_r 20), (1, fz_i L)]) kX5_readB rfl (by decide) rfl ?_
  refine fz_iload_n kX5_readB rfl rfl ?_
  refine fz_if_eq (tgt := 35) kX5_readB rfl (by decide) (fun c17 => ?_) (fun c17 => ?_)
  · exact fz_vret kX5_readB rfl rfl ⟨hI12, hf16, rfl⟩
  · refine fz_aload_n kX5_readB rfl rfl ?_
    refine fz_iload_n kX5_readB rfl rfl ?_
    refine fz_callV (d' := (D + 10)) (M' := mX5_readS) (As := [fz_i L]) (st := []) kX5_readB rfl rfl vX5_readS rfl rfl rfl rfl (Nat.le_of_ble_eq_true rfl) (Nat.le_of_ble_eq_true rfl) (by omega) (sX5_readS_g k L D hL ihO ihE H8 hI12  ) (fun H18 r19 q20 o21 => ?_)
    obtain ⟨hI22, hf23, rfl⟩ := q20
    clear o21
    have hf24 := fz_fr_tr hf16 hf23 (show fz_su [(20, 3), (20, 4), (21, 4), (22, 99999), (23, 99999)] [(20, 3), (20, 4), (21, 4), (22, 99999), (23, 99999)] = true from rfl)
    refine fz_aload_n kX5_readB rfl rfl ?_
    refine fz_getR (t := 21) kX5_readB rfl rfl ?_
    refine fz_iload_n kX5_readB rfl rfl ?_
    refine fz_iconst ⟨by decide, by decide⟩ kX5_readB rfl ?_
    refine fz_callV (d' := 0) (M' := mX3_add) (As := [fz_i y15, fz_i 0]) (st := []) kX5_readB rfl rfl vX3_add rfl rfl rfl rfl (Nat.le_of_ble_eq_true rfl) (Nat.le_of_ble_eq_true rfl) (by omega) (sX3_add H18 hI22 y15 0 ) (fun H25 r26 q27 o28 => ?_)
    obtain ⟨hI29, hf30, y32, rfl, f31⟩ := q27
    clear o28
    have hf33 := fz_fr_tr hf24 hf30 (show fz_su [(21, 4), (22, 99999), (23, 99999)] [(20, 3), (20, 4), (21, 4), (22, 99999), (23, 99999)] = true from rfl)
    refine fz_pop rfl kX5_readB rfl ?_
    exact fz_vret kX5_readB rfl rfl ⟨hI29, hf33, rfl⟩

set_option maxHeartbeats 1000000 in
set_option maxRecDepth 100000 in
theorem sX5_readA_g (k : Nat) (L : Int) (D : Nat) (hL : 0 ≤ L ∧ L ≤ 5) (ihO : ∀ (h : fz_H) (hI : fz_Iv h), fz_R (D + 2) mX5_readO 0 [(0, fz_r 20), (1, fz_i (L + 1))] [] h (qX5_readO_g k (L + 1) h)) (ihE : ∀ (h : fz_H) (hI : fz_Iv h), fz_R (D + 7) mX5_readE 0 [(0, fz_r 20), (1, fz_i (L + 1))] [] h (qX5_readE_g k (L + 1) h)) (h : fz_H) (hI : fz_Iv h) : fz_R (D + 12) mX5_readA 0 [(0, fz_r 20), (1, fz_i L)] [] h (qX5_readA_g (k + 1) L h) := by
  have hf : fz_fr [(20, 3), (20, 4), (21, 4), (22, 99999), (23, 99999)] h h := fz_fr_rf
  refine fz_aload_n kX5_readA rfl rfl ?_
  refine fz_iload_n kX5_readA rfl rfl ?_
  refine fz_callV (d' := (D + 11)) (M' := mX5_readB) (As := [fz_i L]) (st := []) kX5_readA rfl rfl vX5_readB rfl rfl rfl rfl (Nat.le_of_ble_eq_true rfl) (Nat.le_of_ble_eq_true rfl) (by omega) (sX5_readB_g k L D hL ihO ihE h hI  ) (fun H1 r2 q3 o4 => ?_)
  obtain ⟨hI5, hf6, rfl⟩ := q3
  clear o4
  have hf7 := fz_fr_tr hf hf6 (show fz_su [(20, 3), (20, 4), (21, 4), (22, 99999), (23, 99999)] [(20, 3), (20, 4), (21, 4), (22, 99999), (23, 99999)] = true from rfl)
  refine fz_iconst ⟨by decide, by decide⟩ kX5_readA rfl ?_
  refine fz_istore_n (ls' := [(2, fz_i 0), (0, fz_r 20), (1, fz_i L)]) kX5_readA rfl (by decide) rfl ?_
  have lp13 : ∀ (n12 : Nat) (x8 : Int) (H9 : fz_H), fz_Iv H9 → fz_fr [(20, 3), (20, 4), (21, 4), (22, 99999), (23, 99999)] h H9 → (0 ≤ x8 ∧ x8 ≤ 2147483647) → (120 - x8).toNat < n12 → fz_R (D + 12) mX5_readA 7 [(2, fz_i x8), (0, fz_r 20), (1, fz_i L)] [] H9 (qX5_readA_g (k + 1) L h) := by
    intro n12
    induction n12 with
    | zero => intro x8 H9 hI10 hf11 hv16 hm15; exact absurd hm15 (by omega)
    | succ n12 ih14 =>
      intro x8 H9 hI10 hf11 hv16 hm15
      refine fz_iload_n kX5_readA rfl rfl ?_
      refine fz_bipush ⟨by decide, by decide⟩ kX5_readA rfl ?_
      refine fz_icmp_ge (tgt := 44) kX5_readA rfl (by decide) (fun c17 => ?_) (fun c17 => ?_)
      · exact fz_vret kX5_readA rfl rfl ⟨hI10, hf11, rfl⟩
      · refine fz_aload_n kX5_readA rfl rfl ?_
        refine fz_bipush ⟨by decide, by decide⟩ kX5_readA rfl ?_
        refine fz_callV (d' := 1) (M' := mX5_goesOnWith) (As := [fz_i 38]) (st := []) kX5_readA rfl rfl vX5_goesOnWith rfl rfl rfl rfl (Nat.le_of_ble_eq_true rfl) (Nat.le_of_ble_eq_true rfl) (by omega) (sX5_goesOnWith H9 hI10 38 (by omega)) (fun H18 r19 q20 o21 => ?_)
        obtain ⟨hI22, hf23, y24, rfl, p25⟩ := q20
        clear o21
        have hf26 := fz_fr_tr hf11 hf23 (show fz_su [(20, 3)] [(20, 3), (20, 4), (21, 4), (22, 99999), (23, 99999)] = true from rfl)
        refine fz_if_eq (tgt := 44) kX5_readA rfl (by decide) (fun c27 => ?_) (fun c27 => ?_)
        · exact fz_vret kX5_readA rfl rfl ⟨hI22, hf26, rfl⟩
        · refine fz_aload_n kX5_readA rfl rfl ?_
          refine fz_iload_n kX5_readA rfl rfl ?_
          refine fz_callV (d' := (D + 11)) (M' := mX5_readB) (As := [fz_i L]) (st := []) kX5_readA rfl rfl vX5_readB rfl rfl rfl rfl (Nat.le_of_ble_eq_true rfl) (Nat.le_of_ble_eq_true rfl) (by omega) (sX5_readB_g k L D hL ihO ihE H18 hI22  ) (fun H28 r29 q30 o31 => ?_)
          obtain ⟨hI32, hf33, rfl⟩ := q30
          clear o31
          have hf34 := fz_fr_tr hf26 hf33 (show fz_su [(20, 3), (20, 4), (21, 4), (22, 99999), (23, 99999)] [(20, 3), (20, 4), (21, 4), (22, 99999), (23, 99999)] = true from rfl)
          refine fz_aload_n kX5_readA rfl rfl ?_
          refine fz_getR (t := 21) kX5_readA rfl rfl ?_
          refine fz_bipush ⟨by decide, by decide⟩ kX5_readA rfl ?_
          refine fz_iconst ⟨by decide, by decide⟩ kX5_readA rfl ?_
          refine fz_callV (d' := 0) (M' := mX3_add) (As := [fz_i 38, fz_i 0]) (st := []) kX5_readA rfl rfl vX3_add rfl rfl rfl rfl (Nat.le_of_ble_eq_true rfl) (Nat.le_of_ble_eq_true rfl) (by omega) (sX3_add H28 hI32 38 0 ) (fun H35 r36 q37 o38 => ?_)
          obtain ⟨hI39, hf40, y42, rfl, f41⟩ := q37
          clear o38
          have hf43 := fz_fr_tr hf34 hf40 (show fz_su [(21, 4), (22, 99999), (23, 99999)] [(20, 3), (20, 4), (21, 4), (22, 99999), (23, 99999)] = true from rfl)
          refine fz_pop rfl kX5_readA rfl ?_
          refine fz_iincN (ls' := [(2, fz_i (x8 + 1)), (0, fz_r 20), (1, fz_i L)]) kX5_readA rfl (by decide) rfl (by omega) rfl ?_
          refine fz_goto (tgt := 7) kX5_readA rfl (by decide) ?_
          exact ih14 (x8 + 1) H35 hI39 hf43 (by omega) (by omega)
  exact lp13 _ 0 H1 hI5 hf7 (by omega) (Nat.lt_succ_self _)

set_option maxHeartbeats 1000000 in
set_option maxRecDepth 100000 in
theorem sX5_readE_g (k : Nat) (L : Int) (D : Nat) (hL : 0 ≤ L ∧ L ≤ 5) (ihO : ∀ (h : fz_H) (hI : fz_Iv h), fz_R (D + 2) mX5_readO 0 [(0, fz_r 20), (1, fz_i (L + 1))] [] h (qX5_readO_g k (L + 1) h)) (ihE : ∀ (h : fz_H) (hI : fz_Iv h), fz_R (D + 7) mX5_readE 0 [(0, fz_r 20), (1, fz_i (L + 1))] [] h (qX5_readE_g k (L + 1) h)) (h : fz_H) (hI : fz_Iv h) : fz_R (D + 13) mX5_readE 0 [(0, fz_r 20), (1, fz_i L)] [] h (qX5_readE_g (k + 1) L h) := by
  have hf : fz_fr [(20, 3), (20, 4), (21, 4), (22, 99999), (23, 99999)] h h := fz_fr_rf
  refine fz_aload_n kX5_readE rfl rfl ?_
  refine fz_iload_n kX5_readE rfl rfl ?_
  refine fz_callV (d' := (D + 12)) (M' := mX5_readA) (As := [fz_i L]) (st := []) kX5_readE rfl rfl vX5_readA rfl rfl rfl rfl (Nat.le_of_ble_eq_true rfl) (Nat.le_of_ble_eq_true rfl) (by omega) (sX5_readA_g k L D hL ihO ihE h hI  ) (fun H1 r2 q3 o4 => ?_)
  obtain ⟨hI5, hf6, rfl⟩ := q3
  clear o4
  have hf7 := fz_fr_tr hf hf6 (show fz_su [(20, 3), (20, 4), (21, 4), (22, 99999), (23, 99999)] [(20, 3), (20, 4), (21, 4), (22, 99999), (23, 99999)] = true from rfl)
  refine fz_iconst ⟨by decide, by decide⟩ kX5_readE rfl ?_
  refine fz_istore_n (ls' := [(2, fz_i 0), (0, fz_r 20), (1, fz_i L)]) kX5_readE rfl (by decide) rfl ?_
  have lp13 : ∀ (n12 : Nat) (x8 : Int) (H9 : fz_H), fz_Iv H9 → fz_fr [(20, 3), (20, 4), (21, 4), (22, 99999), (23, 99999)] h H9 → (0 ≤ x8 ∧ x8 ≤ 2147483647) → (120 - x8).toNat < n12 → fz_R (D + 13) mX5_readE 7 [(2, fz_i x8), (0, fz_r 20), (1, fz_i L)] [] H9 (qX5_readE_g (k + 1) L h) := by
    intro n12
    induction n12 with
    | zero => intro x8 H9 hI10 hf11 hv16 hm15; exact absurd hm15 (by omega)
    | succ n12 ih14 =>
      intro x8 H9 hI10 hf11 hv16 hm15
      refine fz_iload_n kX5_readE rfl rfl ?_
      refine fz_bipush ⟨by decide, by decide⟩ kX5_readE rfl ?_
      refine fz_icmp_ge (tgt := 44) kX5_readE rfl (by decide) (fun c17 => ?_) (fun c17 => ?_)
      · exact fz_vret kX5_readE rfl rfl ⟨hI10, hf11, rfl⟩
      · refine fz_aload_n kX5_readE rfl rfl ?_
        refine fz_bipush ⟨by decide, by decide⟩ kX5_readE rfl ?_
        refine fz_callV (d' := 1) (M' := mX5_goesOnWith) (As := [fz_i 124]) (st := []) kX5_readE rfl rfl vX5_goesOnWith rfl rfl rfl rfl (Nat.le_of_ble_eq_true rfl) (Nat.le_of_ble_eq_true rfl) (by omega) (sX5_goesOnWith H9 hI10 124 (by omega)) (fun H18 r19 q20 o21 => ?_)
        obtain ⟨hI22, hf23, y24, rfl, p25⟩ := q20
        clear o21
        have hf26 := fz_fr_tr hf11 hf23 (show fz_su [(20, 3)] [(20, 3), (20, 4), (21, 4), (22, 99999), (23, 99999)] = true from rfl)
        refine fz_if_eq (tgt := 44) kX5_readE rfl (by decide) (fun c27 => ?_) (fun c27 => ?_)
        · exact fz_vret kX5_readE rfl rfl ⟨hI22, hf26, rfl⟩
        · refine fz_aload_n kX5_readE rfl rfl ?_
          refine fz_iload_n kX5_readE rfl rfl ?_
          refine fz_callV (d' := (D + 12)) (M' := mX5_readA) (As := [fz_i L]) (st := []) kX5_readE rfl rfl vX5_readA rfl rfl rfl rfl (Nat.le_of_ble_eq_true rfl) (Nat.le_of_ble_eq_true rfl) (by omega) (sX5_readA_g k L D hL ihO ihE H18 hI22  ) (fun H28 r29 q30 o31 => ?_)
          obtain ⟨hI32, hf33, rfl⟩ := q30
          clear o31
          have hf34 := fz_fr_tr hf26 hf33 (show fz_su [(20, 3), (20, 4), (21, 4), (22, 99999), (23, 99999)] [(20, 3), (20, 4), (21, 4), (22, 99999), (23, 99999)] = true from rfl)
          refine fz_aload_n kX5_readE rfl rfl ?_
          refine fz_getR (t := 21) kX5_readE rfl rfl ?_
          refine fz_bipush ⟨by decide, by decide⟩ kX5_readE rfl ?_
          refine fz_iconst ⟨by decide, by decide⟩ kX5_readE rfl ?_
          refine fz_callV (d' := 0) (M' := mX3_add) (As := [fz_i 124, fz_i 0]) (st := []) kX5_readE rfl rfl vX3_add rfl rfl rfl rfl (Nat.le_of_ble_eq_true rfl) (Nat.le_of_ble_eq_true rfl) (by omega) (sX3_add H28 hI32 124 0 ) (fun H35 r36 q37 o38 => ?_)
          obtain ⟨hI39, hf40, y42, rfl, f41⟩ := q37
          clear o38
          have hf43 := fz_fr_tr hf34 hf40 (show fz_su [(21, 4), (22, 99999), (23, 99999)] [(20, 3), (20, 4), (21, 4), (22, 99999), (23, 99999)] = true from rfl)
          refine fz_pop rfl kX5_readE rfl ?_
          refine fz_iincN (ls' := [(2, fz_i (x8 + 1)), (0, fz_r 20), (1, fz_i L)]) kX5_readE rfl (by decide) rfl (by omega) rfl ?_
          refine fz_goto (tgt := 7) kX5_readE rfl (by decide) ?_
          exact ih14 (x8 + 1) H35 hI39 hf43 (by omega) (by omega)
  exact lp13 _ 0 H1 hI5 hf7 (by omega) (Nat.lt_succ_self _)

abbrev qX5_readO_5 (h : fz_H) : fz_H → Option fz_V → Prop := fun h' r0 => fz_Iv h' ∧ fz_fr [(20, 3), (20, 4), (21, 4), (22, 99999), (23, 99999)] h h' ∧ r0 = none
theorem sX5_readO_5 (h : fz_H) (hI : fz_Iv h) : fz_R 8 mX5_readO 0 [(0, fz_r 20), (1, fz_i 5)] [] h (qX5_readO_5 h) := sX5_readO_g 0 5 0 ⟨by decide, by decide⟩ (fun h hI => sX5_readO_6 h hI) (fun h hI => sX5_readE_6 h hI) h hI
abbrev qX5_readP_5 (h : fz_H) : fz_H → Option fz_V → Prop := fun h' r0 => fz_Iv h' ∧ fz_fr [(20, 3), (20, 4), (21, 4), (22, 99999), (23, 99999)] h h' ∧ r0 = none
theorem sX5_readP_5 (h : fz_H) (hI : fz_Iv h) : fz_R 9 mX5_readP 0 [(0, fz_r 20), (1, fz_i 5)] [] h (qX5_readP_5 h) := sX5_readP_g 0 5 0 ⟨by decide, by decide⟩ (fun h hI => sX5_readO_6 h hI) (fun h hI => sX5_readE_6 h hI) h hI
abbrev qX5_readS_5 (h : fz_H) : fz_H → Option fz_V → Prop := fun h' r0 => fz_Iv h' ∧ fz_fr [(20, 3), (20, 4), (21, 4), (22, 99999), (23, 99999)] h h' ∧ r0 = none
theorem sX5_readS_5 (h : fz_H) (hI : fz_Iv h) : fz_R 10 mX5_readS 0 [(0, fz_r 20), (1, fz_i 5)] [] h (qX5_readS_5 h) := sX5_readS_g 0 5 0 ⟨by decide, by decide⟩ (fun h hI => sX5_readO_6 h hI) (fun h hI => sX5_readE_6 h hI) h hI
abbrev qX5_readB_5 (h : fz_H) : fz_H → Option fz_V → Prop := fun h' r0 => fz_Iv h' ∧ fz_fr [(20, 3), (20, 4), (21, 4), (22, 99999), (23, 99999)] h h' ∧ r0 = none
theorem sX5_readB_5 (h : fz_H) (hI : fz_Iv h) : fz_R 11 mX5_readB 0 [(0, fz_r 20), (1, fz_i 5)] [] h (qX5_readB_5 h) := sX5_readB_g 0 5 0 ⟨by decide, by decide⟩ (fun h hI => sX5_readO_6 h hI) (fun h hI => sX5_readE_6 h hI) h hI
abbrev qX5_readA_5 (h : fz_H) : fz_H → Option fz_V → Prop := fun h' r0 => fz_Iv h' ∧ fz_fr [(20, 3), (20, 4), (21, 4), (22, 99999), (23, 99999)] h h' ∧ r0 = none
theorem sX5_readA_5 (h : fz_H) (hI : fz_Iv h) : fz_R 12 mX5_readA 0 [(0, fz_r 20), (1, fz_i 5)] [] h (qX5_readA_5 h) := sX5_readA_g 0 5 0 ⟨by decide, by decide⟩ (fun h hI => sX5_readO_6 h hI) (fun h hI => sX5_readE_6 h hI) h hI
abbrev qX5_readE_5 (h : fz_H) : fz_H → Option fz_V → Prop := fun h' r0 => fz_Iv h' ∧ fz_fr [(20, 3), (20, 4), (21, 4), (22, 99999), (23, 99999)] h h' ∧ r0 = none
theorem sX5_readE_5 (h : fz_H) (hI : fz_Iv h) : fz_R 13 mX5_readE 0 [(0, fz_r 20), (1, fz_i 5)] [] h (qX5_readE_5 h) := sX5_readE_g 0 5 0 ⟨by decide, by decide⟩ (fun h hI => sX5_readO_6 h hI) (fun h hI => sX5_readE_6 h hI) h hI
abbrev qX5_readO_4 (h : fz_H) : fz_H → Option fz_V → Prop := fun h' r0 => fz_Iv h' ∧ fz_fr [(20, 3), (20, 4), (21, 4), (22, 99999), (23, 99999)] h h' ∧ r0 = none
theorem sX5_readO_4 (h : fz_H) (hI : fz_Iv h) : fz_R 14 mX5_readO 0 [(0, fz_r 20), (1, fz_i 4)] [] h (qX5_readO_4 h) := sX5_readO_g 1 4 6 ⟨by decide, by decide⟩ (fun h hI => sX5_readO_5 h hI) (fun h hI => sX5_readE_5 h hI) h hI
abbrev qX5_readP_4 (h : fz_H) : fz_H → Option fz_V → Prop := fun h' r0 => fz_Iv h' ∧ fz_fr [(20, 3), (20, 4), (21, 4), (22, 99999), (23, 99999)] h h' ∧ r0 = none
theorem sX5_readP_4 (h : fz_H) (hI : fz_Iv h) : fz_R 15 mX5_readP 0 [(0, fz_r 20), (1, fz_i 4)] [] h (qX5_readP_4 h) := sX5_readP_g 1 4 6 ⟨by decide, by decide⟩ (fun h hI => sX5_readO_5 h hI) (fun h hI => sX5_readE_5 h hI) h hI
abbrev qX5_readS_4 (h : fz_H) : fz_H → Option fz_V → Prop := fun h' r0 => fz_Iv h' ∧ fz_fr [(20, 3), (20, 4), (21, 4), (22, 99999), (23, 99999)] h h' ∧ r0 = none
theorem sX5_readS_4 (h : fz_H) (hI : fz_Iv h) : fz_R 16 mX5_readS 0 [(0, fz_r 20), (1, fz_i 4)] [] h (qX5_readS_4 h) := sX5_readS_g 1 4 6 ⟨by decide, by decide⟩ (fun h hI => sX5_readO_5 h hI) (fun h hI => sX5_readE_5 h hI) h hI
abbrev qX5_readB_4 (h : fz_H) : fz_H → Option fz_V → Prop := fun h' r0 => fz_Iv h' ∧ fz_fr [(20, 3), (20, 4), (21, 4), (22, 99999), (23, 99999)] h h' ∧ r0 = none
theorem sX5_readB_4 (h : fz_H) (hI : fz_Iv h) : fz_R 17 mX5_readB 0 [(0, fz_r 20), (1, fz_i 4)] [] h (qX5_readB_4 h) := sX5_readB_g 1 4 6 ⟨by decide, by decide⟩ (fun h hI => sX5_readO_5 h hI) (fun h hI => sX5_readE_5 h hI) h hI
abbrev qX5_readA_4 (h : fz_H) : fz_H → Option fz_V → Prop := fun h' r0 => fz_Iv h' ∧ fz_fr [(20, 3), (20, 4), (21, 4), (22, 99999), (23, 99999)] h h' ∧ r0 = none
theorem sX5_readA_4 (h : fz_H) (hI : fz_Iv h) : fz_R 18 mX5_readA 0 [(0, fz_r 20), (1, fz_i 4)] [] h (qX5_readA_4 h) := sX5_readA_g 1 4 6 ⟨by decide, by decide⟩ (fun h hI => sX5_readO_5 h hI) (fun h hI => sX5_readE_5 h hI) h hI
abbrev qX5_readE_4 (h : fz_H) : fz_H → Option fz_V → Prop := fun h' r0 => fz_Iv h' ∧ fz_fr [(20, 3), (20, 4), (21, 4), (22, 99999), (23, 99999)] h h' ∧ r0 = none
theorem sX5_readE_4 (h : fz_H) (hI : fz_Iv h) : fz_R 19 mX5_readE 0 [(0, fz_r 20), (1, fz_i 4)] [] h (qX5_readE_4 h) := sX5_readE_g 1 4 6 ⟨by decide, by decide⟩ (fun h hI => sX5_readO_5 h hI) (fun h hI => sX5_readE_5 h hI) h hI
abbrev qX5_readO_3 (h : fz_H) : fz_H → Option fz_V → Prop := fun h' r0 => fz_Iv h' ∧ fz_fr [(20, 3), (20, 4), (21, 4), (22, 99999), (23, 99999)] h h' ∧ r0 = none
theorem sX5_readO_3 (h : fz_H) (hI : fz_Iv h) : fz_R 20 mX5_readO 0 [(0, fz_r 20), (1, fz_i 3)] [] h (qX5_readO_3 h) := sX5_readO_g 2 3 12 ⟨by decide, by decide⟩ (fun h hI => sX5_readO_4 h hI) (fun h hI => sX5_readE_4 h hI) h hI
abbrev qX5_readP_3 (h : fz_H) : fz_H → Option fz_V → Prop := fun h' r0 => fz_Iv h' ∧ fz_fr [(20, 3), (20, 4), (21, 4), (22, 99999), (23, 99999)] h h' ∧ r0 = none
theorem sX5_readP_3 (h : fz_H) (hI : fz_Iv h) : fz_R 21 mX5_readP 0 [(0, fz_r 20), (1, fz_i 3)] [] h (qX5_readP_3 h) := sX5_readP_g 2 3 12 ⟨by decide, by decide⟩ (fun h hI => sX5_readO_4 h hI) (fun h hI => sX5_readE_4 h hI) h hI
abbrev qX5_readS_3 (h : fz_H) : fz_H → Option fz_V → Prop := fun h' r0 => fz_Iv h' ∧ fz_fr [(20, 3), (20, 4), (21, 4), (22, 99999), (23, 99999)] h h' ∧ r0 = none
theorem sX5_readS_3 (h : fz_H) (hI : fz_Iv h) : fz_R 22 mX5_readS 0 [(0, fz_r 20), (1, fz_i 3)] [] h (qX5_readS_3 h) := sX5_readS_g 2 3 12 ⟨by decide, by decide⟩ (fun h hI => sX5_readO_4 h hI) (fun h hI => sX5_readE_4 h hI) h hI
abbrev qX5_readB_3 (h : fz_H) : fz_H → Option fz_V → Prop := fun h' r0 => fz_Iv h' ∧ fz_fr [(20, 3), (20, 4), (21, 4), (22, 99999), (23, 99999)] h h' ∧ r0 = none
theorem sX5_readB_3 (h : fz_H) (hI : fz_Iv h) : fz_R 23 mX5_readB 0 [(0, fz_r 20), (1, fz_i 3)] [] h (qX5_readB_3 h) := sX5_readB_g 2 3 12 ⟨by decide, by decide⟩ (fun h hI => sX5_readO_4 h hI) (fun h hI => sX5_readE_4 h hI) h hI
abbrev qX5_readA_3 (h : fz_H) : fz_H → Option fz_V → Prop := fun h' r0 => fz_Iv h' ∧ fz_fr [(20, 3), (20, 4), (21, 4), (22, 99999), (23, 99999)] h h' ∧ r0 = none
theorem sX5_readA_3 (h : fz_H) (hI : fz_Iv h) : fz_R 24 mX5_readA 0 [(0, fz_r 20), (1, fz_i 3)] [] h (qX5_readA_3 h) := sX5_readA_g 2 3 12 ⟨by decide, by decide⟩ (fun h hI => sX5_readO_4 h hI) (fun h hI => sX5_readE_4 h hI) h hI
abbrev qX5_readE_3 (h : fz_H) : fz_H → Option fz_V → Prop := fun h' r0 => fz_Iv h' ∧ fz_fr [(20, 3), (20, 4), (21, 4), (22, 99999), (23, 99999)] h h' ∧ r0 = none
theorem sX5_readE_3 (h : fz_H) (hI : fz_Iv h) : fz_R 25 mX5_readE 0 [(0, fz_r 20), (1, fz_i 3)] [] h (qX5_readE_3 h) := sX5_readE_g 2 3 12 ⟨by decide, by decide⟩ (fun h hI => sX5_readO_4 h hI) (fun h hI => sX5_readE_4 h hI) h hI
abbrev qX5_readO_2 (h : fz_H) : fz_H → Option fz_V → Prop := fun h' r0 => fz_Iv h' ∧ fz_fr [(20, 3), (20, 4), (21, 4), (22, 99999), (23, 99999)] h h' ∧ r0 = none
theorem sX5_readO_2 (h : fz_H) (hI : fz_Iv h) : fz_R 26 mX5_readO 0 [(0, fz_r 20), (1, fz_i 2)] [] h (qX5_readO_2 h) := sX5_readO_g 3 2 18 ⟨by decide, by decide⟩ (fun h hI => sX5_readO_3 h hI) (fun h hI => sX5_readE_3 h hI) h hI
abbrev qX5_readP_2 (h : fz_H) : fz_H → Option fz_V → Prop := fun h' r0 => fz_Iv h' ∧ fz_fr [(20, 3), (20, 4), (21, 4), (22, 99999), (23, 99999)] h h' ∧ r0 = none
theorem sX5_readP_2 (h : fz_H) (hI : fz_Iv h) : fz_R 27 mX5_readP 0 [(0, fz_r 20), (1, fz_i 2)] [] h (qX5_readP_2 h) := sX5_readP_g 3 2 18 ⟨by decide, by decide⟩ (fun h hI => sX5_readO_3 h hI) (fun h hI => sX5_readE_3 h hI) h hI
abbrev qX5_readS_2 (h : fz_H) : fz_H → Option fz_V → Prop := fun h' r0 => fz_Iv h' ∧ fz_fr [(20, 3), (20, 4), (21, 4), (22, 99999), (23, 99999)] h h' ∧ r0 = none
theorem sX5_readS_2 (h : fz_H) (hI : fz_Iv h) : fz_R 28 mX5_readS 0 [(0, fz_r 20), (1, fz_i 2)] [] h (qX5_readS_2 h) := sX5_readS_g 3 2 18 ⟨by decide, by decide⟩ (fun h hI => sX5_readO_3 h hI) (fun h hI => sX5_readE_3 h hI) h hI
abbrev qX5_readB_2 (h : fz_H) : fz_H → Option fz_V → Prop := fun h' r0 => fz_Iv h' ∧ fz_fr [(20, 3), (20, 4), (21, 4), (22, 99999), (23, 99999)] h h' ∧ r0 = none
theorem sX5_readB_2 (h : fz_H) (hI : fz_Iv h) : fz_R 29 mX5_readB 0 [(0, fz_r 20), (1, fz_i 2)] [] h (qX5_readB_2 h) := sX5_readB_g 3 2 18 ⟨by decide, by decide⟩ (fun h hI => sX5_readO_3 h hI) (fun h hI => sX5_readE_3 h hI) h hI
abbrev qX5_readA_2 (h : fz_H) : fz_H → Option fz_V → Prop := fun h' r0 => fz_Iv h' ∧ fz_fr [(20, 3), (20, 4), (21, 4), (22, 99999), (23, 99999)] h h' ∧ r0 = none
theorem sX5_readA_2 (h : fz_H) (hI : fz_Iv h) : fz_R 30 mX5_readA 0 [(0, fz_r 20), (1, fz_i 2)] [] h (qX5_readA_2 h) := sX5_readA_g 3 2 18 ⟨by decide, by decide⟩ (fun h hI => sX5_readO_3 h hI) (fun h hI => sX5_readE_3 h hI) h hI
abbrev qX5_readE_2 (h : fz_H) : fz_H → Option fz_V → Prop := fun h' r0 => fz_Iv h' ∧ fz_fr [(20, 3), (20, 4), (21, 4), (22, 99999), (23, 99999)] h h' ∧ r0 = none
theorem sX5_readE_2 (h : fz_H) (hI : fz_Iv h) : fz_R 31 mX5_readE 0 [(0, fz_r 20), (1, fz_i 2)] [] h (qX5_readE_2 h) := sX5_readE_g 3 2 18 ⟨by decide, by decide⟩ (fun h hI => sX5_readO_3 h hI) (fun h hI => sX5_readE_3 h hI) h hI
abbrev qX5_readO_1 (h : fz_H) : fz_H → Option fz_V → Prop := fun h' r0 => fz_Iv h' ∧ fz_fr [(20, 3), (20, 4), (21, 4), (22, 99999), (23, 99999)] h h' ∧ r0 = none
theorem sX5_readO_1 (h : fz_H) (hI : fz_Iv h) : fz_R 32 mX5_readO 0 [(0, fz_r 20), (1, fz_i 1)] [] h (qX5_readO_1 h) := sX5_readO_g 4 1 24 ⟨by decide, by decide⟩ (fun h hI => sX5_readO_2 h hI) (fun h hI => sX5_readE_2 h hI) h hI
abbrev qX5_readP_1 (h : fz_H) : fz_H → Option fz_V → Prop := fun h' r0 => fz_Iv h' ∧ fz_fr [(20, 3), (20, 4), (21, 4), (22, 99999), (23, 99999)] h h' ∧ r0 = none
theorem sX5_readP_1 (h : fz_H) (hI : fz_Iv h) : fz_R 33 mX5_readP 0 [(0, fz_r 20), (1, fz_i 1)] [] h (qX5_readP_1 h) := sX5_readP_g 4 1 24 ⟨by decide, by decide⟩ (fun h hI => sX5_readO_2 h hI) (fun h hI => sX5_readE_2 h hI) h hI
abbrev qX5_readS_1 (h : fz_H) : fz_H → Option fz_V → Prop := fun h' r0 => fz_Iv h' ∧ fz_fr [(20, 3), (20, 4), (21, 4), (22, 99999), (23, 99999)] h h' ∧ r0 = none
theorem sX5_readS_1 (h : fz_H) (hI : fz_Iv h) : fz_R 34 mX5_readS 0 [(0, fz_r 20), (1, fz_i 1)] [] h (qX5_readS_1 h) := sX5_readS_g 4 1 24 ⟨by decide, by decide⟩ (fun h hI => sX5_readO_2 h hI) (fun h hI => sX5_readE_2 h hI) h hI
abbrev qX5_readB_1 (h : fz_H) : fz_H → Option fz_V → Prop := fun h' r0 => fz_Iv h' ∧ fz_fr [(20, 3), (20, 4), (21, 4), (22, 99999), (23, 99999)] h h' ∧ r0 = none
theorem sX5_readB_1 (h : fz_H) (hI : fz_Iv h) : fz_R 35 mX5_readB 0 [(0, fz_r 20), (1, fz_i 1)] [] h (qX5_readB_1 h) := sX5_readB_g 4 1 24 ⟨by decide, by decide⟩ (fun h hI => sX5_readO_2 h hI) (fun h hI => sX5_readE_2 h hI) h hI
abbrev qX5_readA_1 (h : fz_H) : fz_H → Option fz_V → Prop := fun h' r0 => fz_Iv h' ∧ fz_fr [(20, 3), (20, 4), (21, 4), (22, 99999), (23, 99999)] h h' ∧ r0 = none
theorem sX5_readA_1 (h : fz_H) (hI : fz_Iv h) : fz_R 36 mX5_readA 0 [(0, fz_r 20), (1, fz_i 1)] [] h (qX5_readA_1 h) := sX5_readA_g 4 1 24 ⟨by decide, by decide⟩ (fun h hI => sX5_readO_2 h hI) (fun h hI => sX5_readE_2 h hI) h hI
abbrev qX5_readE_1 (h : fz_H) : fz_H → Option fz_V → Prop := fun h' r0 => fz_Iv h' ∧ fz_fr [(20, 3), (20, 4), (21, 4), (22, 99999), (23, 99999)] h h' ∧ r0 = none
theorem sX5_readE_1 (h : fz_H) (hI : fz_Iv h) : fz_R 37 mX5_readE 0 [(0, fz_r 20), (1, fz_i 1)] [] h (qX5_readE_1 h) := sX5_readE_g 4 1 24 ⟨by decide, by decide⟩ (fun h hI => sX5_readO_2 h hI) (fun h hI => sX5_readE_2 h hI) h hI
abbrev qX5_readO_0 (h : fz_H) : fz_H → Option fz_V → Prop := fun h' r0 => fz_Iv h' ∧ fz_fr [(20, 3), (20, 4), (21, 4), (22, 99999), (23, 99999)] h h' ∧ r0 = none
theorem sX5_readO_0 (h : fz_H) (hI : fz_Iv h) : fz_R 38 mX5_readO 0 [(0, fz_r 20), (1, fz_i 0)] [] h (qX5_readO_0 h) := sX5_readO_g 5 0 30 ⟨by decide, by decide⟩ (fun h hI => sX5_readO_1 h hI) (fun h hI => sX5_readE_1 h hI) h hI
abbrev qX5_readP_0 (h : fz_H) : fz_H → Option fz_V → Prop := fun h' r0 => fz_Iv h' ∧ fz_fr [(20, 3), (20, 4), (21, 4), (22, 99999), (23, 99999)] h h' ∧ r0 = none
theorem sX5_readP_0 (h : fz_H) (hI : fz_Iv h) : fz_R 39 mX5_readP 0 [(0, fz_r 20), (1, fz_i 0)] [] h (qX5_readP_0 h) := sX5_readP_g 5 0 30 ⟨by decide, by decide⟩ (fun h hI => sX5_readO_1 h hI) (fun h hI => sX5_readE_1 h hI) h hI
abbrev qX5_readS_0 (h : fz_H) : fz_H → Option fz_V → Prop := fun h' r0 => fz_Iv h' ∧ fz_fr [(20, 3), (20, 4), (21, 4), (22, 99999), (23, 99999)] h h' ∧ r0 = none
theorem sX5_readS_0 (h : fz_H) (hI : fz_Iv h) : fz_R 40 mX5_readS 0 [(0, fz_r 20), (1, fz_i 0)] [] h (qX5_readS_0 h) := sX5_readS_g 5 0 30 ⟨by decide, by decide⟩ (fun h hI => sX5_readO_1 h hI) (fun h hI => sX5_readE_1 h hI) h hI
abbrev qX5_readB_0 (h : fz_H) : fz_H → Option fz_V → Prop := fun h' r0 => fz_Iv h' ∧ fz_fr [(20, 3), (20, 4), (21, 4), (22, 99999), (23, 99999)] h h' ∧ r0 = none
theorem sX5_readB_0 (h : fz_H) (hI : fz_Iv h) : fz_R 41 mX5_readB 0 [(0, fz_r 20), (1, fz_i 0)] [] h (qX5_readB_0 h) := sX5_readB_g 5 0 30 ⟨by decide, by decide⟩ (fun h hI => sX5_readO_1 h hI) (fun h hI => sX5_readE_1 h hI) h hI
abbrev qX5_readA_0 (h : fz_H) : fz_H → Option fz_V → Prop := fun h' r0 => fz_Iv h' ∧ fz_fr [(20, 3), (20, 4), (21, 4), (22, 99999), (23, 99999)] h h' ∧ r0 = none
theorem sX5_readA_0 (h : fz_H) (hI : fz_Iv h) : fz_R 42 mX5_readA 0 [(0, fz_r 20), (1, fz_i 0)] [] h (qX5_readA_0 h) := sX5_readA_g 5 0 30 ⟨by decide, by decide⟩ (fun h hI => sX5_readO_1 h hI) (fun h hI => sX5_readE_1 h hI) h hI
abbrev qX5_readE_0 (h : fz_H) : fz_H → Option fz_V → Prop := fun h' r0 => fz_Iv h' ∧ fz_fr [(20, 3), (20, 4), (21, 4), (22, 99999), (23, 99999)] h h' ∧ r0 = none
theorem sX5_readE_0 (h : fz_H) (hI : fz_Iv h) : fz_R 43 mX5_readE 0 [(0, fz_r 20), (1, fz_i 0)] [] h (qX5_readE_0 h) := sX5_readE_g 5 0 30 ⟨by decide, by decide⟩ (fun h hI => sX5_readO_1 h hI) (fun h hI => sX5_readE_1 h hI) h hI
abbrev qX5_readLine (h : fz_H) : fz_H → Option fz_V → Prop := fun h' r0 => fz_Iv h' ∧ fz_fr [(20, 3), (20, 4), (21, 4), (22, 99999), (23, 99999)] h h' ∧ r0 = none
set_option maxHeartbeats 1000000 in
set_option maxRecDepth 100000 in
theorem sX5_readLine (h : fz_H) (hI : fz_Iv h) : fz_R 44 mX5_readLine 0 [(0, fz_r 20)] [] h (qX5_readLine h) := by
  have hf : fz_fr [(20, 3), (20, 4), (21, 4), (22, 99999), (23, 99999)] h h := fz_fr_rf
  refine fz_aload_n kX5_readLine rfl rfl ?_
  refine fz_iconst ⟨by decide, by decide⟩ kX5_readLine rfl ?_
  refine fz_callV (d' := 43) (M' := mX5_readE) (As := [fz_i 0]) (st := []) kX5_readLine rfl rfl vX5_readE rfl rfl rfl rfl (Nat.le_of_ble_eq_true rfl) (Nat.le_of_ble_eq_true rfl) (by decide) (sX5_readE_0 h hI  ) (fun H1 r2 q3 o4 => ?_)
  obtain ⟨hI5, hf6, rfl⟩ := q3
  clear o4
  have hf7 := fz_fr_tr hf hf6 (show fz_su [(20, 3), (20, 4), (21, 4), (22, 99999), (23, 99999)] [(20, 3), (20, 4), (21, 4), (22, 99999), (23, 99999)] = true from rfl)
  refine fz_iconst ⟨by decide, by decide⟩ kX5_readLine rfl ?_
  refine fz_istore_n (ls' := [(1, fz_i (-1)), (0, fz_r 20)]) kX5_readLine rfl (by decide) rfl ?_
  refine fz_aload_n kX5_readLine rfl rfl ?_
  refine fz_bipush ⟨by decide, by decide⟩ kX5_readLine rfl ?_
  refine fz_callV (d' := 1) (M' := mX5_goesOnWith) (As := [fz_i 63]) (st := []) kX5_readLine rfl rfl vX5_goesOnWith rfl rfl rfl rfl (Nat.le_of_ble_eq_true rfl) (Nat.le_of_ble_eq_true rfl) (by decide) (sX5_goesOnWith H1 hI5 63 (by omega)) (fun H8 r9 q10 o11 => ?_)
  obtain ⟨hI12, hf13, y14, rfl, p15⟩ := q10
  clear o11
  have hf16 := fz_fr_tr hf7 hf13 (show fz_su [(20, 3)] [(20, 3), (20, 4), (21, 4), (22, 99999), (23, 99999)] = true from rfl)
  refine fz_if_eq (tgt := 32) kX5_readLine rfl (by decide) (fun c17 => ?_) (fun c17 => ?_)
  · refine fz_aload_n kX5_readLine rfl rfl ?_
    refine fz_getR (t := 21) kX5_readLine rfl rfl ?_
    refine fz_bipush ⟨by decide, by decide⟩ kX5_readLine rfl ?_
    refine fz_iconst ⟨by decide, by decide⟩ kX5_readLine rfl ?_
    refine fz_callV (d' := 0) (M' := mX3_add) (As := [fz_i 59, fz_i 0]) (st := []) kX5_readLine rfl rfl vX3_add rfl rfl rfl rfl (Nat.le_of_ble_eq_true rfl) (Nat.le_of_ble_eq_true rfl) (by decide) (sX3_add H8 hI12 59 0 ) (fun H18 r19 q20 o21 => ?_)
    obtain ⟨hI22, hf23, y25, rfl, f24⟩ := q20
    clear o21
    have hf26 := fz_fr_tr hf16 hf23 (show fz_su [(21, 4), (22, 99999), (23, 99999)] [(20, 3), (20, 4), (21, 4), (22, 99999), (23, 99999)] = true from rfl)
    refine fz_pop rfl kX5_readLine rfl ?_
    refine fz_aload_n kX5_readLine rfl rfl ?_
    refine fz_getR (t := 21) kX5_readLine rfl rfl ?_
    refine fz_iload_n kX5_readLine rfl rfl ?_
    refine fz_callV (d' := 0) (M' := mX3_leadHere) (As := [fz_i (-1)]) (st := []) kX5_readLine rfl rfl vX3_leadHere rfl rfl rfl rfl (Nat.le_of_ble_eq_true rfl) (Nat.le_of_ble_eq_true rfl) (by decide) (sX3_leadHere H18 hI22 (-1) ) (fun H27 r28 q29 o30 => ?_)
    obtain ⟨hI31, hf32, rfl⟩ := q29
    clear o30
    have hf33 := fz_fr_tr hf26 hf32 (show fz_su [(23, 99999)] [(20, 3), (20, 4), (21, 4), (22, 99999), (23, 99999)] = true from rfl)
    exact fz_vret kX5_readLine rfl rfl ⟨hI31, hf33, rfl⟩
  · refine fz_aload_n kX5_readLine rfl rfl ?_
    refine fz_getR (t := 21) kX5_readLine rfl rfl ?_
    refine fz_bipush ⟨by decide, by decide⟩ kX5_readLine rfl ?_
    refine fz_iconst ⟨by decide, by decide⟩ kX5_readLine rfl ?_
    refine fz_callV (d' := 0) (M' := mX3_add) (As := [fz_i 63, fz_i 0]) (st := []) kX5_readLine rfl rfl vX3_add rfl rfl rfl rfl (Nat.le_of_ble_eq_true rfl) (Nat.le_of_ble_eq_true rfl) (by decide) (sX3_add H8 hI12 63 0 ) (fun H34 r35 q36 o37 => ?_)
    obtain ⟨hI38, hf39, y41, rfl, f40⟩ := q36
    clear o37
    have hf42 := fz_fr_tr hf16 hf39 (show fz_su [(21, 4), (22, 99999), (23, 99999)] [(20, 3), (20, 4), (21, 4), (22, 99999), (23, 99999)] = true from rfl)
    refine fz_istore_n (ls' := [(1, fz_i y41), (0, fz_r 20)]) kX5_readLine rfl (by decide) rfl ?_
    refine fz_aload_n kX5_readLine rfl rfl ?_
    refine fz_iconst ⟨by decide, by decide⟩ kX5_readLine rfl ?_
    refine fz_callV (d' := 43) (M' := mX5_readE) (As := [fz_i 0]) (st := []) kX5_readLine rfl rfl vX5_readE rfl rfl rfl rfl (Nat.le_of_ble_eq_true rfl) (Nat.le_of_ble_eq_true rfl) (by decide) (sX5_readE_0 H34 hI38  ) (fun H43 r44 q45 o46 => ?_)
    obtain ⟨hI47, hf48, rfl⟩ := q45
    clear o46
    have hf49 := fz_fr_tr hf42 hf48 (show fz_su [(20, 3), (20, 4), (21, 4), (22, 99999), (23, 99999)] [(20, 3), (20, 4), (21, 4), (22, 99999), (23, 99999)] = true from rfl)
    refine fz_aload_n kX5_readLine rfl rfl ?_
    refine fz_getR (t := 21) kX5_readLine rfl rfl ?_
    refine fz_bipush ⟨by decide, by decide⟩ kX5_readLine rfl ?_
    refine fz_iconst ⟨by decide, by decide⟩ kX5_readLine rfl ?_
    refine fz_callV (d' := 0) (M' := mX3_add) (As := [fz_i 59, fz_i 0]) (st := []) kX5_readLine rfl rfl vX3_add rfl rfl rfl rfl (Nat.le_of_ble_eq_true rfl) (Nat.le_of_ble_eq_true rfl) (by decide) (sX3_add H43 hI47 59 0 ) (fun H50 r51 q52 o53 => ?_)
    obtain ⟨hI54, hf55, y57, rfl, f56⟩ := q52
    clear o53
    have hf58 := fz_fr_tr hf49 hf55 (show fz_su [(21, 4), (22, 99999), (23, 99999)] [(20, 3), (20, 4), (21, 4), (22, 99999), (23, 99999)] = true from rfl)
    refine fz_pop rfl kX5_readLine rfl ?_
    refine fz_aload_n kX5_readLine rfl rfl ?_
    refine fz_getR (t := 21) kX5_readLine rfl rfl ?_
    refine fz_iload_n kX5_readLine rfl rfl ?_
    refine fz_callV (d' := 0) (M' := mX3_leadHere) (As := [fz_i y41]) (st := []) kX5_readLine rfl rfl vX3_leadHere rfl rfl rfl rfl (Nat.le_of_ble_eq_true rfl) (Nat.le_of_ble_eq_true rfl) (by decide) (sX3_leadHere H50 hI54 y41 ) (fun H59 r60 q61 o62 => ?_)
    obtain ⟨hI63, hf64, rfl⟩ := q61
    clear o62
    have hf65 := fz_fr_tr hf58 hf64 (show fz_su [(23, 99999)] [(20, 3), (20, 4), (21, 4), (22, 99999), (23, 99999)] = true from rfl)
    exact fz_vret kX5_readLine rfl rfl ⟨hI63, hf65, rfl⟩

abbrev qX5_readText (h : fz_H) : fz_H → Option fz_V → Prop := fun h' r0 => fz_Iv h' ∧ fz_fr [(20, 3), (20, 4), (21, 4), (22, 99999), (23, 99999)] h h' ∧ ∃ r : Int, r0 = some (fz_i r) ∧ ((-1) ≤ r ∧ r ≤ 120)
set_option maxHeartbeats 1000000 in
set_option maxRecDepth 100000 in
theorem sX5_readText (h : fz_H) (hI : fz_Iv h) : fz_R 45 mX5_readText 0 [(0, fz_r 20)] [] h (qX5_readText h) := by
  have hf : fz_fr [(20, 3), (20, 4), (21, 4), (22, 99999), (23, 99999)] h h := fz_fr_rf
  refine fz_aload_n kX5_readText rfl rfl ?_
  refine fz_iconst ⟨by decide, by decide⟩ kX5_readText rfl ?_
  refine fz_putI kX5_readText rfl rfl rfl ?_
  refine fz_nmu (S := [(20, 3), (20, 4), (21, 4), (22, 99999), (23, 99999)]) (h0 := h) (fz_Iv_up hI (by decide) (show (0 : Int) ≤ 0 by decide) (show (0 : Int) ≤ 120 by decide)) (fz_fr_up hf rfl) (fun H1 hI2 hf3 e4 => ?_)
  have k5 : H1 20 3 = 0 := by rw [e4]; exact fz_up_e
  clear e4
  refine fz_aload_n kX5_readText rfl rfl ?_
  refine fz_iconst ⟨by decide, by decide⟩ kX5_readText rfl ?_
  refine fz_putZ kX5_readText rfl rfl rfl (by omega) ?_
  refine fz_nmu (S := [(20, 3), (20, 4), (21, 4), (22, 99999), (23, 99999)]) (h0 := h) (fz_Iv_up hI2 (by decide) (show (0 : Int) ≤ 0 by decide) (show (0 : Int) ≤ 1 by decide)) (fz_fr_up hf3 rfl) (fun H6 hI7 hf8 e9 => ?_)
  have k10 : H6 20 3 = 0 := by rw [e9]; exact (fz_up_s (by decide)).trans k5
  have k11 : H6 20 4 = 0 := by rw [e9]; exact fz_up_e
  clear e9
  refine fz_aload_n kX5_readText rfl rfl ?_
  refine fz_getR (t := 21) kX5_readText rfl rfl ?_
  refine fz_callV (d' := 0) (M' := mX3_clear) (As := []) (st := []) kX5_readText rfl rfl vX3_clear rfl rfl rfl rfl (Nat.le_of_ble_eq_true rfl) (Nat.le_of_ble_eq_true rfl) (by decide) (sX3_clear H6 hI7  ) (fun H12 r13 q14 o15 => ?_)
  obtain ⟨hI16, hf17, rfl⟩ := q14
  clear o15
  have hf18 := fz_fr_tr hf8 hf17 (show fz_su [(21, 4)] [(20, 3), (20, 4), (21, 4), (22, 99999), (23, 99999)] = true from rfl)
  have k19 : H12 20 3 = 0 := (hf17 20 3 rfl).trans k10
  have k20 : H12 20 4 = 0 := (hf17 20 4 rfl).trans k11
  refine fz_aload_n kX5_readText rfl rfl ?_
  refine fz_callV (d' := 44) (M' := mX5_readLine) (As := []) (st := []) kX5_readText rfl rfl vX5_readLine rfl rfl rfl rfl (Nat.le_of_ble_eq_true rfl) (Nat.le_of_ble_eq_true rfl) (by decide) (sX5_readLine H12 hI16  ) (fun H21 r22 q23 o24 => ?_)
  obtain ⟨hI25, hf26, rfl⟩ := q23
  clear o24
  have hf27 := fz_fr_tr hf18 hf26 (show fz_su [(20, 3), (20, 4), (21, 4), (22, 99999), (23, 99999)] [(20, 3), (20, 4), (21, 4), (22, 99999), (23, 99999)] = true from rfl)
  refine fz_iconst ⟨by decide, by decide⟩ kX5_readText rfl ?_
  refine fz_istore_n (ls' := [(1, fz_i 0), (0, fz_r 20)]) kX5_readText rfl (by decide) rfl ?_
  have lp33 : ∀ (n32 : Nat) (x28 : Int) (H29 : fz_H), fz_Iv H29 → fz_fr [(20, 3), (20, 4), (21, 4), (22, 99999), (23, 99999)] h H29 → (0 ≤ x28 ∧ x28 ≤ 2147483647) → (120 - x28).toNat < n32 → fz_R 45 mX5_readText 23 [(1, fz_i x28), (0, fz_r 20)] [] H29 (qX5_readText h) := by
    intro n32
    induction n32 with
    | zero => intro x28 H29 hI30 hf31 hv36 hm35; exact absurd hm35 (by omega)
    | succ n32 ih34 =>
      intro x28 H29 hI30 hf31 hv36 hm35
      refine fz_iload_n kX5_readText rfl rfl ?_
      refine fz_bipush ⟨by decide, by decide⟩ kX5_readText rfl ?_
      refine fz_icmp_ge (tgt := 48) kX5_readText rfl (by decide) (fun c37 => ?_) (fun c37 => ?_)
      · refine fz_aload_n kX5_readText rfl rfl ?_
        obtain ⟨v38, e39⟩ : ∃ z, H29 20 (4) = z := ⟨_, rfl⟩
        refine fz_getV (v := v38) kX5_readText rfl rfl e39 ?_
        have b40 : 0 ≤ v38 ∧ v38 ≤ 1 := by rw [← e39]; exact hI30.1 20 _
        refine fz_if_ne (tgt := 66) kX5_readText rfl (by decide) (fun c41 => ?_) (fun c41 => ?_)
        · refine fz_aload_n kX5_readText rfl rfl ?_
          obtain ⟨v42, e43⟩ : ∃ z, H29 20 (3) = z := ⟨_, rfl⟩
          refine fz_getV (v := v42) kX5_readText rfl rfl e43 ?_
          have b44 : 0 ≤ v42 ∧ v42 ≤ 120 := by rw [← e43]; exact hI30.1 20 _
          refine fz_goto (tgt := 74) kX5_readText rfl (by decide) ?_
          exact fz_iret kX5_readText rfl rfl (fun _ => ⟨hI30, hf31, _, rfl, (by omega)⟩)
        · refine fz_aload_n kX5_readText rfl rfl ?_
          obtain ⟨v45, e46⟩ : ∃ z, H29 20 (3) = z := ⟨_, rfl⟩
          refine fz_getV (v := v45) kX5_readText rfl rfl e46 ?_
          have b47 : 0 ≤ v45 ∧ v45 ≤ 120 := by rw [← e46]; exact hI30.1 20 _
          refine fz_aload_n kX5_readText rfl rfl ?_
          refine fz_getV (v := h 20 2) kX5_readText rfl rfl (hf31 20 2 rfl) ?_
          have b48 : 0 ≤ h 20 2 ∧ h 20 2 ≤ 120 := hI.1 20 _
          refine fz_icmp_ge (tgt := 73) kX5_readText rfl (by decide) (fun c49 => ?_) (fun c49 => ?_)
          · refine fz_iconst ⟨by decide, by decide⟩ kX5_readText rfl ?_
            exact fz_iret kX5_readText rfl rfl (fun _ => ⟨hI30, hf31, _, rfl, (by omega)⟩)
          · refine fz_aload_n kX5_readText rfl rfl ?_
            refine fz_getV (v := v45) kX5_readText rfl rfl e46 ?_
            refine fz_goto (tgt := 74) kX5_readText rfl (by decide) ?_
            exact fz_iret kX5_readText rfl rfl (fun _ => ⟨hI30, hf31, _, rfl, (by omega)⟩)
      · refine fz_aload_n kX5_readText rfl rfl ?_
        refine fz_bipush ⟨by decide, by decide⟩ kX5_readText rfl ?_
        refine fz_callV (d' := 1) (M' := mX5_goesOnWith) (As := [fz_i 59]) (st := []) kX5_readText rfl rfl vX5_goesOnWith rfl rfl rfl rfl (Nat.le_of_ble_eq_true rfl) (Nat.le_of_ble_eq_true rfl) (by decide) (sX5_goesOnWith H29 hI30 59 (by omega)) (fun H50 r51 q52 o53 => ?_)
        obtain ⟨hI54, hf55, y56, rfl, p57⟩ := q52
        clear o53
        have hf58 := fz_fr_tr hf31 hf55 (show fz_su [(20, 3)] [(20, 3), (20, 4), (21, 4), (22, 99999), (23, 99999)] = true from rfl)
        refine fz_if_eq (tgt := 48) kX5_readText rfl (by decide) (fun c59 => ?_) (fun c59 => ?_)
        · refine fz_aload_n kX5_readText rfl rfl ?_
          obtain ⟨v60, e61⟩ : ∃ z, H50 20 (4) = z := ⟨_, rfl⟩
          refine fz_getV (v := v60) kX5_readText rfl rfl e61 ?_
          have b62 : 0 ≤ v60 ∧ v60 ≤ 1 := by rw [← e61]; exact hI54.1 20 _
          refine fz_if_ne (tgt := 66) kX5_readText rfl (by decide) (fun c63 => ?_) (fun c63 => ?_)
          · refine fz_aload_n kX5_readText rfl rfl ?_
            obtain ⟨v64, e65⟩ : ∃ z, H50 20 (3) = z := ⟨_, rfl⟩
            refine fz_getV (v := v64) kX5_readText rfl rfl e65 ?_
            have b66 : 0 ≤ v64 ∧ v64 ≤ 120 := by rw [← e65]; exact hI54.1 20 _
            refine fz_goto (tgt := 74) kX5_readText rfl (by decide) ?_
            exact fz_iret kX5_readText rfl rfl (fun _ => ⟨hI54, hf58, _, rfl, (by omega)⟩)
          · refine fz_aload_n kX5_readText rfl rfl ?_
            obtain ⟨v67, e68⟩ : ∃ z, H50 20 (3) = z := ⟨_, rfl⟩
            refine fz_getV (v := v67) kX5_readText rfl rfl e68 ?_
            have b69 : 0 ≤ v67 ∧ v67 ≤ 120 := by rw [← e68]; exact hI54.1 20 _
            refine fz_aload_n kX5_readText rfl rfl ?_
            refine fz_getV (v := h 20 2) kX5_readText rfl rfl (hf58 20 2 rfl) ?_
            have b70 : 0 ≤ h 20 2 ∧ h 20 2 ≤ 120 := hI.1 20 _
            refine fz_icmp_ge (tgt := 73) kX5_readText rfl (by decide) (fun c71 => ?_) (fun c71 => ?_)
            · refine fz_iconst ⟨by decide, by decide⟩ kX5_readText rfl ?_
              exact fz_iret kX5_readText rfl rfl (fun _ => ⟨hI54, hf58, _, rfl, (by omega)⟩)
            · refine fz_aload_n kX5_readText rfl rfl ?_
              refine fz_getV (v := v67) kX5_readText rfl rfl e68 ?_
              refine fz_goto (tgt := 74) kX5_readText rfl (by decide) ?_
              exact fz_iret kX5_readText rfl rfl (fun _ => ⟨hI54, hf58, _, rfl, (by omega)⟩)
        · refine fz_aload_n kX5_readText rfl rfl ?_
          refine fz_callV (d' := 44) (M' := mX5_readLine) (As := []) (st := []) kX5_readText rfl rfl vX5_readLine rfl rfl rfl rfl (Nat.le_of_ble_eq_true rfl) (Nat.le_of_ble_eq_true rfl) (by decide) (sX5_readLine H50 hI54  ) (fun H72 r73 q74 o75 => ?_)
          obtain ⟨hI76, hf77, rfl⟩ := q74
          clear o75
          have hf78 := fz_fr_tr hf58 hf77 (show fz_su [(20, 3), (20, 4), (21, 4), (22, 99999), (23, 99999)] [(20, 3), (20, 4), (21, 4), (22, 99999), (23, 99999)] = true from rfl)
          refine fz_iincN (ls' := [(1, fz_i (x28 + 1)), (0, fz_r 20)]) kX5_readText rfl (by decide) rfl (by omega) rfl ?_
          refine fz_goto (tgt := 23) kX5_readText rfl (by decide) ?_
          exact ih34 (x28 + 1) H72 hI76 hf78 (by omega) (by omega)
  exact lp33 _ 0 H21 hI25 hf27 (by omega) (Nat.lt_succ_self _)
