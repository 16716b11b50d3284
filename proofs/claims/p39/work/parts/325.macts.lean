/-! ===== what the methods keep ===== -/
abbrev qX11_ran (h : fz_H) (n : Int) : fz_H → Option fz_V → Prop := fun h' r0 => fz_Iv h' ∧ fz_fr [(53, 46), (82, 99999)] h h' ∧ r0 = none ∧ h' 53 46 = h 53 46 + 1
set_option maxHeartbeats 1000000 in
set_option maxRecDepth 100000 in
theorem sX11_ran (h : fz_H) (hI : fz_Iv h) (n : Int) (hp0 : h 53 46 ≤ 999) : fz_R 0 mX11_ran 0 [(0, fz_r 53), (1, fz_i n)] [] h (qX11_ran h n) := by
  refine fz_knowl (fun hk => ?_)
  have hr_n : -2147483648 ≤ n ∧ n < 2147483648 := hk _ (List.Mem.tail _ (List.Mem.head _))
  clear hk
  have hf : fz_fr [(53, 46), (82, 99999)] h h := fz_fr_rf
  have b1 : 0 ≤ h 53 46 ∧ h 53 46 ≤ 1000 := hI.1 53 _
  refine fz_aload_n kX11_ran rfl rfl ?_
  refine fz_getV (v := h 53 46) kX11_ran rfl rfl rfl ?_
  have b2 : 0 ≤ h 53 46 ∧ h 53 46 ≤ 1000 := hI.1 53 _
  refine fz_bipush ⟨by decide, by decide⟩ kX11_ran rfl ?_
  refine fz_icmp_ge (tgt := 19) kX11_ran rfl (by decide) (fun c3 => ?_) (fun c3 => ?_)
  · refine fz_aload_n kX11_ran rfl rfl ?_
    refine fz_dup rfl kX11_ran rfl ?_
    refine fz_getV (v := h 53 46) kX11_ran rfl rfl rfl ?_
    refine fz_iconst ⟨by decide, by decide⟩ kX11_ran rfl ?_
    refine fz_iaddN kX11_ran rfl (by omega) ?_
    refine fz_putI kX11_ran rfl rfl rfl ?_
    refine fz_nmu (S := [(53, 46), (82, 99999)]) (h0 := h) (fz_Iv_up hI (by decide) (show 0 ≤ ((h 53 46) + 1) by omega) (show ((h 53 46) + 1) ≤ 1000 by omega)) (fz_fr_up hf rfl) (fun H4 hI5 hf6 e7 => ?_)
    have k8 : H4 53 46 = ((h 53 46) + 1) := by rw [e7]; exact fz_up_e
    clear e7
    exact fz_vret kX11_ran rfl rfl ⟨hI5, hf6, rfl, (by omega)⟩
  · refine fz_aload_n kX11_ran rfl rfl ?_
    refine fz_getR (t := 82) kX11_ran rfl rfl ?_
    refine fz_aload_n kX11_ran rfl rfl ?_
    refine fz_getV (v := h 53 46) kX11_ran rfl rfl rfl ?_
    refine fz_iload_n kX11_ran rfl rfl ?_
    refine fz_iast (n := 24) kX11_ran rfl rfl (by omega) (by omega) ?_
    refine fz_nmu (S := [(53, 46), (82, 99999)]) (h0 := h) (fz_Iv_up hI (by decide) (show (-2147483648) ≤ n by omega) (show n ≤ 2147483647 by omega)) (fz_fr_up hf rfl) (fun H9 hI10 hf11 e12 => ?_)
    have k13 : H9 53 46 = (h 53 46) := by rw [e12]; exact (fz_up_o (by decide)).trans rfl
    clear e12
    refine fz_aload_n kX11_ran rfl rfl ?_
    refine fz_dup rfl kX11_ran rfl ?_
    refine fz_getV (v := (h 53 46)) kX11_ran rfl rfl k13 ?_
    refine fz_iconst ⟨by decide, by decide⟩ kX11_ran rfl ?_
    refine fz_iaddN kX11_ran rfl (by omega) ?_
    refine fz_putI kX11_ran rfl rfl rfl ?_
    refine fz_nmu (S := [(53, 46), (82, 99999)]) (h0 := h) (fz_Iv_up hI10 (by decide) (show 0 ≤ ((h 53 46) + 1) by omega) (show ((h 53 46) + 1) ≤ 1000 by omega)) (fz_fr_up hf11 rfl) (fun H14 hI15 hf16 e17 => ?_)
    have k18 : H14 53 46 = ((h 53 46) + 1) := by rw [e17]; exact fz_up_e
    clear e17
    exact fz_vret kX11_ran rfl rfl ⟨hI15, hf16, rfl, (by omega)⟩

abbrev qX11_above_0 (h : fz_H) : fz_H → Option fz_V → Prop := fun h' r0 => h' = h ∧ ∃ r : Int, r0 = some (fz_i r) ∧ (0 ≤ r ∧ r ≤ 0)
set_option maxHeartbeats 1000000 in
set_option maxRecDepth 100000 in
theorem sX11_above_0 (h : fz_H) (hI : fz_Iv h) : fz_R 0 mX11_above 0 [(0, fz_i 0)] [] h (qX11_above_0 h) := by
  refine fz_iload_n kX11_above rfl rfl ?_
  have c1 : ((0 : Int) < 3 ∨ 7 < (0 : Int)) := by omega
  · refine fz_tswO (tgt := 44) kX11_above rfl c1 (by decide) ?_
    refine fz_iconst ⟨by decide, by decide⟩ kX11_above rfl ?_
    exact fz_iret kX11_above rfl rfl (fun _ => ⟨rfl, _, rfl, (by omega)⟩)

abbrev qX11_above_1 (h : fz_H) : fz_H → Option fz_V → Prop := fun h' r0 => h' = h ∧ ∃ r : Int, r0 = some (fz_i r) ∧ (0 ≤ r ∧ r ≤ 0)
set_option maxHeartbeats 1000000 in
set_option maxRecDepth 100000 in
theorem sX11_above_1 (h : fz_H) (hI : fz_Iv h) : fz_R 0 mX11_above 0 [(0, fz_i 1)] [] h (qX11_above_1 h) := by
  refine fz_iload_n kX11_above rfl rfl ?_
  have c1 : ((1 : Int) < 3 ∨ 7 < (1 : Int)) := by omega
  · refine fz_tswO (tgt := 44) kX11_above rfl c1 (by decide) ?_
    refine fz_iconst ⟨by decide, by decide⟩ kX11_above rfl ?_
    exact fz_iret kX11_above rfl rfl (fun _ => ⟨rfl, _, rfl, (by omega)⟩)

abbrev qX11_above_2 (h : fz_H) : fz_H → Option fz_V → Prop := fun h' r0 => h' = h ∧ ∃ r : Int, r0 = some (fz_i r) ∧ (0 ≤ r ∧ r ≤ 0)
set_option maxHeartbeats 1000000 in
set_option maxRecDepth 100000 in
theorem sX11_above_2 (h : fz_H) (hI : fz_Iv h) : fz_R 0 mX11_above 0 [(0, fz_i 2)] [] h (qX11_above_2 h) := by
  refine fz_iload_n kX11_above rfl rfl ?_
  have c1 : ((2 : Int) < 3 ∨ 7 < (2 : Int)) := by omega
  · refine fz_tswO (tgt := 44) kX11_above rfl c1 (by decide) ?_
    refine fz_iconst ⟨by decide, by decide⟩ kX11_above rfl ?_
    exact fz_iret kX11_above rfl rfl (fun _ => ⟨rfl, _, rfl, (by omega)⟩)

abbrev qX11_above_3 (h : fz_H) : fz_H → Option fz_V → Prop := fun h' r0 => h' = h ∧ ∃ r : Int, r0 = some (fz_i r) ∧ (2 ≤ r ∧ r ≤ 2)
set_option maxHeartbeats 1000000 in
set_option maxRecDepth 100000 in
theorem sX11_above_3 (h : fz_H) (hI : fz_Iv h) : fz_R 0 mX11_above 0 [(0, fz_i 3)] [] h (qX11_above_3 h) := by
  refine fz_iload_n kX11_above rfl rfl ?_
  refine fz_tswC (j := 3) (tgt := 36) kX11_above rfl rfl (by decide) (by decide) rfl (by decide) ?_
  refine fz_iconst ⟨by decide, by decide⟩ kX11_above rfl ?_
  exact fz_iret kX11_above rfl rfl (fun _ => ⟨rfl, _, rfl, (by omega)⟩)

abbrev qX11_above_4 (h : fz_H) : fz_H → Option fz_V → Prop := fun h' r0 => h' = h ∧ ∃ r : Int, r0 = some (fz_i r) ∧ (1 ≤ r ∧ r ≤ 1)
set_option maxHeartbeats 1000000 in
set_option maxRecDepth 100000 in
theorem sX11_above_4 (h : fz_H) (hI : fz_Iv h) : fz_R 0 mX11_above 0 [(0, fz_i 4)] [] h (qX11_above_4 h) := by
  refine fz_iload_n kX11_above rfl rfl ?_
  refine fz_tswC (j := 4) (tgt := 38) kX11_above rfl rfl (by decide) (by decide) rfl (by decide) ?_
  refine fz_iconst ⟨by decide, by decide⟩ kX11_above rfl ?_
  exact fz_iret kX11_above rfl rfl (fun _ => ⟨rfl, _, rfl, (by omega)⟩)

abbrev qX11_above_5 (h : fz_H) : fz_H → Option fz_V → Prop := fun h' r0 => h' = h ∧ ∃ r : Int, r0 = some (fz_i r) ∧ (3 ≤ r ∧ r ≤ 3)
set_option maxHeartbeats 1000000 in
set_option maxRecDepth 100000 in
theorem sX11_above_5 (h : fz_H) (hI : fz_Iv h) : fz_R 0 mX11_above 0 [(0, fz_i 5)] [] h (qX11_above_5 h) := by
  refine fz_iload_n kX11_above rfl rfl ?_
  refine fz_tswC (j := 5) (tgt := 40) kX11_above rfl rfl (by decide) (by decide) rfl (by decide) ?_
  refine fz_iconst ⟨by decide, by decide⟩ kX11_above rfl ?_
  exact fz_iret kX11_above rfl rfl (fun _ => ⟨rfl, _, rfl, (by omega)⟩)

abbrev qX11_above_6 (h : fz_H) : fz_H → Option fz_V → Prop := fun h' r0 => h' = h ∧ ∃ r : Int, r0 = some (fz_i r) ∧ (0 ≤ r ∧ r ≤ 0)
set_option maxHeartbeats 1000000 in
set_option maxRecDepth 100000 in
theorem sX11_above_6 (h : fz_H) (hI : fz_Iv h) : fz_R 0 mX11_above 0 [(0, fz_i 6)] [] h (qX11_above_6 h) := by
  refine fz_iload_n kX11_above rfl rfl ?_
  refine fz_tswC (j := 6) (tgt := 44) kX11_above rfl rfl (by decide) (by decide) rfl (by decide) ?_
  refine fz_iconst ⟨by decide, by decide⟩ kX11_above rfl ?_
  exact fz_iret kX11_above rfl rfl (fun _ => ⟨rfl, _, rfl, (by omega)⟩)

abbrev qX11_above_7 (h : fz_H) : fz_H → Option fz_V → Prop := fun h' r0 => h' = h ∧ ∃ r : Int, r0 = some (fz_i r) ∧ (4 ≤ r ∧ r ≤ 4)
set_option maxHeartbeats 1000000 in
set_option maxRecDepth 100000 in
theorem sX11_above_7 (h : fz_H) (hI : fz_Iv h) : fz_R 0 mX11_above 0 [(0, fz_i 7)] [] h (qX11_above_7 h) := by
  refine fz_iload_n kX11_above rfl rfl ?_
  refine fz_tswC (j := 7) (tgt := 42) kX11_above rfl rfl (by decide) (by decide) rfl (by decide) ?_
  refine fz_iconst ⟨by decide, by decide⟩ kX11_above rfl ?_
  exact fz_iret kX11_above rfl rfl (fun _ => ⟨rfl, _, rfl, (by omega)⟩)

abbrev qX11_goes_0 (h : fz_H) (b x : Int) : fz_H → Option fz_V → Prop := fun h' r0 => fz_Iv h' ∧ fz_fr [(53, 46), (82, 99999)] h h' ∧ ∃ r : Int, r0 = some (fz_i r) ∧ (h' 53 46 ≤ h 53 46 + 1)
set_option maxHeartbeats 1000000 in
set_option maxRecDepth 100000 in
theorem sX11_goes_0 (h : fz_H) (hI : fz_Iv h) (b x : Int) (hp0 : 0 ≤ b ∧ b ≤ 49) (hp1 : h 53 46 ≤ 899) : fz_R 1 mX11_goes 0 [(0, fz_r 53), (1, fz_i b), (2, fz_i 0), (3, fz_i x)] [] h (qX11_goes_0 h b x) := by
  refine fz_knowl (fun hk => ?_)
  have hr_b : -2147483648 ≤ b ∧ b < 2147483648 := hk _ (List.Mem.tail _ (List.Mem.head _))
  have hr_x : -2147483648 ≤ x ∧ x < 2147483648 := hk _ (List.Mem.tail _ (List.Mem.tail _ (List.Mem.tail _ (List.Mem.head _))))
  clear hk
  have hf : fz_fr [(53, 46), (82, 99999)] h h := fz_fr_rf
  have b1 : 0 ≤ h 53 46 ∧ h 53 46 ≤ 1000 := hI.1 53 _
  refine fz_iload_n kX11_goes rfl rfl ?_
  refine fz_lsw (tgt := 36) kX11_goes rfl (by decide) (show Op.lookupswitch.offset [(0, 35), (1, 44), (6, 60)] 76 0 = 35 from rfl) (by decide) ?_
  refine fz_aload_n kX11_goes rfl rfl ?_
  refine fz_iconst ⟨by decide, by decide⟩ kX11_goes rfl ?_
  refine fz_callV (d' := 0) (M' := mX11_ran) (As := [fz_i 1]) (st := []) kX11_goes rfl rfl vX11_ran rfl rfl rfl rfl (Nat.le_of_ble_eq_true rfl) (Nat.le_of_ble_eq_true rfl) (by decide) (sX11_ran h hI 1 (by omega)) (fun H2 r3 q4 o5 => ?_)
  obtain ⟨hI6, hf7, rfl, f8⟩ := q4
  clear o5
  have hf9 := fz_fr_tr hf hf7 (show fz_su [(53, 46), (82, 99999)] [(53, 46), (82, 99999)] = true from rfl)
  refine fz_iload_n kX11_goes rfl rfl ?_
  refine fz_iload_n kX11_goes rfl rfl ?_
  refine fz_iadd kX11_goes rfl ?_
  refine fz_nmw (fun z10 e11 => ?_)
  exact fz_iret kX11_goes rfl rfl (fun _ => ⟨hI6, hf9, _, rfl, (by omega)⟩)

abbrev qX11_goes_1 (h : fz_H) (b x : Int) : fz_H → Option fz_V → Prop := fun h' r0 => fz_Iv h' ∧ fz_fr [(53, 46), (82, 99999)] h h' ∧ ∃ r : Int, r0 = some (fz_i r) ∧ (h' 53 46 ≤ h 53 46 + 2)
set_option maxHeartbeats 1000000 in
set_option maxRecDepth 100000 in
theorem sX11_goes_1 (h : fz_H) (hI : fz_Iv h) (b x : Int) (hp0 : 0 ≤ b ∧ b ≤ 49) (hp1 : h 53 46 ≤ 898) : fz_R 2 mX11_goes 0 [(0, fz_r 53), (1, fz_i b), (2, fz_i 1), (3, fz_i x)] [] h (qX11_goes_1 h b x) := by
  refine fz_knowl (fun hk => ?_)
  have hr_b : -2147483648 ≤ b ∧ b < 2147483648 := hk _ (List.Mem.tail _ (List.Mem.head _))
  have hr_x : -2147483648 ≤ x ∧ x < 2147483648 := hk _ (List.Mem.tail _ (List.Mem.tail _ (List.Mem.tail _ (List.Mem.head _))))
  clear hk
  have hf : fz_fr [(53, 46), (82, 99999)] h h := fz_fr_rf
  have b1 : 0 ≤ h 53 46 ∧ h 53 46 ≤ 1000 := hI.1 53 _
  refine fz_iload_n kX11_goes rfl rfl ?_
  refine fz_lsw (tgt := 45) kX11_goes rfl (by decide) (show Op.lookupswitch.offset [(0, 35), (1, 44), (6, 60)] 76 1 = 44 from rfl) (by decide) ?_
  refine fz_aload_n kX11_goes rfl rfl ?_
  refine fz_bipush ⟨by decide, by decide⟩ kX11_goes rfl ?_
  refine fz_callV (d' := 0) (M' := mX11_ran) (As := [fz_i 20]) (st := []) kX11_goes rfl rfl vX11_ran rfl rfl rfl rfl (Nat.le_of_ble_eq_true rfl) (Nat.le_of_ble_eq_true rfl) (by decide) (sX11_ran h hI 20 (by omega)) (fun H2 r3 q4 o5 => ?_)
  obtain ⟨hI6, hf7, rfl, f8⟩ := q4
  clear o5
  have hf9 := fz_fr_tr hf hf7 (show fz_su [(53, 46), (82, 99999)] [(53, 46), (82, 99999)] = true from rfl)
  refine fz_aload_n kX11_goes rfl rfl ?_
  refine fz_iload_n kX11_goes rfl rfl ?_
  refine fz_iconst ⟨by decide, by decide⟩ kX11_goes rfl ?_
  refine fz_iload_n kX11_goes rfl rfl ?_
  have b10 : 0 ≤ H2 53 46 ∧ H2 53 46 ≤ 1000 := hI6.1 53 _
  refine fz_callV (d' := 1) (M' := mX11_goes) (As := [fz_i b, fz_i 0, fz_i x]) (st := []) kX11_goes rfl rfl vX11_goes rfl rfl rfl rfl (Nat.le_of_ble_eq_true rfl) (Nat.le_of_ble_eq_true rfl) (by decide) (sX11_goes_0 H2 hI6 b x (by omega) (by omega)) (fun H11 r12 q13 o14 => ?_)
  obtain ⟨hI15, hf16, y18, rfl, f17⟩ := q13
  clear o14
  have hf19 := fz_fr_tr hf9 hf16 (show fz_su [(53, 46), (82, 99999)] [(53, 46), (82, 99999)] = true from rfl)
  refine fz_iconst ⟨by decide, by decide⟩ kX11_goes rfl ?_
  refine fz_iadd kX11_goes rfl ?_
  refine fz_nmw (fun z20 e21 => ?_)
  exact fz_iret kX11_goes rfl rfl (fun _ => ⟨hI15, hf19, _, rfl, (by omega)⟩)

abbrev qX11_goes_2 (h : fz_H) (b x : Int) : fz_H → Option fz_V → Prop := fun h' r0 => fz_Iv h' ∧ fz_fr [(53, 46), (82, 99999)] h h' ∧ ∃ r : Int, r0 = some (fz_i r) ∧ (h' 53 46 ≤ h 53 46 + 1)
set_option maxHeartbeats 1000000 in
set_option maxRecDepth 100000 in
theorem sX11_goes_2 (h : fz_H) (hI : fz_Iv h) (b x : Int) (hp0 : 0 ≤ b ∧ b ≤ 49) (hp1 : h 53 46 ≤ 899) : fz_R 2 mX11_goes 0 [(0, fz_r 53), (1, fz_i b), (2, fz_i 2), (3, fz_i x)] [] h (qX11_goes_2 h b x) := by
  refine fz_knowl (fun hk => ?_)
  have hr_b : -2147483648 ≤ b ∧ b < 2147483648 := hk _ (List.Mem.tail _ (List.Mem.head _))
  have hr_x : -2147483648 ≤ x ∧ x < 2147483648 := hk _ (List.Mem.tail _ (List.Mem.tail _ (List.Mem.tail _ (List.Mem.head _))))
  clear hk
  have hf : fz_fr [(53, 46), (82, 99999)] h h := fz_fr_rf
  have b1 : 0 ≤ h 53 46 ∧ h 53 46 ≤ 1000 := hI.1 53 _
  refine fz_iload_n kX11_goes rfl rfl ?_
  refine fz_lsw (tgt := 77) kX11_goes rfl (by decide) (show Op.lookupswitch.offset [(0, 35), (1, 44), (6, 60)] 76 2 = 76 from rfl) (by decide) ?_
  refine fz_aload_n kX11_goes rfl rfl ?_
  refine fz_iload_n kX11_goes rfl rfl ?_
  refine fz_iload_n kX11_goes rfl rfl ?_
  refine fz_callS (d' := 0) (M' := mX11_above) (As := [fz_i 2]) (st := [fz_i b, fz_r 53]) kX11_goes rfl rfl vX11_above rfl rfl (Nat.le_of_ble_eq_true rfl) (Nat.le_of_ble_eq_true rfl) (by decide) (sX11_above_2 h hI  ) (fun H2 r3 q4 o5 => ?_)
  obtain ⟨e6, y8, rfl, f7⟩ := q4
  subst H2
  clear o5
  refine fz_eqi (show y8 = 0 by omega) ?_
  refine fz_iload_n kX11_goes rfl rfl ?_
  refine fz_callV (d' := 1) (M' := mX11_goes) (As := [fz_i b, fz_i 0, fz_i x]) (st := []) kX11_goes rfl rfl vX11_goes rfl rfl rfl rfl (Nat.le_of_ble_eq_true rfl) (Nat.le_of_ble_eq_true rfl) (by decide) (sX11_goes_0 h hI b x (by omega) (by omega)) (fun H9 r10 q11 o12 => ?_)
  obtain ⟨hI13, hf14, y16, rfl, f15⟩ := q11
  clear o12
  have hf17 := fz_fr_tr hf hf14 (show fz_su [(53, 46), (82, 99999)] [(53, 46), (82, 99999)] = true from rfl)
  exact fz_iret kX11_goes rfl rfl (fun _ => ⟨hI13, hf17, _, rfl, (by omega)⟩)

abbrev qX11_goes_3 (h : fz_H) (b x : Int) : fz_H → Option fz_V → Prop := fun h' r0 => fz_Iv h' ∧ fz_fr [(53, 46), (82, 99999)] h h' ∧ ∃ r : Int, r0 = some (fz_i r) ∧ (h' 53 46 ≤ h 53 46 + 1)
set_option maxHeartbeats 1000000 in
set_option maxRecDepth 100000 in
theorem sX11_goes_3 (h : fz_H) (hI : fz_Iv h) (b x : Int) (hp0 : 0 ≤ b ∧ b ≤ 49) (hp1 : h 53 46 ≤ 899) : fz_R 3 mX11_goes 0 [(0, fz_r 53), (1, fz_i b), (2, fz_i 3), (3, fz_i x)] [] h (qX11_goes_3 h b x) := by
  refine fz_knowl (fun hk => ?_)
  have hr_b : -2147483648 ≤ b ∧ b < 2147483648 := hk _ (List.Mem.tail _ (List.Mem.head _))
  have hr_x : -2147483648 ≤ x ∧ x < 2147483648 := hk _ (List.Mem.tail _ (List.Mem.tail _ (List.Mem.tail _ (List.Mem.head _))))
  clear hk
  have hf : fz_fr [(53, 46), (82, 99999)] h h := fz_fr_rf
  have b1 : 0 ≤ h 53 46 ∧ h 53 46 ≤ 1000 := hI.1 53 _
  refine fz_iload_n kX11_goes rfl rfl ?_
  refine fz_lsw (tgt := 77) kX11_goes rfl (by decide) (show Op.lookupswitch.offset [(0, 35), (1, 44), (6, 60)] 76 3 = 76 from rfl) (by decide) ?_
  refine fz_aload_n kX11_goes rfl rfl ?_
  refine fz_iload_n kX11_goes rfl rfl ?_
  refine fz_iload_n kX11_goes rfl rfl ?_
  refine fz_callS (d' := 0) (M' := mX11_above) (As := [fz_i 3]) (st := [fz_i b, fz_r 53]) kX11_goes rfl rfl vX11_above rfl rfl (Nat.le_of_ble_eq_true rfl) (Nat.le_of_ble_eq_true rfl) (by decide) (sX11_above_3 h hI  ) (fun H2 r3 q4 o5 => ?_)
  obtain ⟨e6, y8, rfl, f7⟩ := q4
  subst H2
  clear o5
  refine fz_eqi (show y8 = 2 by omega) ?_
  refine fz_iload_n kX11_goes rfl rfl ?_
  refine fz_callV (d' := 2) (M' := mX11_goes) (As := [fz_i b, fz_i 2, fz_i x]) (st := []) kX11_goes rfl rfl vX11_goes rfl rfl rfl rfl (Nat.le_of_ble_eq_true rfl) (Nat.le_of_ble_eq_true rfl) (by decide) (sX11_goes_2 h hI b x (by omega) (by omega)) (fun H9 r10 q11 o12 => ?_)
  obtain ⟨hI13, hf14, y16, rfl, f15⟩ := q11
  clear o12
  have hf17 := fz_fr_tr hf hf14 (show fz_su [(53, 46), (82, 99999)] [(53, 46), (82, 99999)] = true from rfl)
  exact fz_iret kX11_goes rfl rfl (fun _ => ⟨hI13, hf17, _, rfl, (by omega)⟩)

abbrev qX11_goes_4 (h : fz_H) (b x : Int) : fz_H → Option fz_V → Prop := fun h' r0 => fz_Iv h' ∧ fz_fr [(53, 46), (82, 99999)] h h' ∧ ∃ r : Int, r0 = some (fz_i r) ∧ (h' 53 46 ≤ h 53 46 + 2)
set_option maxHeartbeats 1000000 in
set_option maxRecDepth 100000 in
theorem sX11_goes_4 (h : fz_H) (hI : fz_Iv h) (b x : Int) (hp0 : 0 ≤ b ∧ b ≤ 49) (hp1 : h 53 46 ≤ 898) : fz_R 3 mX11_goes 0 [(0, fz_r 53), (1, fz_i b), (2, fz_i 4), (3, fz_i x)] [] h (qX11_goes_4 h b x) := by
  refine fz_knowl (fun hk => ?_)
  have hr_b : -2147483648 ≤ b ∧ b < 2147483648 := hk _ (List.Mem.tail _ (List.Mem.head _))
  have hr_x : -2147483648 ≤ x ∧ x < 2147483648 := hk _ (List.Mem.tail _ (List.Mem.tail _ (List.Mem.tail _ (List.Mem.head _))))
  clear hk
  have hf : fz_fr [(53, 46), (82, 99999)] h h := fz_fr_rf
  have b1 : 0 ≤ h 53 46 ∧ h 53 46 ≤ 1000 := hI.1 53 _
  refine fz_iload_n kX11_goes rfl rfl ?_
  refine fz_lsw (tgt := 77) kX11_goes rfl (by decide) (show Op.lookupswitch.offset [(0, 35), (1, 44), (6, 60)] 76 4 = 76 from rfl) (by decide) ?_
  refine fz_aload_n kX11_goes rfl rfl ?_
  refine fz_iload_n kX11_goes rfl rfl ?_
  refine fz_iload_n kX11_goes rfl rfl ?_
  refine fz_callS (d' := 0) (M' := mX11_above) (As := [fz_i 4]) (st := [fz_i b, fz_r 53]) kX11_goes rfl rfl vX11_above rfl rfl (Nat.le_of_ble_eq_true rfl) (Nat.le_of_ble_eq_true rfl) (by decide) (sX11_above_4 h hI  ) (fun H2 r3 q4 o5 => ?_)
  obtain ⟨e6, y8, rfl, f7⟩ := q4
  subst H2
  clear o5
  refine fz_eqi (show y8 = 1 by omega) ?_
  refine fz_iload_n kX11_goes rfl rfl ?_
  refine fz_callV (d' := 2) (M' := mX11_goes) (As := [fz_i b, fz_i 1, fz_i x]) (st := []) kX11_goes rfl rfl vX11_goes rfl rfl rfl rfl (Nat.le_of_ble_eq_true rfl) (Nat.le_of_ble_eq_true rfl) (by decide) (sX11_goes_1 h hI b x (by omega) (by omega)) (fun H9 r10 q11 o12 => ?_)
  obtain ⟨hI13, hf14, y16, rfl, f15⟩ := q11
  clear o12
  have hf17 := fz_fr_tr hf hf14 (show fz_su [(53, 46), (82, 99999)] [(53, 46), (82, 99999)] = true from rfl)
  exact fz_iret kX11_goes rfl rfl (fun _ => ⟨hI13, hf17, _, rfl, (by omega)⟩)

abbrev qX11_goes_5 (h : fz_H) (b x : Int) : fz_H → Option fz_V → Prop := fun h' r0 => fz_Iv h' ∧ fz_fr [(53, 46), (82, 99999)] h h' ∧ ∃ r : Int, r0 = some (fz_i r) ∧ (h' 53 46 ≤ h 53 46 + 1)
set_option maxHeartbeats 1000000 in
set_option maxRecDepth 100000 in
theorem sX11_goes_5 (h : fz_H) (hI : fz_Iv h) (b x : Int) (hp0 : 0 ≤ b ∧ b ≤ 49) (hp1 : h 53 46 ≤ 899) : fz_R 4 mX11_goes 0 [(0, fz_r 53), (1, fz_i b), (2, fz_i 5), (3, fz_i x)] [] h (qX11_goes_5 h b x) := by
  refine fz_knowl (fun hk => ?_)
  have hr_b : -2147483648 ≤ b ∧ b < 2147483648 := hk _ (List.Mem.tail _ (List.Mem.head _))
  have hr_x : -2147483648 ≤ x ∧ x < 2147483648 := hk _ (List.Mem.tail _ (List.Mem.tail _ (List.Mem.tail _ (List.Mem.head _))))
  clear hk
  have hf : fz_fr [(53, 46), (82, 99999)] h h := fz_fr_rf
  have b1 : 0 ≤ h 53 46 ∧ h 53 46 ≤ 1000 := hI.1 53 _
  refine fz_iload_n kX11_goes rfl rfl ?_
  refine fz_lsw (tgt := 77) kX11_goes rfl (by decide) (show Op.lookupswitch.offset [(0, 35), (1, 44), (6, 60)] 76 5 = 76 from rfl) (by decide) ?_
  refine fz_aload_n kX11_goes rfl rfl ?_
  refine fz_iload_n kX11_goes rfl rfl ?_
  refine fz_iload_n kX11_goes rfl rfl ?_
  refine fz_callS (d' := 0) (M' := mX11_above) (As := [fz_i 5]) (st := [fz_i b, fz_r 53]) kX11_goes rfl rfl vX11_above rfl rfl (Nat.le_of_ble_eq_true rfl) (Nat.le_of_ble_eq_true rfl) (by decide) (sX11_above_5 h hI  ) (fun H2 r3 q4 o5 => ?_)
  obtain ⟨e6, y8, rfl, f7⟩ := q4
  subst H2
  clear o5
  refine fz_eqi (show y8 = 3 by omega) ?_
  refine fz_iload_n kX11_goes rfl rfl ?_
  refine fz_callV (d' := 3) (M' := mX11_goes) (As := [fz_i b, fz_i 3, fz_i x]) (st := []) kX11_goes rfl rfl vX11_goes rfl rfl rfl rfl (Nat.le_of_ble_eq_true rfl) (Nat.le_of_ble_eq_true rfl) (by decide) (sX11_goes_3 h hI b x (by omega) (by omega)) (fun H9 r10 q11 o12 => ?_)
  obtain ⟨hI13, hf14, y16, rfl, f15⟩ := q11
  clear o12
  have hf17 := fz_fr_tr hf hf14 (show fz_su [(53, 46), (82, 99999)] [(53, 46), (82, 99999)] = true from rfl)
  exact fz_iret kX11_goes rfl rfl (fun _ => ⟨hI13, hf17, _, rfl, (by omega)⟩)

abbrev qX11_goes_6 (h : fz_H) (b x : Int) : fz_H → Option fz_V → Prop := fun h' r0 => fz_Iv h' ∧ fz_fr [(53, 46), (82, 99999)] h h' ∧ ∃ r : Int, r0 = some (fz_i r) ∧ (h' 53 46 ≤ h 53 46 + 2)
set_option maxHeartbeats 1000000 in
set_option maxRecDepth 100000 in
theorem sX11_goes_6 (h : fz_H) (hI : fz_Iv h) (b x : Int) (hp0 : 0 ≤ b ∧ b ≤ 49) (hp1 : h 53 46 ≤ 898) : fz_R 2 mX11_goes 0 [(0, fz_r 53), (1, fz_i b), (2, fz_i 6), (3, fz_i x)] [] h (qX11_goes_6 h b x) := by
  refine fz_knowl (fun hk => ?_)
  have hr_b : -2147483648 ≤ b ∧ b < 2147483648 := hk _ (List.Mem.tail _ (List.Mem.head _))
  have hr_x : -2147483648 ≤ x ∧ x < 2147483648 := hk _ (List.Mem.tail _ (List.Mem.tail _ (List.Mem.tail _ (List.Mem.head _))))
  clear hk
  have hf : fz_fr [(53, 46), (82, 99999)] h h := fz_fr_rf
  have b1 : 0 ≤ h 53 46 ∧ h 53 46 ≤ 1000 := hI.1 53 _
  refine fz_iload_n kX11_goes rfl rfl ?_
  refine fz_lsw (tgt := 61) kX11_goes rfl (by decide) (show Op.lookupswitch.offset [(0, 35), (1, 44), (6, 60)] 76 6 = 60 from rfl) (by decide) ?_
  refine fz_aload_n kX11_goes rfl rfl ?_
  refine fz_bipush ⟨by decide, by decide⟩ kX11_goes rfl ?_
  refine fz_callV (d' := 0) (M' := mX11_ran) (As := [fz_i 70]) (st := []) kX11_goes rfl rfl vX11_ran rfl rfl rfl rfl (Nat.le_of_ble_eq_true rfl) (Nat.le_of_ble_eq_true rfl) (by decide) (sX11_ran h hI 70 (by omega)) (fun H2 r3 q4 o5 => ?_)
  obtain ⟨hI6, hf7, rfl, f8⟩ := q4
  clear o5
  have hf9 := fz_fr_tr hf hf7 (show fz_su [(53, 46), (82, 99999)] [(53, 46), (82, 99999)] = true from rfl)
  refine fz_aload_n kX11_goes rfl rfl ?_
  refine fz_iload_n kX11_goes rfl rfl ?_
  refine fz_iconst ⟨by decide, by decide⟩ kX11_goes rfl ?_
  refine fz_iload_n kX11_goes rfl rfl ?_
  have b10 : 0 ≤ H2 53 46 ∧ H2 53 46 ≤ 1000 := hI6.1 53 _
  refine fz_callV (d' := 1) (M' := mX11_goes) (As := [fz_i b, fz_i 0, fz_i x]) (st := []) kX11_goes rfl rfl vX11_goes rfl rfl rfl rfl (Nat.le_of_ble_eq_true rfl) (Nat.le_of_ble_eq_true rfl) (by decide) (sX11_goes_0 H2 hI6 b x (by omega) (by omega)) (fun H11 r12 q13 o14 => ?_)
  obtain ⟨hI15, hf16, y18, rfl, f17⟩ := q13
  clear o14
  have hf19 := fz_fr_tr hf9 hf16 (show fz_su [(53, 46), (82, 99999)] [(53, 46), (82, 99999)] = true from rfl)
  refine fz_iconst ⟨by decide, by decide⟩ kX11_goes rfl ?_
  refine fz_imul kX11_goes rfl ?_
  refine fz_nmw (fun z20 e21 => ?_)
  exact fz_iret kX11_goes rfl rfl (fun _ => ⟨hI15, hf19, _, rfl, (by omega)⟩)

abbrev qX11_goes_7 (h : fz_H) (b x : Int) : fz_H → Option fz_V → Prop := fun h' r0 => fz_Iv h' ∧ fz_fr [(53, 46), (82, 99999)] h h' ∧ ∃ r : Int, r0 = some (fz_i r) ∧ (h' 53 46 ≤ h 53 46 + 2)
set_option maxHeartbeats 1000000 in
set_option maxRecDepth 100000 in
theorem sX11_goes_7 (h : fz_H) (hI : fz_Iv h) (b x : Int) (hp0 : 0 ≤ b ∧ b ≤ 49) (hp1 : h 53 46 ≤ 898) : fz_R 4 mX11_goes 0 [(0, fz_r 53), (1, fz_i b), (2, fz_i 7), (3, fz_i x)] [] h (qX11_goes_7 h b x) := by
  refine fz_knowl (fun hk => ?_)
  have hr_b : -2147483648 ≤ b ∧ b < 2147483648 := hk _ (List.Mem.tail _ (List.Mem.head _))
  have hr_x : -2147483648 ≤ x ∧ x < 2147483648 := hk _ (List.Mem.tail _ (List.Mem.tail _ (List.Mem.tail _ (List.Mem.head _))))
  clear hk
  have hf : fz_fr [(53, 46), (82, 99999)] h h := fz_fr_rf
  have b1 : 0 ≤ h 53 46 ∧ h 53 46 ≤ 1000 := hI.1 53 _
  refine fz_iload_n kX11_goes rfl rfl ?_
  refine fz_lsw (tgt := 77) kX11_goes rfl (by decide) (show Op.lookupswitch.offset [(0, 35), (1, 44), (6, 60)] 76 7 = 76 from rfl) (by decide) ?_
  refine fz_aload_n kX11_goes rfl rfl ?_
  refine fz_iload_n kX11_goes rfl rfl ?_
  refine fz_iload_n kX11_goes rfl rfl ?_
  refine fz_callS (d' := 0) (M' := mX11_above) (As := [fz_i 7]) (st := [fz_i b, fz_r 53]) kX11_goes rfl rfl vX11_above rfl rfl (Nat.le_of_ble_eq_true rfl) (Nat.le_of_ble_eq_true rfl) (by decide) (sX11_above_7 h hI  ) (fun H2 r3 q4 o5 => ?_)
  obtain ⟨e6, y8, rfl, f7⟩ := q4
  subst H2
  clear o5
  refine fz_eqi (show y8 = 4 by omega) ?_
  refine fz_iload_n kX11_goes rfl rfl ?_
  refine fz_callV (d' := 3) (M' := mX11_goes) (As := [fz_i b, fz_i 4, fz_i x]) (st := []) kX11_goes rfl rfl vX11_goes rfl rfl rfl rfl (Nat.le_of_ble_eq_true rfl) (Nat.le_of_ble_eq_true rfl) (by decide) (sX11_goes_4 h hI b x (by omega) (by omega)) (fun H9 r10 q11 o12 => ?_)
  obtain ⟨hI13, hf14, y16, rfl, f15⟩ := q11
  clear o12
  have hf17 := fz_fr_tr hf hf14 (show fz_su [(53, 46), (82, 99999)] [(53, 46), (82, 99999)] = true from rfl)
  exact fz_iret kX11_goes rfl rfl (fun _ => ⟨hI13, hf17, _, rfl, (by omega)⟩)

abbrev qX11_fades_0 (h : fz_H) (b x : Int) : fz_H → Option fz_V → Prop := fun h' r0 => fz_Iv h' ∧ fz_fr [(53, 46), (82, 99999)] h h' ∧ ∃ r : Int, r0 = some (fz_i r) ∧ (h' 53 46 ≤ h 53 46 + 1)
set_option maxHeartbeats 1000000 in
set_option maxRecDepth 100000 in
theorem sX11_fades_0 (h : fz_H) (hI : fz_Iv h) (b x : Int) (hp0 : 0 ≤ b ∧ b ≤ 49) (hp1 : h 53 46 ≤ 899) : fz_R 1 mX11_fades 0 [(0, fz_r 53), (1, fz_i b), (2, fz_i 0), (3, fz_i x)] [] h (qX11_fades_0 h b x) := by
  refine fz_knowl (fun hk => ?_)
  have hr_b : -2147483648 ≤ b ∧ b < 2147483648 := hk _ (List.Mem.tail _ (List.Mem.head _))
  have hr_x : -2147483648 ≤ x ∧ x < 2147483648 := hk _ (List.Mem.tail _ (List.Mem.tail _ (List.Mem.tail _ (List.Mem.head _))))
  clear hk
  have hf : fz_fr [(53, 46), (82, 99999)] h h := fz_fr_rf
  have b1 : 0 ≤ h 53 46 ∧ h 53 46 ≤ 1000 := hI.1 53 _
  refine fz_iload_n kX11_fades rfl rfl ?_
  refine fz_tswC (j := 0) (tgt := 36) kX11_fades rfl rfl (by decide) (by decide) rfl (by decide) ?_
  refine fz_aload_n kX11_fades rfl rfl ?_
  refine fz_bipush ⟨by decide, by decide⟩ kX11_fades rfl ?_
  refine fz_callV (d' := 0) (M' := mX11_ran) (As := [fz_i 11]) (st := []) kX11_fades rfl rfl vX11_ran rfl rfl rfl rfl (Nat.le_of_ble_eq_true rfl) (Nat.le_of_ble_eq_true rfl) (by decide) (sX11_ran h hI 11 (by omega)) (fun H2 r3 q4 o5 => ?_)
  obtain ⟨hI6, hf7, rfl, f8⟩ := q4
  clear o5
  have hf9 := fz_fr_tr hf hf7 (show fz_su [(53, 46), (82, 99999)] [(53, 46), (82, 99999)] = true from rfl)
  refine fz_iload_n kX11_fades rfl rfl ?_
  refine fz_iload_n kX11_fades rfl rfl ?_
  refine fz_ixor kX11_fades rfl ?_
  have b10 : -2147483648 ≤ (fz_xor x b) ∧ (fz_xor x b) < 2147483648 := fz_b32 _
  exact fz_iret kX11_fades rfl rfl (fun _ => ⟨hI6, hf9, _, rfl, (by omega)⟩)

abbrev qX11_fades_1 (h : fz_H) (b x : Int) : fz_H → Option fz_V → Prop := fun h' r0 => fz_Iv h' ∧ fz_fr [(53, 46), (82, 99999)] h h' ∧ ∃ r : Int, r0 = some (fz_i r) ∧ (h' 53 46 ≤ h 53 46 + 1)
set_option maxHeartbeats 1000000 in
set_option maxRecDepth 100000 in
theorem sX11_fades_1 (h : fz_H) (hI : fz_Iv h) (b x : Int) (hp0 : 0 ≤ b ∧ b ≤ 49) (hp1 : h 53 46 ≤ 899) : fz_R 2 mX11_fades 0 [(0, fz_r 53), (1, fz_i b), (2, fz_i 1), (3, fz_i x)] [] h (qX11_fades_1 h b x) := by
  refine fz_knowl (fun hk => ?_)
  have hr_b : -2147483648 ≤ b ∧ b < 2147483648 := hk _ (List.Mem.tail _ (List.Mem.head _))
  have hr_x : -2147483648 ≤ x ∧ x < 2147483648 := hk _ (List.Mem.tail _ (List.Mem.tail _ (List.Mem.tail _ (List.Mem.head _))))
  clear hk
  have hf : fz_fr [(53, 46), (82, 99999)] h h := fz_fr_rf
  have b1 : 0 ≤ h 53 46 ∧ h 53 46 ≤ 1000 := hI.1 53 _
  refine fz_iload_n kX11_fades rfl rfl ?_
  refine fz_tswC (j := 1) (tgt := 93) kX11_fades rfl rfl (by decide) (by decide) rfl (by decide) ?_
  refine fz_aload_n kX11_fades rfl rfl ?_
  refine fz_iload_n kX11_fades rfl rfl ?_
  refine fz_iload_n kX11_fades rfl rfl ?_
  refine fz_callS (d' := 0) (M' := mX11_above) (As := [fz_i 1]) (st := [fz_i b, fz_r 53]) kX11_fades rfl rfl vX11_above rfl rfl (Nat.le_of_ble_eq_true rfl) (Nat.le_of_ble_eq_true rfl) (by decide) (sX11_above_1 h hI  ) (fun H2 r3 q4 o5 => ?_)
  obtain ⟨e6, y8, rfl, f7⟩ := q4
  subst H2
  clear o5
  refine fz_eqi (show y8 = 0 by omega) ?_
  refine fz_iload_n kX11_fades rfl rfl ?_
  refine fz_callV (d' := 1) (M' := mX11_fades) (As := [fz_i b, fz_i 0, fz_i x]) (st := []) kX11_fades rfl rfl vX11_fades rfl rfl rfl rfl (Nat.le_of_ble_eq_true rfl) (Nat.le_of_ble_eq_true rfl) (by decide) (sX11_fades_0 h hI b x (by omega) (by omega)) (fun H9 r10 q11 o12 => ?_)
  obtain ⟨hI13, hf14, y16, rfl, f15⟩ := q11
  clear o12
  have hf17 := fz_fr_tr hf hf14 (show fz_su [(53, 46), (82, 99999)] [(53, 46), (82, 99999)] = true from rfl)
  exact fz_iret kX11_fades rfl rfl (fun _ => ⟨hI13, hf17, _, rfl, (by omega)⟩)

abbrev qX11_fades_2 (h : fz_H) (b x : Int) : fz_H → Option fz_V → Prop := fun h' r0 => fz_Iv h' ∧ fz_fr [(53, 46), (82, 99999)] h h' ∧ ∃ r : Int, r0 = some (fz_i r) ∧ (h' 53 46 ≤ h 53 46 + 1)
set_option maxHeartbeats 1000000 in
set_option maxRecDepth 100000 in
theorem sX11_fades_2 (h : fz_H) (hI : fz_Iv h) (b x : Int) (hp0 : 0 ≤ b ∧ b ≤ 49) (hp1 : h 53 46 ≤ 899) : fz_R 2 mX11_fades 0 [(0, fz_r 53), (1, fz_i b), (2, fz_i 2), (3, fz_i x)] [] h (qX11_fades_2 h b x) := by
  refine fz_knowl (fun hk => ?_)
  have hr_b : -2147483648 ≤ b ∧ b < 2147483648 := hk _ (List.Mem.tail _ (List.Mem.head _))
  have hr_x : -2147483648 ≤ x ∧ x < 2147483648 := hk _ (List.Mem.tail _ (List.Mem.tail _ (List.Mem.tail _ (List.Mem.head _))))
  clear hk
  have hf : fz_fr [(53, 46), (82, 99999)] h h := fz_fr_rf
  have b1 : 0 ≤ h 53 46 ∧ h 53 46 ≤ 1000 := hI.1 53 _
  refine fz_iload_n kX11_fades rfl rfl ?_
  refine fz_tswC (j := 2) (tgt := 93) kX11_fades rfl rfl (by decide) (by decide) rfl (by decide) ?_
  refine fz_aload_n kX11_fades rfl rfl ?_
  refine fz_iload_n kX11_fades rfl rfl ?_
  refine fz_iload_n kX11_fades rfl rfl ?_
  refine fz_callS (d' := 0) (M' := mX11_above) (As := [fz_i 2]) (st := [fz_i b, fz_r 53]) kX11_fades rfl rfl vX11_above rfl rfl (Nat.le_of_ble_eq_true rfl) (Nat.le_of_ble_eq_true rfl) (by decide) (sX11_above_2 h hI  ) (fun H2 r3 q4 o5 => ?_)
  obtain ⟨e6, y8, rfl, f7⟩ := q4
  subst H2
  clear o5
  refine fz_eqi (show y8 = 0 by omega) ?_
  refine fz_iload_n kX11_fades rfl rfl ?_
  refine fz_callV (d' := 1) (M' := mX11_fades) (As := [fz_i b, fz_i 0, fz_i x]) (st := []) kX11_fades rfl rfl vX11_fades rfl rfl rfl rfl (Nat.le_of_ble_eq_true rfl) (Nat.le_of_ble_eq_true rfl) (by decide) (sX11_fades_0 h hI b x (by omega) (by omega)) (fun H9 r10 q11 o12 => ?_)
  obtain ⟨hI13, hf14, y16, rfl, f15⟩ := q11
  clear o12
  have hf17 := fz_fr_tr hf hf14 (show fz_su [(53, 46), (82, 99999)] [(53, 46), (82, 99999)] = true from rfl)
  exact fz_iret kX11_fades rfl rfl (fun _ => ⟨hI13, hf17, _, rfl, (by omega)⟩)

abbrev qX11_fades_3 (h : fz_H) (b x : Int) : fz_H → Option fz_V → Prop := fun h' r0 => fz_Iv h' ∧ fz_fr [(53, 46), (82, 99999)] h h' ∧ ∃ r : Int, r0 = some (fz_i r) ∧ (h' 53 46 ≤ h 53 46 + 2)
set_option maxHeartbeats 1000000 in
set_option maxRecDepth 100000 in
theorem sX11_fades_3 (h : fz_H) (hI : fz_Iv h) (b x : Int) (hp0 : 0 ≤ b ∧ b ≤ 49) (hp1 : h 53 46 ≤ 898) : fz_R 3 mX11_fades 0 [(0, fz_r 53), (1, fz_i b), (2, fz_i 3), (3, fz_i x)] [] h (qX11_fades_3 h b x) := by
  refine fz_knowl (fun hk => ?_)
  have hr_b : -2147483648 ≤ b ∧ b < 2147483648 := hk _ (List.Mem.tail _ (List.Mem.head _))
  have hr_x : -2147483648 ≤ x ∧ x < 2147483648 := hk _ (List.Mem.tail _ (List.Mem.tail _ (List.Mem.tail _ (List.Mem.head _))))
  clear hk
  have hf : fz_fr [(53, 46), (82, 99999)] h h := fz_fr_rf
  have b1 : 0 ≤ h 53 46 ∧ h 53 46 ≤ 1000 := hI.1 53 _
  refine fz_iload_n kX11_fades rfl rfl ?_
  refine fz_tswC (j := 3) (tgt := 46) kX11_fades rfl rfl (by decide) (by decide) rfl (by decide) ?_
  refine fz_aload_n kX11_fades rfl rfl ?_
  refine fz_bipush ⟨by decide, by decide⟩ kX11_fades rfl ?_
  refine fz_callV (d' := 0) (M' := mX11_ran) (As := [fz_i 40]) (st := []) kX11_fades rfl rfl vX11_ran rfl rfl rfl rfl (Nat.le_of_ble_eq_true rfl) (Nat.le_of_ble_eq_true rfl) (by decide) (sX11_ran h hI 40 (by omega)) (fun H2 r3 q4 o5 => ?_)
  obtain ⟨hI6, hf7, rfl, f8⟩ := q4
  clear o5
  have hf9 := fz_fr_tr hf hf7 (show fz_su [(53, 46), (82, 99999)] [(53, 46), (82, 99999)] = true from rfl)
  refine fz_aload_n kX11_fades rfl rfl ?_
  refine fz_iload_n kX11_fades rfl rfl ?_
  refine fz_iconst ⟨by decide, by decide⟩ kX11_fades rfl ?_
  refine fz_iload_n kX11_fades rfl rfl ?_
  have b10 : 0 ≤ H2 53 46 ∧ H2 53 46 ≤ 1000 := hI6.1 53 _
  refine fz_callV (d' := 2) (M' := mX11_fades) (As := [fz_i b, fz_i 2, fz_i x]) (st := []) kX11_fades rfl rfl vX11_fades rfl rfl rfl rfl (Nat.le_of_ble_eq_true rfl) (Nat.le_of_ble_eq_true rfl) (by decide) (sX11_fades_2 H2 hI6 b x (by omega) (by omega)) (fun H11 r12 q13 o14 => ?_)
  obtain ⟨hI15, hf16, y18, rfl, f17⟩ := q13
  clear o14
  have hf19 := fz_fr_tr hf9 hf16 (show fz_su [(53, 46), (82, 99999)] [(53, 46), (82, 99999)] = true from rfl)
  refine fz_iconst ⟨by decide, by decide⟩ kX11_fades rfl ?_
  refine fz_imul kX11_fades rfl ?_
  refine fz_nmw (fun z20 e21 => ?_)
  exact fz_iret kX11_fades rfl rfl (fun _ => ⟨hI15, hf19, _, rfl, (by omega)⟩)

abbrev qX11_fades_4 (h : fz_H) (b x : Int) : fz_H → Option fz_V → Prop := fun h' r0 => fz_Iv h' ∧ fz_fr [(53, 46), (82, 99999)] h h' ∧ ∃ r : Int, r0 = some (fz_i r) ∧ (h' 53 46 ≤ h 53 46 + 4)
set_option maxHeartbeats 1000000 in
set_option maxRecDepth 100000 in
theorem sX11_fades_4 (h : fz_H) (hI : fz_Iv h) (b x : Int) (hp0 : 0 ≤ b ∧ b ≤ 49) (hp1 : h 53 46 ≤ 896) : fz_R 5 mX11_fades 0 [(0, fz_r 53), (1, fz_i b), (2, fz_i 4), (3, fz_i x)] [] h (qX11_fades_4 h b x) := by
  refine fz_knowl (fun hk => ?_)
  have hr_b : -2147483648 ≤ b ∧ b < 2147483648 := hk _ (List.Mem.tail _ (List.Mem.head _))
  have hr_x : -2147483648 ≤ x ∧ x < 2147483648 := hk _ (List.Mem.tail _ (List.Mem.tail _ (List.Mem.tail _ (List.Mem.head _))))
  clear hk
  have hf : fz_fr [(53, 46), (82, 99999)] h h := fz_fr_rf
  have b1 : 0 ≤ h 53 46 ∧ h 53 46 ≤ 1000 := hI.1 53 _
  refine fz_iload_n kX11_fades rfl rfl ?_
  refine fz_tswC (j := 4) (tgt := 62) kX11_fades rfl rfl (by decide) (by decide) rfl (by decide) ?_
  refine fz_aload_n kX11_fades rfl rfl ?_
  refine fz_bipush ⟨by decide, by decide⟩ kX11_fades rfl ?_
  refine fz_callV (d' := 0) (M' := mX11_ran) (As := [fz_i 50]) (st := []) kX11_fades rfl rfl vX11_ran rfl rfl rfl rfl (Nat.le_of_ble_eq_true rfl) (Nat.le_of_ble_eq_true rfl) (by decide) (sX11_ran h hI 50 (by omega)) (fun H2 r3 q4 o5 => ?_)
  obtain ⟨hI6, hf7, rfl, f8⟩ := q4
  clear o5
  have hf9 := fz_fr_tr hf hf7 (show fz_su [(53, 46), (82, 99999)] [(53, 46), (82, 99999)] = true from rfl)
  refine fz_aload_n kX11_fades rfl rfl ?_
  refine fz_iload_n kX11_fades rfl rfl ?_
  refine fz_iconst ⟨by decide, by decide⟩ kX11_fades rfl ?_
  refine fz_iload_n kX11_fades rfl rfl ?_
  have b10 : 0 ≤ H2 53 46 ∧ H2 53 46 ≤ 1000 := hI6.1 53 _
  refine fz_callV (d' := 2) (M' := mX11_fades) (As := [fz_i b, fz_i 1, fz_i x]) (st := []) kX11_fades rfl rfl vX11_fades rfl rfl rfl rfl (Nat.le_of_ble_eq_true rfl) (Nat.le_of_ble_eq_true rfl) (by decide) (sX11_fades_1 H2 hI6 b x (by omega) (by omega)) (fun H11 r12 q13 o14 => ?_)
  obtain ⟨hI15, hf16, y18, rfl, f17⟩ := q13
  clear o14
  have hf19 := fz_fr_tr hf9 hf16 (show fz_su [(53, 46), (82, 99999)] [(53, 46), (82, 99999)] = true from rfl)
  refine fz_istore (ls' := [(4, fz_i y18), (0, fz_r 53), (1, fz_i b), (2, fz_i 4), (3, fz_i x)]) kX11_fades rfl (by decide) rfl ?_
  refine fz_iload kX11_fades rfl rfl ?_
  refine fz_aload_n kX11_fades rfl rfl ?_
  refine fz_iload_n kX11_fades rfl rfl ?_
  refine fz_aload_n kX11_fades rfl rfl ?_
  refine fz_getR (t := 81) kX11_fades rfl rfl ?_
  refine fz_iload_n kX11_fades rfl rfl ?_
  refine fz_ialdV (n := 50) (v := h 81 (b.toNat)) kX11_fades rfl rfl (by omega) (by omega) (hf19 81 _ rfl) ?_
  have b20 : 0 ≤ h 81 (b.toNat) ∧ h 81 (b.toNat) ≤ 7 := hI.1 81 _
  rcases (show (h 81 (b.toNat)) = 0 ∨ (h 81 (b.toNat)) = 1 ∨ (h 81 (b.toNat)) = 2 ∨ (h 81 (b.toNat)) = 3 ∨ (h 81 (b.toNat)) = 4 ∨ (h 81 (b.toNat)) = 5 ∨ (h 81 (b.toNat)) = 6 ∨ (h 81 (b.toNat)) = 7 by omega) with c21 | c21 | c21 | c21 | c21 | c21 | c21 | c21
  · refine fz_eqi c21 ?_
    refine fz_iconst ⟨by decide, by decide⟩ kX11_fades rfl ?_
    have b22 : 0 ≤ H11 53 46 ∧ H11 53 46 ≤ 1000 := hI15.1 53 _
    refine fz_callV (d' := 1) (M' := mX11_goes) (As := [fz_i b, fz_i 0, fz_i 2]) (st := [fz_i y18]) kX11_fades rfl rfl vX11_goes rfl rfl rfl rfl (Nat.le_of_ble_eq_true rfl) (Nat.le_of_ble_eq_true rfl) (by decide) (sX11_goes_0 H11 hI15 b 2 (by omega) (by omega)) (fun H23 r24 q25 o26 => ?_)
    obtain ⟨hI27, hf28, y30, rfl, f29⟩ := q25
    clear o26
    have hf31 := fz_fr_tr hf19 hf28 (show fz_su [(53, 46), (82, 99999)] [(53, 46), (82, 99999)] = true from rfl)
    refine fz_isub kX11_fades rfl ?_
    refine fz_nmw (fun z32 e33 => ?_)
    exact fz_iret kX11_fades rfl rfl (fun _ => ⟨hI27, hf31, _, rfl, (by omega)⟩)
  · refine fz_eqi c21 ?_
    refine fz_iconst ⟨by decide, by decide⟩ kX11_fades rfl ?_
    have b34 : 0 ≤ H11 53 46 ∧ H11 53 46 ≤ 1000 := hI15.1 53 _
    refine fz_callV (d' := 2) (M' := mX11_goes) (As := [fz_i b, fz_i 1, fz_i 2]) (st := [fz_i y18]) kX11_fades rfl rfl vX11_goes rfl rfl rfl rfl (Nat.le_of_ble_eq_true rfl) (Nat.le_of_ble_eq_true rfl) (by decide) (sX11_goes_1 H11 hI15 b 2 (by omega) (by omega)) (fun H35 r36 q37 o38 => ?_)
    obtain ⟨hI39, hf40, y42, rfl, f41⟩ := q37
    clear o38
    have hf43 := fz_fr_tr hf19 hf40 (show fz_su [(53, 46), (82, 99999)] [(53, 46), (82, 99999)] = true from rfl)
    refine fz_isub kX11_fades rfl ?_
    refine fz_nmw (fun z44 e45 => ?_)
    exact fz_iret kX11_fades rfl rfl (fun _ => ⟨hI39, hf43, _, rfl, (by omega)⟩)
  · refine fz_eqi c21 ?_
    refine fz_iconst ⟨by decide, by decide⟩ kX11_fades rfl ?_
    have b46 : 0 ≤ H11 53 46 ∧ H11 53 46 ≤ 1000 := hI15.1 53 _
    refine fz_callV (d' := 2) (M' := mX11_goes) (As := [fz_i b, fz_i 2, fz_i 2]) (st := [fz_i y18]) kX11_fades rfl rfl vX11_goes rfl rfl rfl rfl (Nat.le_of_ble_eq_true rfl) (Nat.le_of_ble_eq_true rfl) (by decide) (sX11_goes_2 H11 hI15 b 2 (by omega) (by omega)) (fun H47 r48 q49 o50 => ?_)
    obtain ⟨hI51, hf52, y54, rfl, f53⟩ := q49
    clear o50
    have hf55 := fz_fr_tr hf19 hf52 (show fz_su [(53, 46), (82, 99999)] [(53, 46), (82, 99999)] = true from rfl)
    refine fz_isub kX11_fades rfl ?_
    refine fz_nmw (fun z56 e57 => ?_)
    exact fz_iret kX11_fades rfl rfl (fun _ => ⟨hI51, hf55, _, rfl, (by omega)⟩)
  · refine fz_eqi c21 ?_
    refine fz_iconst ⟨by decide, by decide⟩ kX11_fades rfl ?_
    have b58 : 0 ≤ H11 53 46 ∧ H11 53 46 ≤ 1000 := hI15.1 53 _
    refine fz_callV (d' := 3) (M' := mX11_goes) (As := [fz_i b, fz_i 3, fz_i 2]) (st := [fz_i y18]) kX11_fades rfl rfl vX11_goes rfl rfl rfl rfl (Nat.le_of_ble_eq_true rfl) (Nat.le_of_ble_eq_true rfl) (by decide) (sX11_goes_3 H11 hI15 b 2 (by omega) (by omega)) (fun H59 r60 q61 o62 => ?_)
    obtain ⟨hI63, hf64, y66, rfl, f65⟩ := q61
    clear o62
    have hf67 := fz_fr_tr hf19 hf64 (show fz_su [(53, 46), (82, 99999)] [(53, 46), (82, 99999)] = true from rfl)
    refine fz_isub kX11_fades rfl ?_
    refine fz_nmw (fun z68 e69 => ?_)
    exact fz_iret kX11_fades rfl rfl (fun _ => ⟨hI63, hf67, _, rfl, (by omega)⟩)
  · refine fz_eqi c21 ?_
    refine fz_iconst ⟨by decide, by decide⟩ kX11_fades rfl ?_
    have b70 : 0 ≤ H11 53 46 ∧ H11 53 46 ≤ 1000 := hI15.1 53 _
    refine fz_callV (d' := 3) (M' := mX11_goes) (As := [fz_i b, fz_i 4, fz_i 2]) (st := [fz_i y18]) kX11_fades rfl rfl vX11_goes rfl rfl rfl rfl (Nat.le_of_ble_eq_true rfl) (Nat.le_of_ble_eq_true rfl) (by decide) (sX11_goes_4 H11 hI15 b 2 (by omega) (by omega)) (fun H71 r72 q73 o74 => ?_)
    obtain ⟨hI75, hf76, y78, rfl, f77⟩ := q73
    clear o74
    have hf79 := fz_fr_tr hf19 hf76 (show fz_su [(53, 46), (82, 99999)] [(53, 46), (82, 99999)] = true from rfl)
    refine fz_isub kX11_fades rfl ?_
    refine fz_nmw (fun z80 e81 => ?_)
    exact fz_iret kX11_fades rfl rfl (fun _ => ⟨hI75, hf79, _, rfl, (by omega)⟩)
  · refine fz_eqi c21 ?_
    refine fz_iconst ⟨by decide, by decide⟩ kX11_fades rfl ?_
    have b82 : 0 ≤ H11 53 46 ∧ H11 53 46 ≤ 1000 := hI15.1 53 _
    refine fz_callV (d' := 4) (M' := mX11_goes) (As := [fz_i b, fz_i 5, fz_i 2]) (st := [fz_i y18]) kX11_fades rfl rfl vX11_goes rfl rfl rfl rfl (Nat.le_of_ble_eq_true rfl) (Nat.le_of_ble_eq_true rfl) (by decide) (sX11_goes_5 H11 hI15 b 2 (by omega) (by omega)) (fun H83 r84 q85 o86 => ?_)
    obtain ⟨hI87, hf88, y90, rfl, f89⟩ := q85
    clear o86
    have hf91 := fz_fr_tr hf19 hf88 (show fz_su [(53, 46), (82, 99999)] [(53, 46), (82, 99999)] = true from rfl)
    refine fz_isub kX11_fades rfl ?_
    refine fz_nmw (fun z92 e93 => ?_)
    exact fz_iret kX11_fades rfl rfl (fun _ => ⟨hI87, hf91, _, rfl, (by omega)⟩)
  · refine fz_eqi c21 ?_
    refine fz_iconst ⟨by decide, by decide⟩ kX11_fades rfl ?_
    have b94 : 0 ≤ H11 53 46 ∧ H11 53 46 ≤ 1000 := hI15.1 53 _
    refine fz_callV (d' := 2) (M' := mX11_goes) (As := [fz_i b, fz_i 6, fz_i 2]) (st := [fz_i y18]) kX11_fades rfl rfl vX11_goes rfl rfl rfl rfl (Nat.le_of_ble_eq_true rfl) (Nat.le_of_ble_eq_true rfl) (by decide) (sX11_goes_6 H11 hI15 b 2 (by omega) (by omega)) (fun H95 r96 q97 o98 => ?_)
    obtain ⟨hI99, hf100, y102, rfl, f101⟩ := q97
    clear o98
    have hf103 := fz_fr_tr hf19 hf100 (show fz_su [(53, 46), (82, 99999)] [(53, 46), (82, 99999)] = true from rfl)
    refine fz_isub kX11_fades rfl ?_
    refine fz_nmw (fun z104 e105 => ?_)
    exact fz_iret kX11_fades rfl rfl (fun _ => ⟨hI99, hf103, _, rfl, (by omega)⟩)
  · refine fz_eqi c21 ?_
    refine fz_iconst ⟨by decide, by decide⟩ kX11_fades rfl ?_
    have b106 : 0 ≤ H11 53 46 ∧ H11 53 46 ≤ 1000 := hI15.1 53 _
    refine fz_callV (d' := 4) (M' := mX11_goes) (As := [fz_i b, fz_i 7, fz_i 2]) (st := [fz_i y18]) kX11_fades rfl rfl vX11_goes rfl rfl rfl rfl (Nat.le_of_ble_eq_true rfl) (Nat.le_of_ble_eq_true rfl) (by decide) (sX11_goes_7 H11 hI15 b 2 (by omega) (by omega)) (fun H107 r108 q109 o110 => ?_)
    obtain ⟨hI111, hf112, y114, rfl, f113⟩ := q109
    clear o110
    have hf115 := fz_fr_tr hf19 hf112 (show fz_su [(53, 46), (82, 99999)] [(53, 46), (82, 99999)] = true from rfl)
    refine fz_isub kX11_fades rfl ?_
    refine fz_nmw (fun z116 e117 => ?_)
    exact fz_iret kX11_fades rfl rfl (fun _ => ⟨hI111, hf115, _, rfl, (by omega)⟩)

abbrev qX11_fades_5 (h : fz_H) (b x : Int) : fz_H → Option fz_V → Prop := fun h' r0 => fz_Iv h' ∧ fz_fr [(53, 46), (82, 99999)] h h' ∧ ∃ r : Int, r0 = some (fz_i r) ∧ (h' 53 46 ≤ h 53 46 + 2)
set_option maxHeartbeats 1000000 in
set_option maxRecDepth 100000 in
theorem sX11_fades_5 (h : fz_H) (hI : fz_Iv h) (b x : Int) (hp0 : 0 ≤ b ∧ b ≤ 49) (hp1 : h 53 46 ≤ 898) : fz_R 4 mX11_fades 0 [(0, fz_r 53), (1, fz_i b), (2, fz_i 5), (3, fz_i x)] [] h (qX11_fades_5 h b x) := by
  refine fz_knowl (fun hk => ?_)
  have hr_b : -2147483648 ≤ b ∧ b < 2147483648 := hk _ (List.Mem.tail _ (List.Mem.head _))
  have hr_x : -2147483648 ≤ x ∧ x < 2147483648 := hk _ (List.Mem.tail _ (List.Mem.tail _ (List.Mem.tail _ (List.Mem.head _))))
  clear hk
  have hf : fz_fr [(53, 46), (82, 99999)] h h := fz_fr_rf
  have b1 : 0 ≤ h 53 46 ∧ h 53 46 ≤ 1000 := hI.1 53 _
  refine fz_iload_n kX11_fades rfl rfl ?_
  have c2 : ((5 : Int) < 0 ∨ 4 < (5 : Int)) := by omega
  · refine fz_tswO (tgt := 93) kX11_fades rfl c2 (by decide) ?_
    refine fz_aload_n kX11_fades rfl rfl ?_
    refine fz_iload_n kX11_fades rfl rfl ?_
    refine fz_iload_n kX11_fades rfl rfl ?_
    refine fz_callS (d' := 0) (M' := mX11_above) (As := [fz_i 5]) (st := [fz_i b, fz_r 53]) kX11_fades rfl rfl vX11_above rfl rfl (Nat.le_of_ble_eq_true rfl) (Nat.le_of_ble_eq_true rfl) (by decide) (sX11_above_5 h hI  ) (fun H3 r4 q5 o6 => ?_)
    obtain ⟨e7, y9, rfl, f8⟩ := q5
    subst H3
    clear o6
    refine fz_eqi (show y9 = 3 by omega) ?_
    refine fz_iload_n kX11_fades rfl rfl ?_
    refine fz_callV (d' := 3) (M' := mX11_fades) (As := [fz_i b, fz_i 3, fz_i x]) (st := []) kX11_fades rfl rfl vX11_fades rfl rfl rfl rfl (Nat.le_of_ble_eq_true rfl) (Nat.le_of_ble_eq_true rfl) (by decide) (sX11_fades_3 h hI b x (by omega) (by omega)) (fun H10 r11 q12 o13 => ?_)
    obtain ⟨hI14, hf15, y17, rfl, f16⟩ := q12
    clear o13
    have hf18 := fz_fr_tr hf hf15 (show fz_su [(53, 46), (82, 99999)] [(53, 46), (82, 99999)] = true from rfl)
    exact fz_iret kX11_fades rfl rfl (fun _ => ⟨hI14, hf18, _, rfl, (by omega)⟩)

abbrev qX11_fades_6 (h : fz_H) (b x : Int) : fz_H → Option fz_V → Prop := fun h' r0 => fz_Iv h' ∧ fz_fr [(53, 46), (82, 99999)] h h' ∧ ∃ r : Int, r0 = some (fz_i r) ∧ (h' 53 46 ≤ h 53 46 + 1)
set_option maxHeartbeats 1000000 in
set_option maxRecDepth 100000 in
theorem sX11_fades_6 (h : fz_H) (hI : fz_Iv h) (b x : Int) (hp0 : 0 ≤ b ∧ b ≤ 49) (hp1 : h 53 46 ≤ 899) : fz_R 2 mX11_fades 0 [(0, fz_r 53), (1, fz_i b), (2, fz_i 6), (3, fz_i x)] [] h (qX11_fades_6 h b x) := by
  refine fz_knowl (fun hk => ?_)
  have hr_b : -2147483648 ≤ b ∧ b < 2147483648 := hk _ (List.Mem.tail _ (List.Mem.head _))
  have hr_x : -2147483648 ≤ x ∧ x < 2147483648 := hk _ (List.Mem.tail _ (List.Mem.tail _ (List.Mem.tail _ (List.Mem.head _))))
  clear hk
  have hf : fz_fr [(53, 46), (82, 99999)] h h := fz_fr_rf
  have b1 : 0 ≤ h 53 46 ∧ h 53 46 ≤ 1000 := hI.1 53 _
  refine fz_iload_n kX11_fades rfl rfl ?_
  have c2 : ((6 : Int) < 0 ∨ 4 < (6 : Int)) := by omega
  · refine fz_tswO (tgt := 93) kX11_fades rfl c2 (by decide) ?_
    refine fz_aload_n kX11_fades rfl rfl ?_
    refine fz_iload_n kX11_fades rfl rfl ?_
    refine fz_iload_n kX11_fades rfl rfl ?_
    refine fz_callS (d' := 0) (M' := mX11_above) (As := [fz_i 6]) (st := [fz_i b, fz_r 53]) kX11_fades rfl rfl vX11_above rfl rfl (Nat.le_of_ble_eq_true rfl) (Nat.le_of_ble_eq_true rfl) (by decide) (sX11_above_6 h hI  ) (fun H3 r4 q5 o6 => ?_)
    obtain ⟨e7, y9, rfl, f8⟩ := q5
    subst H3
    clear o6
    refine fz_eqi (show y9 = 0 by omega) ?_
    refine fz_iload_n kX11_fades rfl rfl ?_
    refine fz_callV (d' := 1) (M' := mX11_fades) (As := [fz_i b, fz_i 0, fz_i x]) (st := []) kX11_fades rfl rfl vX11_fades rfl rfl rfl rfl (Nat.le_of_ble_eq_true rfl) (Nat.le_of_ble_eq_true rfl) (by decide) (sX11_fades_0 h hI b x (by omega) (by omega)) (fun H10 r11 q12 o13 => ?_)
    obtain ⟨hI14, hf15, y17, rfl, f16⟩ := q12
    clear o13
    have hf18 := fz_fr_tr hf hf15 (show fz_su [(53, 46), (82, 99999)] [(53, 46), (82, 99999)] = true from rfl)
    exact fz_iret kX11_fades rfl rfl (fun _ => ⟨hI14, hf18, _, rfl, (by omega)⟩)

abbrev qX11_fades_7 (h : fz_H) (b x : Int) : fz_H → Option fz_V → Prop := fun h' r0 => fz_Iv h' ∧ fz_fr [(53, 46), (82, 99999)] h h' ∧ ∃ r : Int, r0 = some (fz_i r) ∧ (h' 53 46 ≤ h 53 46 + 4)
set_option maxHeartbeats 1000000 in
set_option maxRecDepth 100000 in
theorem sX11_fades_7 (h : fz_H) (hI : fz_Iv h) (b x : Int) (hp0 : 0 ≤ b ∧ b ≤ 49) (hp1 : h 53 46 ≤ 896) : fz_R 6 mX11_fades 0 [(0, fz_r 53), (1, fz_i b), (2, fz_i 7), (3, fz_i x)] [] h (qX11_fades_7 h b x) := by
  refine fz_knowl (fun hk => ?_)
  have hr_b : -2147483648 ≤ b ∧ b < 2147483648 := hk _ (List.Mem.tail _ (List.Mem.head _))
  have hr_x : -2147483648 ≤ x ∧ x < 2147483648 := hk _ (List.Mem.tail _ (List.Mem.tail _ (List.Mem.tail _ (List.Mem.head _))))
  clear hk
  have hf : fz_fr [(53, 46), (82, 99999)] h h := fz_fr_rf
  have b1 : 0 ≤ h 53 46 ∧ h 53 46 ≤ 1000 := hI.1 53 _
  refine fz_iload_n kX11_fades rfl rfl ?_
  have c2 : ((7 : Int) < 0 ∨ 4 < (7 : Int)) := by omega
  · refine fz_tswO (tgt := 93) kX11_fades rfl c2 (by decide) ?_
    refine fz_aload_n kX11_fades rfl rfl ?_
    refine fz_iload_n kX11_fades rfl rfl ?_
    refine fz_iload_n kX11_fades rfl rfl ?_
    refine fz_callS (d' := 0) (M' := mX11_above) (As := [fz_i 7]) (st := [fz_i b, fz_r 53]) kX11_fades rfl rfl vX11_above rfl rfl (Nat.le_of_ble_eq_true rfl) (Nat.le_of_ble_eq_true rfl) (by decide) (sX11_above_7 h hI  ) (fun H3 r4 q5 o6 => ?_)
    obtain ⟨e7, y9, rfl, f8⟩ := q5
    subst H3
    clear o6
    refine fz_eqi (show y9 = 4 by omega) ?_
    refine fz_iload_n kX11_fades rfl rfl ?_
    refine fz_callV (d' := 5) (M' := mX11_fades) (As := [fz_i b, fz_i 4, fz_i x]) (st := []) kX11_fades rfl rfl vX11_fades rfl rfl rfl rfl (Nat.le_of_ble_eq_true rfl) (Nat.le_of_ble_eq_true rfl) (by decide) (sX11_fades_4 h hI b x (by omega) (by omega)) (fun H10 r11 q12 o13 => ?_)
    obtain ⟨hI14, hf15, y17, rfl, f16⟩ := q12
    clear o13
    have hf18 := fz_fr_tr hf hf15 (show fz_su [(53, 46), (82, 99999)] [(53, 46), (82, 99999)] = true from rfl)
    exact fz_iret kX11_fades rfl rfl (fun _ => ⟨hI14, hf18, _, rfl, (by omega)⟩)

abbrev qX11_says_0 (h : fz_H) (b x : Int) : fz_H → Option fz_V → Prop := fun h' r0 => fz_Iv h' ∧ fz_fr [(53, 46), (82, 99999)] h h' ∧ ∃ r : Int, r0 = some (fz_i r) ∧ (h' 53 46 ≤ h 53 46 + 3)
set_option maxHeartbeats 1000000 in
set_option maxRecDepth 100000 in
theorem sX11_says_0 (h : fz_H) (hI : fz_Iv h) (b x : Int) (hp0 : 0 ≤ b ∧ b ≤ 49) (hp1 : h 53 46 ≤ 897) : fz_R 5 mX11_says 0 [(0, fz_r 53), (1, fz_i b), (2, fz_i 0), (3, fz_i x)] [] h (qX11_says_0 h b x) := by
  refine fz_knowl (fun hk => ?_)
  have hr_b : -2147483648 ≤ b ∧ b < 2147483648 := hk _ (List.Mem.tail _ (List.Mem.head _))
  have hr_x : -2147483648 ≤ x ∧ x < 2147483648 := hk _ (List.Mem.tail _ (List.Mem.tail _ (List.Mem.tail _ (List.Mem.head _))))
  clear hk
  have hf : fz_fr [(53, 46), (82, 99999)] h h := fz_fr_rf
  have b1 : 0 ≤ h 53 46 ∧ h 53 46 ≤ 1000 := hI.1 53 _
  refine fz_iload_n kX11_says rfl rfl ?_
  refine fz_tswC (j := 0) (tgt := 48) kX11_says rfl rfl (by decide) (by decide) rfl (by decide) ?_
  refine fz_aload_n kX11_says rfl rfl ?_
  refine fz_bipush ⟨by decide, by decide⟩ kX11_says rfl ?_
  refine fz_callV (d' := 0) (M' := mX11_ran) (As := [fz_i 10]) (st := []) kX11_says rfl rfl vX11_ran rfl rfl rfl rfl (Nat.le_of_ble_eq_true rfl) (Nat.le_of_ble_eq_true rfl) (by decide) (sX11_ran h hI 10 (by omega)) (fun H2 r3 q4 o5 => ?_)
  obtain ⟨hI6, hf7, rfl, f8⟩ := q4
  clear o5
  have hf9 := fz_fr_tr hf hf7 (show fz_su [(53, 46), (82, 99999)] [(53, 46), (82, 99999)] = true from rfl)
  refine fz_aload_n kX11_says rfl rfl ?_
  refine fz_iload_n kX11_says rfl rfl ?_
  refine fz_aload_n kX11_says rfl rfl ?_
  refine fz_getR (t := 81) kX11_says rfl rfl ?_
  refine fz_iload_n kX11_says rfl rfl ?_
  refine fz_ialdV (n := 50) (v := h 81 (b.toNat)) kX11_says rfl rfl (by omega) (by omega) (hf9 81 _ rfl) ?_
  have b10 : 0 ≤ h 81 (b.toNat) ∧ h 81 (b.toNat) ≤ 7 := hI.1 81 _
  rcases (show (h 81 (b.toNat)) = 0 ∨ (h 81 (b.toNat)) = 1 ∨ (h 81 (b.toNat)) = 2 ∨ (h 81 (b.toNat)) = 3 ∨ (h 81 (b.toNat)) = 4 ∨ (h 81 (b.toNat)) = 5 ∨ (h 81 (b.toNat)) = 6 ∨ (h 81 (b.toNat)) = 7 by omega) with c11 | c11 | c11 | c11 | c11 | c11 | c11 | c11
  · refine fz_eqi c11 ?_
    refine fz_iload_n kX11_says rfl rfl ?_
    have b12 : 0 ≤ H2 53 46 ∧ H2 53 46 ≤ 1000 := hI6.1 53 _
    refine fz_callV (d' := 1) (M' := mX11_goes) (As := [fz_i b, fz_i 0, fz_i x]) (st := []) kX11_says rfl rfl vX11_goes rfl rfl rfl rfl (Nat.le_of_ble_eq_true rfl) (Nat.le_of_ble_eq_true rfl) (by decide) (sX11_goes_0 H2 hI6 b x (by omega) (by omega)) (fun H13 r14 q15 o16 => ?_)
    obtain ⟨hI17, hf18, y20, rfl, f19⟩ := q15
    clear o16
    have hf21 := fz_fr_tr hf9 hf18 (show fz_su [(53, 46), (82, 99999)] [(53, 46), (82, 99999)] = true from rfl)
    refine fz_iconst ⟨by decide, by decide⟩ kX11_says rfl ?_
    refine fz_imul kX11_says rfl ?_
    refine fz_nmw (fun z22 e23 => ?_)
    exact fz_iret kX11_says rfl rfl (fun _ => ⟨hI17, hf21, _, rfl, (by omega)⟩)
  · refine fz_eqi c11 ?_
    refine fz_iload_n kX11_says rfl rfl ?_
    have b24 : 0 ≤ H2 53 46 ∧ H2 53 46 ≤ 1000 := hI6.1 53 _
    refine fz_callV (d' := 2) (M' := mX11_goes) (As := [fz_i b, fz_i 1, fz_i x]) (st := []) kX11_says rfl rfl vX11_goes rfl rfl rfl rfl (Nat.le_of_ble_eq_true rfl) (Nat.le_of_ble_eq_true rfl) (by decide) (sX11_goes_1 H2 hI6 b x (by omega) (by omega)) (fun H25 r26 q27 o28 => ?_)
    obtain ⟨hI29, hf30, y32, rfl, f31⟩ := q27
    clear o28
    have hf33 := fz_fr_tr hf9 hf30 (show fz_su [(53, 46), (82, 99999)] [(53, 46), (82, 99999)] = true from rfl)
    refine fz_iconst ⟨by decide, by decide⟩ kX11_says rfl ?_
    refine fz_imul kX11_says rfl ?_
    refine fz_nmw (fun z34 e35 => ?_)
    exact fz_iret kX11_says rfl rfl (fun _ => ⟨hI29, hf33, _, rfl, (by omega)⟩)
  · refine fz_eqi c11 ?_
    refine fz_iload_n kX11_says rfl rfl ?_
    have b36 : 0 ≤ H2 53 46 ∧ H2 53 46 ≤ 1000 := hI6.1 53 _
    refine fz_callV (d' := 2) (M' := mX11_goes) (As := [fz_i b, fz_i 2, fz_i x]) (st := []) kX11_says rfl rfl vX11_goes rfl rfl rfl rfl (Nat.le_of_ble_eq_true rfl) (Nat.le_of_ble_eq_true rfl) (by decide) (sX11_goes_2 H2 hI6 b x (by omega) (by omega)) (fun H37 r38 q39 o40 => ?_)
    obtain ⟨hI41, hf42, y44, rfl, f43⟩ := q39
    clear o40
    have hf45 := fz_fr_tr hf9 hf42 (show fz_su [(53, 46), (82, 99999)] [(53, 46), (82, 99999)] = true from rfl)
    refine fz_iconst ⟨by decide, by decide⟩ kX11_says rfl ?_
    refine fz_imul kX11_says rfl ?_
    refine fz_nmw (fun z46 e47 => ?_)
    exact fz_iret kX11_says rfl rfl (fun _ => ⟨hI41, hf45, _, rfl, (by omega)⟩)
  · refine fz_eqi c11 ?_
    refine fz_iload_n kX11_says rfl rfl ?_
    have b48 : 0 ≤ H2 53 46 ∧ H2 53 46 ≤ 1000 := hI6.1 53 _
    refine fz_callV (d' := 3) (M' := mX11_goes) (As := [fz_i b, fz_i 3, fz_i x]) (st := []) kX11_says rfl rfl vX11_goes rfl rfl rfl rfl (Nat.le_of_ble_eq_true rfl) (Nat.le_of_ble_eq_true rfl) (by decide) (sX11_goes_3 H2 hI6 b x (by omega) (by omega)) (fun H49 r50 q51 o52 => ?_)
    obtain ⟨hI53, hf54, y56, rfl, f55⟩ := q51
    clear o52
    have hf57 := fz_fr_tr hf9 hf54 (show fz_su [(53, 46), (82, 99999)] [(53, 46), (82, 99999)] = true from rfl)
    refine fz_iconst ⟨by decide, by decide⟩ kX11_says rfl ?_
    refine fz_imul kX11_says rfl ?_
    refine fz_nmw (fun z58 e59 => ?_)
    exact fz_iret kX11_says rfl rfl (fun _ => ⟨hI53, hf57, _, rfl, (by omega)⟩)
  · refine fz_eqi c11 ?_
    refine fz_iload_n kX11_says rfl rfl ?_
    have b60 : 0 ≤ H2 53 46 ∧ H2 53 46 ≤ 1000 := hI6.1 53 _
    refine fz_callV (d' := 3) (M' := mX11_goes) (As := [fz_i b, fz_i 4, fz_i x]) (st := []) kX11_says rfl rfl vX11_goes rfl rfl rfl rfl (Nat.le_of_ble_eq_true rfl) (Nat.le_of_ble_eq_true rfl) (by decide) (sX11_goes_4 H2 hI6 b x (by omega) (by omega)) (fun H61 r62 q63 o64 => ?_)
    obtain ⟨hI65, hf66, y68, rfl, f67⟩ := q63
    clear o64
    have hf69 := fz_fr_tr hf9 hf66 (show fz_su [(53, 46), (82, 99999)] [(53, 46), (82, 99999)] = true from rfl)
    refine fz_iconst ⟨by decide, by decide⟩ kX11_says rfl ?_
    refine fz_imul kX11_says rfl ?_
    refine fz_nmw (fun z70 e71 => ?_)
    exact fz_iret kX11_says rfl rfl (fun _ => ⟨hI65, hf69, _, rfl, (by omega)⟩)
  · refine fz_eqi c11 ?_
    refine fz_iload_n kX11_says rfl rfl ?_
    have b72 : 0 ≤ H2 53 46 ∧ H2 53 46 ≤ 1000 := hI6.1 53 _
    refine fz_callV (d' := 4) (M' := mX11_goes) (As := [fz_i b, fz_i 5, fz_i x]) (st := []) kX11_says rfl rfl vX11_goes rfl rfl rfl rfl (Nat.le_of_ble_eq_true rfl) (Nat.le_of_ble_eq_true rfl) (by decide) (sX11_goes_5 H2 hI6 b x (by omega) (by omega)) (fun H73 r74 q75 o76 => ?_)
    obtain ⟨hI77, hf78, y80, rfl, f79⟩ := q75
    clear o76
    have hf81 := fz_fr_tr hf9 hf78 (show fz_su [(53, 46), (82, 99999)] [(53, 46), (82, 99999)] = true from rfl)
    refine fz_iconst ⟨by decide, by decide⟩ kX11_says rfl ?_
    refine fz_imul kX11_says rfl ?_
    refine fz_nmw (fun z82 e83 => ?_)
    exact fz_iret kX11_says rfl rfl (fun _ => ⟨hI77, hf81, _, rfl, (by omega)⟩)
  · refine fz_eqi c11 ?_
    refine fz_iload_n kX11_says rfl rfl ?_
    have b84 : 0 ≤ H2 53 46 ∧ H2 53 46 ≤ 1000 := hI6.1 53 _
    refine fz_callV (d' := 2) (M' := mX11_goes) (As := [fz_i b, fz_i 6, fz_i x]) (st := []) kX11_says rfl rfl vX11_goes rfl rfl rfl rfl (Nat.le_of_ble_eq_true rfl) (Nat.le_of_ble_eq_true rfl) (by decide) (sX11_goes_6 H2 hI6 b x (by omega) (by omega)) (fun H85 r86 q87 o88 => ?_)
    obtain ⟨hI89, hf90, y92, rfl, f91⟩ := q87
    clear o88
    have hf93 := fz_fr_tr hf9 hf90 (show fz_su [(53, 46), (82, 99999)] [(53, 46), (82, 99999)] = true from rfl)
    refine fz_iconst ⟨by decide, by decide⟩ kX11_says rfl ?_
    refine fz_imul kX11_says rfl ?_
    refine fz_nmw (fun z94 e95 => ?_)
    exact fz_iret kX11_says rfl rfl (fun _ => ⟨hI89, hf93, _, rfl, (by omega)⟩)
  · refine fz_eqi c11 ?_
    refine fz_iload_n kX11_says rfl rfl ?_
    have b96 : 0 ≤ H2 53 46 ∧ H2 53 46 ≤ 1000 := hI6.1 53 _
    refine fz_callV (d' := 4) (M' := mX11_goes) (As := [fz_i b, fz_i 7, fz_i x]) (st := []) kX11_says rfl rfl vX11_goes rfl rfl rfl rfl (Nat.le_of_ble_eq_true rfl) (Nat.le_of_ble_eq_true rfl) (by decide) (sX11_goes_7 H2 hI6 b x (by omega) (by omega)) (fun H97 r98 q99 o100 => ?_)
    obtain ⟨hI101, hf102, y104, rfl, f103⟩ := q99
    clear o100
    have hf105 := fz_fr_tr hf9 hf102 (show fz_su [(53, 46), (82, 99999)] [(53, 46), (82, 99999)] = true from rfl)
    refine fz_iconst ⟨by decide, by decide⟩ kX11_says rfl ?_
    refine fz_imul kX11_says rfl ?_
    refine fz_nmw (fun z106 e107 => ?_)
    exact fz_iret kX11_says rfl rfl (fun _ => ⟨hI101, hf105, _, rfl, (by omega)⟩)

abbrev qX11_says_1 (h : fz_H) (b x : Int) : fz_H → Option fz_V → Prop := fun h' r0 => fz_Iv h' ∧ fz_fr [(53, 46), (82, 99999)] h h' ∧ ∃ r : Int, r0 = some (fz_i r) ∧ (h' 53 46 ≤ h 53 46 + 3)
set_option maxHeartbeats 1000000 in
set_option maxRecDepth 100000 in
theorem sX11_says_1 (h : fz_H) (hI : fz_Iv h) (b x : Int) (hp0 : 0 ≤ b ∧ b ≤ 49) (hp1 : h 53 46 ≤ 897) : fz_R 6 mX11_says 0 [(0, fz_r 53), (1, fz_i b), (2, fz_i 1), (3, fz_i x)] [] h (qX11_says_1 h b x) := by
  refine fz_knowl (fun hk => ?_)
  have hr_b : -2147483648 ≤ b ∧ b < 2147483648 := hk _ (List.Mem.tail _ (List.Mem.head _))
  have hr_x : -2147483648 ≤ x ∧ x < 2147483648 := hk _ (List.Mem.tail _ (List.Mem.tail _ (List.Mem.tail _ (List.Mem.head _))))
  clear hk
  have hf : fz_fr [(53, 46), (82, 99999)] h h := fz_fr_rf
  have b1 : 0 ≤ h 53 46 ∧ h 53 46 ≤ 1000 := hI.1 53 _
  refine fz_iload_n kX11_says rfl rfl ?_
  refine fz_tswC (j := 1) (tgt := 131) kX11_says rfl rfl (by decide) (by decide) rfl (by decide) ?_
  refine fz_aload_n kX11_says rfl rfl ?_
  refine fz_iload_n kX11_says rfl rfl ?_
  refine fz_iload_n kX11_says rfl rfl ?_
  refine fz_callS (d' := 0) (M' := mX11_above) (As := [fz_i 1]) (st := [fz_i b, fz_r 53]) kX11_says rfl rfl vX11_above rfl rfl (Nat.le_of_ble_eq_true rfl) (Nat.le_of_ble_eq_true rfl) (by decide) (sX11_above_1 h hI  ) (fun H2 r3 q4 o5 => ?_)
  obtain ⟨e6, y8, rfl, f7⟩ := q4
  subst H2
  clear o5
  refine fz_eqi (show y8 = 0 by omega) ?_
  refine fz_iload_n kX11_says rfl rfl ?_
  refine fz_callV (d' := 5) (M' := mX11_says) (As := [fz_i b, fz_i 0, fz_i x]) (st := []) kX11_says rfl rfl vX11_says rfl rfl rfl rfl (Nat.le_of_ble_eq_true rfl) (Nat.le_of_ble_eq_true rfl) (by decide) (sX11_says_0 h hI b x (by omega) (by omega)) (fun H9 r10 q11 o12 => ?_)
  obtain ⟨hI13, hf14, y16, rfl, f15⟩ := q11
  clear o12
  have hf17 := fz_fr_tr hf hf14 (show fz_su [(53, 46), (82, 99999)] [(53, 46), (82, 99999)] = true from rfl)
  exact fz_iret kX11_says rfl rfl (fun _ => ⟨hI13, hf17, _, rfl, (by omega)⟩)

abbrev qX11_says_2 (h : fz_H) (b x : Int) : fz_H → Option fz_V → Prop := fun h' r0 => fz_Iv h' ∧ fz_fr [(53, 46), (82, 99999)] h h' ∧ ∃ r : Int, r0 = some (fz_i r) ∧ (h' 53 46 ≤ h 53 46 + 4)
set_option maxHeartbeats 1000000 in
set_option maxRecDepth 100000 in
theorem sX11_says_2 (h : fz_H) (hI : fz_Iv h) (b x : Int) (hp0 : 0 ≤ b ∧ b ≤ 49) (hp1 : h 53 46 ≤ 896) : fz_R 6 mX11_says 0 [(0, fz_r 53), (1, fz_i b), (2, fz_i 2), (3, fz_i x)] [] h (qX11_says_2 h b x) := by
  refine fz_knowl (fun hk => ?_)
  have hr_b : -2147483648 ≤ b ∧ b < 2147483648 := hk _ (List.Mem.tail _ (List.Mem.head _))
  have hr_x : -2147483648 ≤ x ∧ x < 2147483648 := hk _ (List.Mem.tail _ (List.Mem.tail _ (List.Mem.tail _ (List.Mem.head _))))
  clear hk
  have hf : fz_fr [(53, 46), (82, 99999)] h h := fz_fr_rf
  have b1 : 0 ≤ h 53 46 ∧ h 53 46 ≤ 1000 := hI.1 53 _
  refine fz_iload_n kX11_says rfl rfl ?_
  refine fz_tswC (j := 2) (tgt := 69) kX11_says rfl rfl (by decide) (by decide) rfl (by decide) ?_
  refine fz_aload_n kX11_says rfl rfl ?_
  refine fz_bipush ⟨by decide, by decide⟩ kX11_says rfl ?_
  refine fz_callV (d' := 0) (M' := mX11_ran) (As := [fz_i 30]) (st := []) kX11_says rfl rfl vX11_ran rfl rfl rfl rfl (Nat.le_of_ble_eq_true rfl) (Nat.le_of_ble_eq_true rfl) (by decide) (sX11_ran h hI 30 (by omega)) (fun H2 r3 q4 o5 => ?_)
  obtain ⟨hI6, hf7, rfl, f8⟩ := q4
  clear o5
  have hf9 := fz_fr_tr hf hf7 (show fz_su [(53, 46), (82, 99999)] [(53, 46), (82, 99999)] = true from rfl)
  refine fz_aload_n kX11_says rfl rfl ?_
  refine fz_iload_n kX11_says rfl rfl ?_
  refine fz_iconst ⟨by decide, by decide⟩ kX11_says rfl ?_
  refine fz_iload_n kX11_says rfl rfl ?_
  have b10 : 0 ≤ H2 53 46 ∧ H2 53 46 ≤ 1000 := hI6.1 53 _
  refine fz_callV (d' := 5) (M' := mX11_says) (As := [fz_i b, fz_i 0, fz_i x]) (st := []) kX11_says rfl rfl vX11_says rfl rfl rfl rfl (Nat.le_of_ble_eq_true rfl) (Nat.le_of_ble_eq_true rfl) (by decide) (sX11_says_0 H2 hI6 b x (by omega) (by omega)) (fun H11 r12 q13 o14 => ?_)
  obtain ⟨hI15, hf16, y18, rfl, f17⟩ := q13
  clear o14
  have hf19 := fz_fr_tr hf9 hf16 (show fz_su [(53, 46), (82, 99999)] [(53, 46), (82, 99999)] = true from rfl)
  refine fz_ineg kX11_says rfl ?_
  refine fz_nmw (fun z20 e21 => ?_)
  exact fz_iret kX11_says rfl rfl (fun _ => ⟨hI15, hf19, _, rfl, (by omega)⟩)

abbrev qX11_says_3 (h : fz_H) (b x : Int) : fz_H → Option fz_V → Prop := fun h' r0 => fz_Iv h' ∧ fz_fr [(53, 46), (82, 99999)] h h' ∧ ∃ r : Int, r0 = some (fz_i r) ∧ (h' 53 46 ≤ h 53 46 + 5)
set_option maxHeartbeats 1000000 in
set_option maxRecDepth 100000 in
theorem sX11_says_3 (h : fz_H) (hI : fz_Iv h) (b x : Int) (hp0 : 0 ≤ b ∧ b ≤ 49) (hp1 : h 53 46 ≤ 895) : fz_R 7 mX11_says 0 [(0, fz_r 53), (1, fz_i b), (2, fz_i 3), (3, fz_i x)] [] h (qX11_says_3 h b x) := by
  refine fz_knowl (fun hk => ?_)
  have hr_b : -2147483648 ≤ b ∧ b < 2147483648 := hk _ (List.Mem.tail _ (List.Mem.head _))
  have hr_x : -2147483648 ≤ x ∧ x < 2147483648 := hk _ (List.Mem.tail _ (List.Mem.tail _ (List.Mem.tail _ (List.Mem.head _))))
  clear hk
  have hf : fz_fr [(53, 46), (82, 99999)] h h := fz_fr_rf
  have b1 : 0 ≤ h 53 46 ∧ h 53 46 ≤ 1000 := hI.1 53 _
  refine fz_iload_n kX11_says rfl rfl ?_
  refine fz_tswC (j := 3) (tgt := 84) kX11_says rfl rfl (by decide) (by decide) rfl (by decide) ?_
  refine fz_aload_n kX11_says rfl rfl ?_
  refine fz_bipush ⟨by decide, by decide⟩ kX11_says rfl ?_
  refine fz_callV (d' := 0) (M' := mX11_ran) (As := [fz_i 41]) (st := []) kX11_says rfl rfl vX11_ran rfl rfl rfl rfl (Nat.le_of_ble_eq_true rfl) (Nat.le_of_ble_eq_true rfl) (by decide) (sX11_ran h hI 41 (by omega)) (fun H2 r3 q4 o5 => ?_)
  obtain ⟨hI6, hf7, rfl, f8⟩ := q4
  clear o5
  have hf9 := fz_fr_tr hf hf7 (show fz_su [(53, 46), (82, 99999)] [(53, 46), (82, 99999)] = true from rfl)
  refine fz_aload_n kX11_says rfl rfl ?_
  refine fz_iload_n kX11_says rfl rfl ?_
  refine fz_iconst ⟨by decide, by decide⟩ kX11_says rfl ?_
  refine fz_iload_n kX11_says rfl rfl ?_
  refine fz_iconst ⟨by decide, by decide⟩ kX11_says rfl ?_
  refine fz_iadd kX11_says rfl ?_
  refine fz_nmw (fun z10 e11 => ?_)
  have b12 : 0 ≤ H2 53 46 ∧ H2 53 46 ≤ 1000 := hI6.1 53 _
  refine fz_callV (d' := 6) (M' := mX11_says) (As := [fz_i b, fz_i 2, fz_i z10]) (st := []) kX11_says rfl rfl vX11_says rfl rfl rfl rfl (Nat.le_of_ble_eq_true rfl) (Nat.le_of_ble_eq_true rfl) (by decide) (sX11_says_2 H2 hI6 b z10 (by omega) (by omega)) (fun H13 r14 q15 o16 => ?_)
  obtain ⟨hI17, hf18, y20, rfl, f19⟩ := q15
  clear o16
  have hf21 := fz_fr_tr hf9 hf18 (show fz_su [(53, 46), (82, 99999)] [(53, 46), (82, 99999)] = true from rfl)
  exact fz_iret kX11_says rfl rfl (fun _ => ⟨hI17, hf21, _, rfl, (by omega)⟩)

abbrev qX11_says_4 (h : fz_H) (b x : Int) : fz_H → Option fz_V → Prop := fun h' r0 => fz_Iv h' ∧ fz_fr [(53, 46), (82, 99999)] h h' ∧ ∃ r : Int, r0 = some (fz_i r) ∧ (h' 53 46 ≤ h 53 46 + 3)
set_option maxHeartbeats 1000000 in
set_option maxRecDepth 100000 in
theorem sX11_says_4 (h : fz_H) (hI : fz_Iv h) (b x : Int) (hp0 : 0 ≤ b ∧ b ≤ 49) (hp1 : h 53 46 ≤ 897) : fz_R 7 mX11_says 0 [(0, fz_r 53), (1, fz_i b), (2, fz_i 4), (3, fz_i x)] [] h (qX11_says_4 h b x) := by
  refine fz_knowl (fun hk => ?_)
  have hr_b : -2147483648 ≤ b ∧ b < 2147483648 := hk _ (List.Mem.tail _ (List.Mem.head _))
  have hr_x : -2147483648 ≤ x ∧ x < 2147483648 := hk _ (List.Mem.tail _ (List.Mem.tail _ (List.Mem.tail _ (List.Mem.head _))))
  clear hk
  have hf : fz_fr [(53, 46), (82, 99999)] h h := fz_fr_rf
  have b1 : 0 ≤ h 53 46 ∧ h 53 46 ≤ 1000 := hI.1 53 _
  refine fz_iload_n kX11_says rfl rfl ?_
  refine fz_tswC (j := 4) (tgt := 131) kX11_says rfl rfl (by decide) (by decide) rfl (by decide) ?_
  refine fz_aload_n kX11_says rfl rfl ?_
  refine fz_iload_n kX11_says rfl rfl ?_
  refine fz_iload_n kX11_says rfl rfl ?_
  refine fz_callS (d' := 0) (M' := mX11_above) (As := [fz_i 4]) (st := [fz_i b, fz_r 53]) kX11_says rfl rfl vX11_above rfl rfl (Nat.le_of_ble_eq_true rfl) (Nat.le_of_ble_eq_true rfl) (by decide) (sX11_above_4 h hI  ) (fun H2 r3 q4 o5 => ?_)
  obtain ⟨e6, y8, rfl, f7⟩ := q4
  subst H2
  clear o5
  refine fz_eqi (show y8 = 1 by omega) ?_
  refine fz_iload_n kX11_says rfl rfl ?_
  refine fz_callV (d' := 6) (M' := mX11_says) (As := [fz_i b, fz_i 1, fz_i x]) (st := []) kX11_says rfl rfl vX11_says rfl rfl rfl rfl (Nat.le_of_ble_eq_true rfl) (Nat.le_of_ble_eq_true rfl) (by decide) (sX11_says_1 h hI b x (by omega) (by omega)) (fun H9 r10 q11 o12 => ?_)
  obtain ⟨hI13, hf14, y16, rfl, f15⟩ := q11
  clear o12
  have hf17 := fz_fr_tr hf hf14 (show fz_su [(53, 46), (82, 99999)] [(53, 46), (82, 99999)] = true from rfl)
  exact fz_iret kX11_says rfl rfl (fun _ => ⟨hI13, hf17, _, rfl, (by omega)⟩)

abbrev qX11_says_5 (h : fz_H) (b x : Int) : fz_H → Option fz_V → Prop := fun h' r0 => fz_Iv h' ∧ fz_fr [(53, 46), (82, 99999)] h h' ∧ ∃ r : Int, r0 = some (fz_i r) ∧ (h' 53 46 ≤ h 53 46 + 5)
set_option maxHeartbeats 1000000 in
set_option maxRecDepth 100000 in
theorem sX11_says_5 (h : fz_H) (hI : fz_Iv h) (b x : Int) (hp0 : 0 ≤ b ∧ b ≤ 49) (hp1 : h 53 46 ≤ 895) : fz_R 8 mX11_says 0 [(0, fz_r 53), (1, fz_i b), (2, fz_i 5), (3, fz_i x)] [] h (qX11_says_5 h b x) := by
  refine fz_knowl (fun hk => ?_)
  have hr_b : -2147483648 ≤ b ∧ b < 2147483648 := hk _ (List.Mem.tail _ (List.Mem.head _))
  have hr_x : -2147483648 ≤ x ∧ x < 2147483648 := hk _ (List.Mem.tail _ (List.Mem.tail _ (List.Mem.tail _ (List.Mem.head _))))
  clear hk
  have hf : fz_fr [(53, 46), (82, 99999)] h h := fz_fr_rf
  have b1 : 0 ≤ h 53 46 ∧ h 53 46 ≤ 1000 := hI.1 53 _
  refine fz_iload_n kX11_says rfl rfl ?_
  refine fz_tswC (j := 5) (tgt := 131) kX11_says rfl rfl (by decide) (by decide) rfl (by decide) ?_
  refine fz_aload_n kX11_says rfl rfl ?_
  refine fz_iload_n kX11_says rfl rfl ?_
  refine fz_iload_n kX11_says rfl rfl ?_
  refine fz_callS (d' := 0) (M' := mX11_above) (As := [fz_i 5]) (st := [fz_i b, fz_r 53]) kX11_says rfl rfl vX11_above rfl rfl (Nat.le_of_ble_eq_true rfl) (Nat.le_of_ble_eq_true rfl) (by decide) (sX11_above_5 h hI  ) (fun H2 r3 q4 o5 => ?_)
  obtain ⟨e6, y8, rfl, f7⟩ := q4
  subst H2
  clear o5
  refine fz_eqi (show y8 = 3 by omega) ?_
  refine fz_iload_n kX11_says rfl rfl ?_
  refine fz_callV (d' := 7) (M' := mX11_says) (As := [fz_i b, fz_i 3, fz_i x]) (st := []) kX11_says rfl rfl vX11_says rfl rfl rfl rfl (Nat.le_of_ble_eq_true rfl) (Nat.le_of_ble_eq_true rfl) (by decide) (sX11_says_3 h hI b x (by omega) (by omega)) (fun H9 r10 q11 o12 => ?_)
  obtain ⟨hI13, hf14, y16, rfl, f15⟩ := q11
  clear o12
  have hf17 := fz_fr_tr hf hf14 (show fz_su [(53, 46), (82, 99999)] [(53, 46), (82, 99999)] = true from rfl)
  exact fz_iret kX11_says rfl rfl (fun _ => ⟨hI13, hf17, _, rfl, (by omega)⟩)

abbrev qX11_says_6 (h : fz_H) (b x : Int) : fz_H → Option fz_V → Prop := fun h' r0 => fz_Iv h' ∧ fz_fr [(53, 46), (82, 99999)] h h' ∧ ∃ r : Int, r0 = some (fz_i r) ∧ (h' 53 46 ≤ h 53 46 + 3)
set_option maxHeartbeats 1000000 in
set_option maxRecDepth 100000 in
theorem sX11_says_6 (h : fz_H) (hI : fz_Iv h) (b x : Int) (hp0 : 0 ≤ b ∧ b ≤ 49) (hp1 : h 53 46 ≤ 897) : fz_R 6 mX11_says 0 [(0, fz_r 53), (1, fz_i b), (2, fz_i 6), (3, fz_i x)] [] h (qX11_says_6 h b x) := by
  refine fz_knowl (fun hk => ?_)
  have hr_b : -2147483648 ≤ b ∧ b < 2147483648 := hk _ (List.Mem.tail _ (List.Mem.head _))
  have hr_x : -2147483648 ≤ x ∧ x < 2147483648 := hk _ (List.Mem.tail _ (List.Mem.tail _ (List.Mem.tail _ (List.Mem.head _))))
  clear hk
  have hf : fz_fr [(53, 46), (82, 99999)] h h := fz_fr_rf
  have b1 : 0 ≤ h 53 46 ∧ h 53 46 ≤ 1000 := hI.1 53 _
  refine fz_iload_n kX11_says rfl rfl ?_
  refine fz_tswC (j := 6) (tgt := 131) kX11_says rfl rfl (by decide) (by decide) rfl (by decide) ?_
  refine fz_aload_n kX11_says rfl rfl ?_
  refine fz_iload_n kX11_says rfl rfl ?_
  refine fz_iload_n kX11_says rfl rfl ?_
  refine fz_callS (d' := 0) (M' := mX11_above) (As := [fz_i 6]) (st := [fz_i b, fz_r 53]) kX11_says rfl rfl vX11_above rfl rfl (Nat.le_of_ble_eq_true rfl) (Nat.le_of_ble_eq_true rfl) (by decide) (sX11_above_6 h hI  ) (fun H2 r3 q4 o5 => ?_)
  obtain ⟨e6, y8, rfl, f7⟩ := q4
  subst H2
  clear o5
  refine fz_eqi (show y8 = 0 by omega) ?_
  refine fz_iload_n kX11_says rfl rfl ?_
  refine fz_callV (d' := 5) (M' := mX11_says) (As := [fz_i b, fz_i 0, fz_i x]) (st := []) kX11_says rfl rfl vX11_says rfl rfl rfl rfl (Nat.le_of_ble_eq_true rfl) (Nat.le_of_ble_eq_true rfl) (by decide) (sX11_says_0 h hI b x (by omega) (by omega)) (fun H9 r10 q11 o12 => ?_)
  obtain ⟨hI13, hf14, y16, rfl, f15⟩ := q11
  clear o12
  have hf17 := fz_fr_tr hf hf14 (show fz_su [(53, 46), (82, 99999)] [(53, 46), (82, 99999)] = true from rfl)
  exact fz_iret kX11_says rfl rfl (fun _ => ⟨hI13, hf17, _, rfl, (by omega)⟩)

abbrev qX11_says_7 (h : fz_H) (b x : Int) : fz_H → Option fz_V → Prop := fun h' r0 => fz_Iv h' ∧ fz_fr [(53, 46), (82, 99999)] h h' ∧ ∃ r : Int, r0 = some (fz_i r) ∧ (h' 53 46 ≤ h 53 46 + 8)
set_option maxHeartbeats 1000000 in
set_option maxRecDepth 100000 in
theorem sX11_says_7 (h : fz_H) (hI : fz_Iv h) (b x : Int) (hp0 : 0 ≤ b ∧ b ≤ 49) (hp1 : h 53 46 ≤ 892) : fz_R 8 mX11_says 0 [(0, fz_r 53), (1, fz_i b), (2, fz_i 7), (3, fz_i x)] [] h (qX11_says_7 h b x) := by
  refine fz_knowl (fun hk => ?_)
  have hr_b : -2147483648 ≤ b ∧ b < 2147483648 := hk _ (List.Mem.tail _ (List.Mem.head _))
  have hr_x : -2147483648 ≤ x ∧ x < 2147483648 := hk _ (List.Mem.tail _ (List.Mem.tail _ (List.Mem.tail _ (List.Mem.head _))))
  clear hk
  have hf : fz_fr [(53, 46), (82, 99999)] h h := fz_fr_rf
  have b1 : 0 ≤ h 53 46 ∧ h 53 46 ≤ 1000 := hI.1 53 _
  refine fz_iload_n kX11_says rfl rfl ?_
  refine fz_tswC (j := 7) (tgt := 100) kX11_says rfl rfl (by decide) (by decide) rfl (by decide) ?_
  refine fz_aload_n kX11_says rfl rfl ?_
  refine fz_bipush ⟨by decide, by decide⟩ kX11_says rfl ?_
  refine fz_callV (d' := 0) (M' := mX11_ran) (As := [fz_i 80]) (st := []) kX11_says rfl rfl vX11_ran rfl rfl rfl rfl (Nat.le_of_ble_eq_true rfl) (Nat.le_of_ble_eq_true rfl) (by decide) (sX11_ran h hI 80 (by omega)) (fun H2 r3 q4 o5 => ?_)
  obtain ⟨hI6, hf7, rfl, f8⟩ := q4
  clear o5
  have hf9 := fz_fr_tr hf hf7 (show fz_su [(53, 46), (82, 99999)] [(53, 46), (82, 99999)] = true from rfl)
  refine fz_aload_n kX11_says rfl rfl ?_
  refine fz_iload_n kX11_says rfl rfl ?_
  refine fz_iconst ⟨by decide, by decide⟩ kX11_says rfl ?_
  refine fz_iload_n kX11_says rfl rfl ?_
  have b10 : 0 ≤ H2 53 46 ∧ H2 53 46 ≤ 1000 := hI6.1 53 _
  refine fz_callV (d' := 7) (M' := mX11_says) (As := [fz_i b, fz_i 4, fz_i x]) (st := []) kX11_says rfl rfl vX11_says rfl rfl rfl rfl (Nat.le_of_ble_eq_true rfl) (Nat.le_of_ble_eq_true rfl) (by decide) (sX11_says_4 H2 hI6 b x (by omega) (by omega)) (fun H11 r12 q13 o14 => ?_)
  obtain ⟨hI15, hf16, y18, rfl, f17⟩ := q13
  clear o14
  have hf19 := fz_fr_tr hf9 hf16 (show fz_su [(53, 46), (82, 99999)] [(53, 46), (82, 99999)] = true from rfl)
  refine fz_istore (ls' := [(4, fz_i y18), (0, fz_r 53), (1, fz_i b), (2, fz_i 7), (3, fz_i x)]) kX11_says rfl (by decide) rfl ?_
  refine fz_iload kX11_says rfl rfl ?_
  refine fz_aload_n kX11_says rfl rfl ?_
  refine fz_iload_n kX11_says rfl rfl ?_
  refine fz_aload_n kX11_says rfl rfl ?_
  refine fz_getR (t := 81) kX11_says rfl rfl ?_
  refine fz_iload_n kX11_says rfl rfl ?_
  refine fz_ialdV (n := 50) (v := h 81 (b.toNat)) kX11_says rfl rfl (by omega) (by omega) (hf19 81 _ rfl) ?_
  have b20 : 0 ≤ h 81 (b.toNat) ∧ h 81 (b.toNat) ≤ 7 := hI.1 81 _
  rcases (show (h 81 (b.toNat)) = 0 ∨ (h 81 (b.toNat)) = 1 ∨ (h 81 (b.toNat)) = 2 ∨ (h 81 (b.toNat)) = 3 ∨ (h 81 (b.toNat)) = 4 ∨ (h 81 (b.toNat)) = 5 ∨ (h 81 (b.toNat)) = 6 ∨ (h 81 (b.toNat)) = 7 by omega) with c21 | c21 | c21 | c21 | c21 | c21 | c21 | c21
  · refine fz_eqi c21 ?_
    refine fz_iconst ⟨by decide, by decide⟩ kX11_says rfl ?_
    have b22 : 0 ≤ H11 53 46 ∧ H11 53 46 ≤ 1000 := hI15.1 53 _
    refine fz_callV (d' := 1) (M' := mX11_fades) (As := [fz_i b, fz_i 0, fz_i 2]) (st := [fz_i y18]) kX11_says rfl rfl vX11_fades rfl rfl rfl rfl (Nat.le_of_ble_eq_true rfl) (Nat.le_of_ble_eq_true rfl) (by decide) (sX11_fades_0 H11 hI15 b 2 (by omega) (by omega)) (fun H23 r24 q25 o26 => ?_)
    obtain ⟨hI27, hf28, y30, rfl, f29⟩ := q25
    clear o26
    have hf31 := fz_fr_tr hf19 hf28 (show fz_su [(53, 46), (82, 99999)] [(53, 46), (82, 99999)] = true from rfl)
    refine fz_iadd kX11_says rfl ?_
    refine fz_nmw (fun z32 e33 => ?_)
    exact fz_iret kX11_says rfl rfl (fun _ => ⟨hI27, hf31, _, rfl, (by omega)⟩)
  · refine fz_eqi c21 ?_
    refine fz_iconst ⟨by decide, by decide⟩ kX11_says rfl ?_
    have b34 : 0 ≤ H11 53 46 ∧ H11 53 46 ≤ 1000 := hI15.1 53 _
    refine fz_callV (d' := 2) (M' := mX11_fades) (As := [fz_i b, fz_i 1, fz_i 2]) (st := [fz_i y18]) kX11_says rfl rfl vX11_fades rfl rfl rfl rfl (Nat.le_of_ble_eq_true rfl) (Nat.le_of_ble_eq_true rfl) (by decide) (sX11_fades_1 H11 hI15 b 2 (by omega) (by omega)) (fun H35 r36 q37 o38 => ?_)
    obtain ⟨hI39, hf40, y42, rfl, f41⟩ := q37
    clear o38
    have hf43 := fz_fr_tr hf19 hf40 (show fz_su [(53, 46), (82, 99999)] [(53, 46), (82, 99999)] = true from rfl)
    refine fz_iadd kX11_says rfl ?_
    refine fz_nmw (fun z44 e45 => ?_)
    exact fz_iret kX11_says rfl rfl (fun _ => ⟨hI39, hf43, _, rfl, (by omega)⟩)
  · refine fz_eqi c21 ?_
    refine fz_iconst ⟨by decide, by decide⟩ kX11_says rfl ?_
    have b46 : 0 ≤ H11 53 46 ∧ H11 53 46 ≤ 1000 := hI15.1 53 _
    refine fz_callV (d' := 2) (M' := mX11_fades) (As := [fz_i b, fz_i 2, fz_i 2]) (st := [fz_i y18]) kX11_says rfl rfl vX11_fades rfl rfl rfl rfl (Nat.le_of_ble_eq_true rfl) (Nat.le_of_ble_eq_true rfl) (by decide) (sX11_fades_2 H11 hI15 b 2 (by omega) (by omega)) (fun H47 r48 q49 o50 => ?_)
    obtain ⟨hI51, hf52, y54, rfl, f53⟩ := q49
    clear o50
    have hf55 := fz_fr_tr hf19 hf52 (show fz_su [(53, 46), (82, 99999)] [(53, 46), (82, 99999)] = true from rfl)
    refine fz_iadd kX11_says rfl ?_
    refine fz_nmw (fun z56 e57 => ?_)
    exact fz_iret kX11_says rfl rfl (fun _ => ⟨hI51, hf55, _, rfl, (by omega)⟩)
  · refine fz_eqi c21 ?_
    refine fz_iconst ⟨by decide, by decide⟩ kX11_says rfl ?_
    have b58 : 0 ≤ H11 53 46 ∧ H11 53 46 ≤ 1000 := hI15.1 53 _
    refine fz_callV (d' := 3) (M' := mX11_fades) (As := [fz_i b, fz_i 3, fz_i 2]) (st := [fz_i y18]) kX11_says rfl rfl vX11_fades rfl rfl rfl rfl (Nat.le_of_ble_eq_true rfl) (Nat.le_of_ble_eq_true rfl) (by decide) (sX11_fades_3 H11 hI15 b 2 (by omega) (by omega)) (fun H59 r60 q61 o62 => ?_)
    obtain ⟨hI63, hf64, y66, rfl, f65⟩ := q61
    clear o62
    have hf67 := fz_fr_tr hf19 hf64 (show fz_su [(53, 46), (82, 99999)] [(53, 46), (82, 99999)] = true from rfl)
    refine fz_iadd kX11_says rfl ?_
    refine fz_nmw (fun z68 e69 => ?_)
    exact fz_iret kX11_says rfl rfl (fun _ => ⟨hI63, hf67, _, rfl, (by omega)⟩)
  · refine fz_eqi c21 ?_
    refine fz_iconst ⟨by decide, by decide⟩ kX11_says rfl ?_
    have b70 : 0 ≤ H11 53 46 ∧ H11 53 46 ≤ 1000 := hI15.1 53 _
    refine fz_callV (d' := 5) (M' := mX11_fades) (As := [fz_i b, fz_i 4, fz_i 2]) (st := [fz_i y18]) kX11_says rfl rfl vX11_fades rfl rfl rfl rfl (Nat.le_of_ble_eq_true rfl) (Nat.le_of_ble_eq_true rfl) (by decide) (sX11_fades_4 H11 hI15 b 2 (by omega) (by omega)) (fun H71 r72 q73 o74 => ?_)
    obtain ⟨hI75, hf76, y78, rfl, f77⟩ := q73
    clear o74
    have hf79 := fz_fr_tr hf19 hf76 (show fz_su [(53, 46), (82, 99999)] [(53, 46), (82, 99999)] = true from rfl)
    refine fz_iadd kX11_says rfl ?_
    refine fz_nmw (fun z80 e81 => ?_)
    exact fz_iret kX11_says rfl rfl (fun _ => ⟨hI75, hf79, _, rfl, (by omega)⟩)
  · refine fz_eqi c21 ?_
    refine fz_iconst ⟨by decide, by decide⟩ kX11_says rfl ?_
    have b82 : 0 ≤ H11 53 46 ∧ H11 53 46 ≤ 1000 := hI15.1 53 _
    refine fz_callV (d' := 4) (M' := mX11_fades) (As := [fz_i b, fz_i 5, fz_i 2]) (st := [fz_i y18]) kX11_says rfl rfl vX11_fades rfl rfl rfl rfl (Nat.le_of_ble_eq_true rfl) (Nat.le_of_ble_eq_true rfl) (by decide) (sX11_fades_5 H11 hI15 b 2 (by omega) (by omega)) (fun H83 r84 q85 o86 => ?_)
    obtain ⟨hI87, hf88, y90, rfl, f89⟩ := q85
    clear o86
    have hf91 := fz_fr_tr hf19 hf88 (show fz_su [(53, 46), (82, 99999)] [(53, 46), (82, 99999)] = true from rfl)
    refine fz_iadd kX11_says rfl ?_
    refine fz_nmw (fun z92 e93 => ?_)
    exact fz_iret kX11_says rfl rfl (fun _ => ⟨hI87, hf91, _, rfl, (by omega)⟩)
  · refine fz_eqi c21 ?_
    refine fz_iconst ⟨by decide, by decide⟩ kX11_says rfl ?_
    have b94 : 0 ≤ H11 53 46 ∧ H11 53 46 ≤ 1000 := hI15.1 53 _
    refine fz_callV (d' := 2) (M' := mX11_fades) (As := [fz_i b, fz_i 6, fz_i 2]) (st := [fz_i y18]) kX11_says rfl rfl vX11_fades rfl rfl rfl rfl (Nat.le_of_ble_eq_true rfl) (Nat.le_of_ble_eq_true rfl) (by decide) (sX11_fades_6 H11 hI15 b 2 (by omega) (by omega)) (fun H95 r96 q97 o98 => ?_)
    obtain ⟨hI99, hf100, y102, rfl, f101⟩ := q97
    clear o98
    have hf103 := fz_fr_tr hf19 hf100 (show fz_su [(53, 46), (82, 99999)] [(53, 46), (82, 99999)] = true from rfl)
    refine fz_iadd kX11_says rfl ?_
    refine fz_nmw (fun z104 e105 => ?_)
    exact fz_iret kX11_says rfl rfl (fun _ => ⟨hI99, hf103, _, rfl, (by omega)⟩)
  · refine fz_eqi c21 ?_
    refine fz_iconst ⟨by decide, by decide⟩ kX11_says rfl ?_
    have b106 : 0 ≤ H11 53 46 ∧ H11 53 46 ≤ 1000 := hI15.1 53 _
    refine fz_callV (d' := 6) (M' := mX11_fades) (As := [fz_i b, fz_i 7, fz_i 2]) (st := [fz_i y18]) kX11_says rfl rfl vX11_fades rfl rfl rfl rfl (Nat.le_of_ble_eq_true rfl) (Nat.le_of_ble_eq_true rfl) (by decide) (sX11_fades_7 H11 hI15 b 2 (by omega) (by omega)) (fun H107 r108 q109 o110 => ?_)
    obtain ⟨hI111, hf112, y114, rfl, f113⟩ := q109
    clear o110
    have hf115 := fz_fr_tr hf19 hf112 (show fz_su [(53, 46), (82, 99999)] [(53, 46), (82, 99999)] = true from rfl)
    refine fz_iadd kX11_says rfl ?_
    refine fz_nmw (fun z116 e117 => ?_)
    exact fz_iret kX11_says rfl rfl (fun _ => ⟨hI111, hf115, _, rfl, (by omega)⟩)

abbrev qX11_tells_0 (h : fz_H) (b x : Int) : fz_H → Option fz_V → Prop := fun h' r0 => fz_Iv h' ∧ fz_fr [(53, 46), (82, 99999)] h h' ∧ ∃ r : Int, r0 = some (fz_i r) ∧ (h' 53 46 ≤ h 53 46 + 13)
set_option maxHeartbeats 1000000 in
set_option maxRecDepth 100000 in
theorem sX11_tells_0 (h : fz_H) (hI : fz_Iv h) (b x : Int) (hp0 : 0 ≤ b ∧ b ≤ 49) (hp1 : h 53 46 ≤ 887) : fz_R 9 mX11_tells 0 [(0, fz_r 53), (1, fz_i b), (2, fz_i 0), (3, fz_i x)] [] h (qX11_tells_0 h b x) := by
  refine fz_knowl (fun hk => ?_)
  have hr_b : -2147483648 ≤ b ∧ b < 2147483648 := hk _ (List.Mem.tail _ (List.Mem.head _))
  have hr_x : -2147483648 ≤ x ∧ x < 2147483648 := hk _ (List.Mem.tail _ (List.Mem.tail _ (List.Mem.tail _ (List.Mem.head _))))
  clear hk
  have hf : fz_fr [(53, 46), (82, 99999)] h h := fz_fr_rf
  have b1 : 0 ≤ h 53 46 ∧ h 53 46 ≤ 1000 := hI.1 53 _
  refine fz_iload_n kX11_tells rfl rfl ?_
  refine fz_lsw (tgt := 36) kX11_tells rfl (by decide) (show Op.lookupswitch.offset [(0, 35), (5, 70), (7, 86)] 102 0 = 35 from rfl) (by decide) ?_
  refine fz_aload_n kX11_tells rfl rfl ?_
  refine fz_iconst ⟨by decide, by decide⟩ kX11_tells rfl ?_
  refine fz_callV (d' := 0) (M' := mX11_ran) (As := [fz_i 2]) (st := []) kX11_tells rfl rfl vX11_ran rfl rfl rfl rfl (Nat.le_of_ble_eq_true rfl) (Nat.le_of_ble_eq_true rfl) (by decide) (sX11_ran h hI 2 (by omega)) (fun H2 r3 q4 o5 => ?_)
  obtain ⟨hI6, hf7, rfl, f8⟩ := q4
  clear o5
  have hf9 := fz_fr_tr hf hf7 (show fz_su [(53, 46), (82, 99999)] [(53, 46), (82, 99999)] = true from rfl)
  refine fz_aload_n kX11_tells rfl rfl ?_
  refine fz_iload_n kX11_tells rfl rfl ?_
  refine fz_aload_n kX11_tells rfl rfl ?_
  refine fz_getR (t := 81) kX11_tells rfl rfl ?_
  refine fz_iload_n kX11_tells rfl rfl ?_
  refine fz_ialdV (n := 50) (v := h 81 (b.toNat)) kX11_tells rfl rfl (by omega) (by omega) (hf9 81 _ rfl) ?_
  have b10 : 0 ≤ h 81 (b.toNat) ∧ h 81 (b.toNat) ≤ 7 := hI.1 81 _
  rcases (show (h 81 (b.toNat)) = 0 ∨ (h 81 (b.toNat)) = 1 ∨ (h 81 (b.toNat)) = 2 ∨ (h 81 (b.toNat)) = 3 ∨ (h 81 (b.toNat)) = 4 ∨ (h 81 (b.toNat)) = 5 ∨ (h 81 (b.toNat)) = 6 ∨ (h 81 (b.toNat)) = 7 by omega) with c11 | c11 | c11 | c11 | c11 | c11 | c11 | c11
  · refine fz_eqi c11 ?_
    refine fz_iload_n kX11_tells rfl rfl ?_
    have b12 : 0 ≤ H2 53 46 ∧ H2 53 46 ≤ 1000 := hI6.1 53 _
    refine fz_callV (d' := 5) (M' := mX11_says) (As := [fz_i b, fz_i 0, fz_i x]) (st := []) kX11_tells rfl rfl vX11_says rfl rfl rfl rfl (Nat.le_of_ble_eq_true rfl) (Nat.le_of_ble_eq_true rfl) (by decide) (sX11_says_0 H2 hI6 b x (by omega) (by omega)) (fun H13 r14 q15 o16 => ?_)
    obtain ⟨hI17, hf18, y20, rfl, f19⟩ := q15
    clear o16
    have hf21 := fz_fr_tr hf9 hf18 (show fz_su [(53, 46), (82, 99999)] [(53, 46), (82, 99999)] = true from rfl)
    refine fz_istore (ls' := [(4, fz_i y20), (0, fz_r 53), (1, fz_i b), (2, fz_i 0), (3, fz_i x)]) kX11_tells rfl (by decide) rfl ?_
    refine fz_iload kX11_tells rfl rfl ?_
    refine fz_aload_n kX11_tells rfl rfl ?_
    refine fz_iload_n kX11_tells rfl rfl ?_
    refine fz_aload_n kX11_tells rfl rfl ?_
    refine fz_getR (t := 81) kX11_tells rfl rfl ?_
    refine fz_iload_n kX11_tells rfl rfl ?_
    refine fz_ialdV (n := 50) (v := h 81 (b.toNat)) kX11_tells rfl rfl (by omega) (by omega) (hf21 81 _ rfl) ?_
    refine fz_eqi (show (h 81 (b.toNat)) = 0 by omega) ?_
    refine fz_iconst ⟨by decide, by decide⟩ kX11_tells rfl ?_
    have b22 : 0 ≤ H13 53 46 ∧ H13 53 46 ≤ 1000 := hI17.1 53 _
    refine fz_callV (d' := 1) (M' := mX11_fades) (As := [fz_i b, fz_i 0, fz_i 1]) (st := [fz_i y20]) kX11_tells rfl rfl vX11_fades rfl rfl rfl rfl (Nat.le_of_ble_eq_true rfl) (Nat.le_of_ble_eq_true rfl) (by decide) (sX11_fades_0 H13 hI17 b 1 (by omega) (by omega)) (fun H23 r24 q25 o26 => ?_)
    obtain ⟨hI27, hf28, y30, rfl, f29⟩ := q25
    clear o26
    have hf31 := fz_fr_tr hf21 hf28 (show fz_su [(53, 46), (82, 99999)] [(53, 46), (82, 99999)] = true from rfl)
    refine fz_isub kX11_tells rfl ?_
    refine fz_nmw (fun z32 e33 => ?_)
    exact fz_iret kX11_tells rfl rfl (fun _ => ⟨hI27, hf31, _, rfl, (by omega)⟩)
  · refine fz_eqi c11 ?_
    refine fz_iload_n kX11_tells rfl rfl ?_
    have b34 : 0 ≤ H2 53 46 ∧ H2 53 46 ≤ 1000 := hI6.1 53 _
    refine fz_callV (d' := 6) (M' := mX11_says) (As := [fz_i b, fz_i 1, fz_i x]) (st := []) kX11_tells rfl rfl vX11_says rfl rfl rfl rfl (Nat.le_of_ble_eq_true rfl) (Nat.le_of_ble_eq_true rfl) (by decide) (sX11_says_1 H2 hI6 b x (by omega) (by omega)) (fun H35 r36 q37 o38 => ?_)
    obtain ⟨hI39, hf40, y42, rfl, f41⟩ := q37
    clear o38
    have hf43 := fz_fr_tr hf9 hf40 (show fz_su [(53, 46), (82, 99999)] [(53, 46), (82, 99999)] = true from rfl)
    refine fz_istore (ls' := [(4, fz_i y42), (0, fz_r 53), (1, fz_i b), (2, fz_i 0), (3, fz_i x)]) kX11_tells rfl (by decide) rfl ?_
    refine fz_iload kX11_tells rfl rfl ?_
    refine fz_aload_n kX11_tells rfl rfl ?_
    refine fz_iload_n kX11_tells rfl rfl ?_
    refine fz_aload_n kX11_tells rfl rfl ?_
    refine fz_getR (t := 81) kX11_tells rfl rfl ?_
    refine fz_iload_n kX11_tells rfl rfl ?_
    refine fz_ialdV (n := 50) (v := h 81 (b.toNat)) kX11_tells rfl rfl (by omega) (by omega) (hf43 81 _ rfl) ?_
    refine fz_eqi (show (h 81 (b.toNat)) = 1 by omega) ?_
    refine fz_iconst ⟨by decide, by decide⟩ kX11_tells rfl ?_
    have b44 : 0 ≤ H35 53 46 ∧ H35 53 46 ≤ 1000 := hI39.1 53 _
    refine fz_callV (d' := 2) (M' := mX11_fades) (As := [fz_i b, fz_i 1, fz_i 1]) (st := [fz_i y42]) kX11_tells rfl rfl vX11_fades rfl rfl rfl rfl (Nat.le_of_ble_eq_true rfl) (Nat.le_of_ble_eq_true rfl) (by decide) (sX11_fades_1 H35 hI39 b 1 (by omega) (by omega)) (fun H45 r46 q47 o48 => ?_)
    obtain ⟨hI49, hf50, y52, rfl, f51⟩ := q47
    clear o48
    have hf53 := fz_fr_tr hf43 hf50 (show fz_su [(53, 46), (82, 99999)] [(53, 46), (82, 99999)] = true from rfl)
    refine fz_isub kX11_tells rfl ?_
    refine fz_nmw (fun z54 e55 => ?_)
    exact fz_iret kX11_tells rfl rfl (fun _ => ⟨hI49, hf53, _, rfl, (by omega)⟩)
  · refine fz_eqi c11 ?_
    refine fz_iload_n kX11_tells rfl rfl ?_
    have b56 : 0 ≤ H2 53 46 ∧ H2 53 46 ≤ 1000 := hI6.1 53 _
    refine fz_callV (d' := 6) (M' := mX11_says) (As := [fz_i b, fz_i 2, fz_i x]) (st := []) kX11_tells rfl rfl vX11_says rfl rfl rfl rfl (Nat.le_of_ble_eq_true rfl) (Nat.le_of_ble_eq_true rfl) (by decide) (sX11_says_2 H2 hI6 b x (by omega) (by omega)) (fun H57 r58 q59 o60 => ?_)
    obtain ⟨hI61, hf62, y64, rfl, f63⟩ := q59
    clear o60
    have hf65 := fz_fr_tr hf9 hf62 (show fz_su [(53, 46), (82, 99999)] [(53, 46), (82, 99999)] = true from rfl)
    refine fz_istore (ls' := [(4, fz_i y64), (0, fz_r 53), (1, fz_i b), (2, fz_i 0), (3, fz_i x)]) kX11_tells rfl (by decide) rfl ?_
    refine fz_iload kX11_tells rfl rfl ?_
    refine fz_aload_n kX11_tells rfl rfl ?_
    refine fz_iload_n kX11_tells rfl rfl ?_
    refine fz_aload_n kX11_tells rfl rfl ?_
    refine fz_getR (t := 81) kX11_tells rfl rfl ?_
    refine fz_iload_n kX11_tells rfl rfl ?_
    refine fz_ialdV (n := 50) (v := h 81 (b.toNat)) kX11_tells rfl rfl (by omega) (by omega) (hf65 81 _ rfl) ?_
    refine fz_eqi (show (h 81 (b.toNat)) = 2 by omega) ?_
    refine fz_iconst ⟨by decide, by decide⟩ kX11_tells rfl ?_
    have b66 : 0 ≤ H57 53 46 ∧ H57 53 46 ≤ 1000 := hI61.1 53 _
    refine fz_callV (d' := 2) (M' := mX11_fades) (As := [fz_i b, fz_i 2, fz_i 1]) (st := [fz_i y64]) kX11_tells rfl rfl vX11_fades rfl rfl rfl rfl (Nat.le_of_ble_eq_true rfl) (Nat.le_of_ble_eq_true rfl) (by decide) (sX11_fades_2 H57 hI61 b 1 (by omega) (by omega)) (fun H67 r68 q69 o70 => ?_)
    obtain ⟨hI71, hf72, y74, rfl, f73⟩ := q69
    clear o70
    have hf75 := fz_fr_tr hf65 hf72 (show fz_su [(53, 46), (82, 99999)] [(53, 46), (82, 99999)] = true from rfl)
    refine fz_isub kX11_tells rfl ?_
    refine fz_nmw (fun z76 e77 => ?_)
    exact fz_iret kX11_tells rfl rfl (fun _ => ⟨hI71, hf75, _, rfl, (by omega)⟩)
  · refine fz_eqi c11 ?_
    refine fz_iload_n kX11_tells rfl rfl ?_
    have b78 : 0 ≤ H2 53 46 ∧ H2 53 46 ≤ 1000 := hI6.1 53 _
    refine fz_callV (d' := 7) (M' := mX11_says) (As := [fz_i b, fz_i 3, fz_i x]) (st := []) kX11_tells rfl rfl vX11_says rfl rfl rfl rfl (Nat.le_of_ble_eq_true rfl) (Nat.le_of_ble_eq_true rfl) (by decide) (sX11_says_3 H2 hI6 b x (by omega) (by omega)) (fun H79 r80 q81 o82 => ?_)
    obtain ⟨hI83, hf84, y86, rfl, f85⟩ := q81
    clear o82
    have hf87 := fz_fr_tr hf9 hf84 (show fz_su [(53, 46), (82, 99999)] [(53, 46), (82, 99999)] = true from rfl)
    refine fz_istore (ls' := [(4, fz_i y86), (0, fz_r 53), (1, fz_i b), (2, fz_i 0), (3, fz_i x)]) kX11_tells rfl (by decide) rfl ?_
    refine fz_iload kX11_tells rfl rfl ?_
    refine fz_aload_n kX11_tells rfl rfl ?_
    refine fz_iload_n kX11_tells rfl rfl ?_
    refine fz_aload_n kX11_tells rfl rfl ?_
    refine fz_getR (t := 81) kX11_tells rfl rfl ?_
    refine fz_iload_n kX11_tells rfl rfl ?_
    refine fz_ialdV (n := 50) (v := h 81 (b.toNat)) kX11_tells rfl rfl (by omega) (by omega) (hf87 81 _ rfl) ?_
    refine fz_eqi (show (h 81 (b.toNat)) = 3 by omega) ?_
    refine fz_iconst ⟨by decide, by decide⟩ kX11_tells rfl ?_
    have b88 : 0 ≤ H79 53 46 ∧ H79 53 46 ≤ 1000 := hI83.1 53 _
    refine fz_callV (d' := 3) (M' := mX11_fades) (As := [fz_i b, fz_i 3, fz_i 1]) (st := [fz_i y86]) kX11_tells rfl rfl vX11_fades rfl rfl rfl rfl (Nat.le_of_ble_eq_true rfl) (Nat.le_of_ble_eq_true rfl) (by decide) (sX11_fades_3 H79 hI83 b 1 (by omega) (by omega)) (fun H89 r90 q91 o92 => ?_)
    obtain ⟨hI93, hf94, y96, rfl, f95⟩ := q91
    clear o92
    have hf97 := fz_fr_tr hf87 hf94 (show fz_su [(53, 46), (82, 99999)] [(53, 46), (82, 99999)] = true from rfl)
    refine fz_isub kX11_tells rfl ?_
    refine fz_nmw (fun z98 e99 => ?_)
    exact fz_iret kX11_tells rfl rfl (fun _ => ⟨hI93, hf97, _, rfl, (by omega)⟩)
  · refine fz_eqi c11 ?_
    refine fz_iload_n kX11_tells rfl rfl ?_
    have b100 : 0 ≤ H2 53 46 ∧ H2 53 46 ≤ 1000 := hI6.1 53 _
    refine fz_callV (d' := 7) (M' := mX11_says) (As := [fz_i b, fz_i 4, fz_i x]) (st := []) kX11_tells rfl rfl vX11_says rfl rfl rfl rfl (Nat.le_of_ble_eq_true rfl) (Nat.le_of_ble_eq_true rfl) (by decide) (sX11_says_4 H2 hI6 b x (by omega) (by omega)) (fun H101 r102 q103 o104 => ?_)
    obtain ⟨hI105, hf106, y108, rfl, f107⟩ := q103
    clear o104
    have hf109 := fz_fr_tr hf9 hf106 (show fz_su [(53, 46), (82, 99999)] [(53, 46), (82, 99999)] = true from rfl)
    refine fz_istore (ls' := [(4, fz_i y108), (0, fz_r 53), (1, fz_i b), (2, fz_i 0), (3, fz_i x)]) kX11_tells rfl (by decide) rfl ?_
    refine fz_iload kX11_tells rfl rfl ?_
    refine fz_aload_n kX11_tells rfl rfl ?_
    refine fz_iload_n kX11_tells rfl rfl ?_
    refine fz_aload_n kX11_tells rfl rfl ?_
    refine fz_getR (t := 81) kX11_tells rfl rfl ?_
    refine fz_iload_n kX11_tells rfl rfl ?_
    refine fz_ialdV (n := 50) (v := h 81 (b.toNat)) kX11_tells rfl rfl (by omega) (by omega) (hf109 81 _ rfl) ?_
    refine fz_eqi (show (h 81 (b.toNat)) = 4 by omega) ?_
    refine fz_iconst ⟨by decide, by decide⟩ kX11_tells rfl ?_
    have b110 : 0 ≤ H101 53 46 ∧ H101 53 46 ≤ 1000 := hI105.1 53 _
    refine fz_callV (d' := 5) (M' := mX11_fades) (As := [fz_i b, fz_i 4, fz_i 1]) (st := [fz_i y108]) kX11_tells rfl rfl vX11_fades rfl rfl rfl rfl (Nat.le_of_ble_eq_true rfl) (Nat.le_of_ble_eq_true rfl) (by decide) (sX11_fades_4 H101 hI105 b 1 (by omega) (by omega)) (fun H111 r112 q113 o114 => ?_)
    obtain ⟨hI115, hf116, y118, rfl, f117⟩ := q113
    clear o114
    have hf119 := fz_fr_tr hf109 hf116 (show fz_su [(53, 46), (82, 99999)] [(53, 46), (82, 99999)] = true from rfl)
    refine fz_isub kX11_tells rfl ?_
    refine fz_nmw (fun z120 e121 => ?_)
    exact fz_iret kX11_tells rfl rfl (fun _ => ⟨hI115, hf119, _, rfl, (by omega)⟩)
  · refine fz_eqi c11 ?_
    refine fz_iload_n kX11_tells rfl rfl ?_
    have b122 : 0 ≤ H2 53 46 ∧ H2 53 46 ≤ 1000 := hI6.1 53 _
    refine fz_callV (d' := 8) (M' := mX11_says) (As := [fz_i b, fz_i 5, fz_i x]) (st := []) kX11_tells rfl rfl vX11_says rfl rfl rfl rfl (Nat.le_of_ble_eq_true rfl) (Nat.le_of_ble_eq_true rfl) (by decide) (sX11_says_5 H2 hI6 b x (by omega) (by omega)) (fun H123 r124 q125 o126 => ?_)
    obtain ⟨hI127, hf128, y130, rfl, f129⟩ := q125
    clear o126
    have hf131 := fz_fr_tr hf9 hf128 (show fz_su [(53, 46), (82, 99999)] [(53, 46), (82, 99999)] = true from rfl)
    refine fz_istore (ls' := [(4, fz_i y130), (0, fz_r 53), (1, fz_i b), (2, fz_i 0), (3, fz_i x)]) kX11_tells rfl (by decide) rfl ?_
    refine fz_iload kX11_tells rfl rfl ?_
    refine fz_aload_n kX11_tells rfl rfl ?_
    refine fz_iload_n kX11_tells rfl rfl ?_
    refine fz_aload_n kX11_tells rfl rfl ?_
    refine fz_getR (t := 81) kX11_tells rfl rfl ?_
    refine fz_iload_n kX11_tells rfl rfl ?_
    refine fz_ialdV (n := 50) (v := h 81 (b.toNat)) kX11_tells rfl rfl (by omega) (by omega) (hf131 81 _ rfl) ?_
    refine fz_eqi (show (h 81 (b.toNat)) = 5 by omega) ?_
    refine fz_iconst ⟨by decide, by decide⟩ kX11_tells rfl ?_
    have b132 : 0 ≤ H123 53 46 ∧ H123 53 46 ≤ 1000 := hI127.1 53 _
    refine fz_callV (d' := 4) (M' := mX11_fades) (As := [fz_i b, fz_i 5, fz_i 1]) (st := [fz_i y130]) kX11_tells rfl rfl vX11_fades rfl rfl rfl rfl (Nat.le_of_ble_eq_true rfl) (Nat.le_of_ble_eq_true rfl) (by decide) (sX11_fades_5 H123 hI127 b 1 (by omega) (by omega)) (fun H133 r134 q135 o136 => ?_)
    obtain ⟨hI137, hf138, y140, rfl, f139⟩ := q135
    clear o136
    have hf141 := fz_fr_tr hf131 hf138 (show fz_su [(53, 46), (82, 99999)] [(53, 46), (82, 99999)] = true from rfl)
    refine fz_isub kX11_tells rfl ?_
    refine fz_nmw (fun z142 e143 => ?_)
    exact fz_iret kX11_tells rfl rfl (fun _ => ⟨hI137, hf141, _, rfl, (by omega)⟩)
  · refine fz_eqi c11 ?_
    refine fz_iload_n kX11_tells rfl rfl ?_
    have b144 : 0 ≤ H2 53 46 ∧ H2 53 46 ≤ 1000 := hI6.1 53 _
    refine fz_callV (d' := 6) (M' := mX11_says) (As := [fz_i b, fz_i 6, fz_i x]) (st := []) kX11_tells rfl rfl vX11_says rfl rfl rfl rfl (Nat.le_of_ble_eq_true rfl) (Nat.le_of_ble_eq_true rfl) (by decide) (sX11_says_6 H2 hI6 b x (by omega) (by omega)) (fun H145 r146 q147 o148 => ?_)
    obtain ⟨hI149, hf150, y152, rfl, f151⟩ := q147
    clear o148
    have hf153 := fz_fr_tr hf9 hf150 (show fz_su [(53, 46), (82, 99999)] [(53, 46), (82, 99999)] = true from rfl)
    refine fz_istore (ls' := [(4, fz_i y152), (0, fz_r 53), (1, fz_i b), (2, fz_i 0), (3, fz_i x)]) kX11_tells rfl (by decide) rfl ?_
    refine fz_iload kX11_tells rfl rfl ?_
    refine fz_aload_n kX11_tells rfl rfl ?_
    refine fz_iload_n kX11_tells rfl rfl ?_
    refine fz_aload_n kX11_tells rfl rfl ?_
    refine fz_getR (t := 81) kX11_tells rfl rfl ?_
    refine fz_iload_n kX11_tells rfl rfl ?_
    refine fz_ialdV (n := 50) (v := h 81 (b.toNat)) kX11_tells rfl rfl (by omega) (by omega) (hf153 81 _ rfl) ?_
    refine fz_eqi (show (h 81 (b.toNat)) = 6 by omega) ?_
    refine fz_iconst ⟨by decide, by decide⟩ kX11_tells rfl ?_
    have b154 : 0 ≤ H145 53 46 ∧ H145 53 46 ≤ 1000 := hI149.1 53 _
    refine fz_callV (d' := 2) (M' := mX11_fades) (As := [fz_i b, fz_i 6, fz_i 1]) (st := [fz_i y152]) kX11_tells rfl rfl vX11_fades rfl rfl rfl rfl (Nat.le_of_ble_eq_true rfl) (Nat.le_of_ble_eq_true rfl) (by decide) (sX11_fades_6 H145 hI149 b 1 (by omega) (by omega)) (fun H155 r156 q157 o158 => ?_)
    obtain ⟨hI159, hf160, y162, rfl, f161⟩ := q157
    clear o158
    have hf163 := fz_fr_tr hf153 hf160 (show fz_su [(53, 46), (82, 99999)] [(53, 46), (82, 99999)] = true from rfl)
    refine fz_isub kX11_tells rfl ?_
    refine fz_nmw (fun z164 e165 => ?_)
    exact fz_iret kX11_tells rfl rfl (fun _ => ⟨hI159, hf163, _, rfl, (by omega)⟩)
  · refine fz_eqi c11 ?_
    refine fz_iload_n kX11_tells rfl rfl ?_
    have b166 : 0 ≤ H2 53 46 ∧ H2 53 46 ≤ 1000 := hI6.1 53 _
    refine fz_callV (d' := 8) (M' := mX11_says) (As := [fz_i b, fz_i 7, fz_i x]) (st := []) kX11_tells rfl rfl vX11_says rfl rfl rfl rfl (Nat.le_of_ble_eq_true rfl) (Nat.le_of_ble_eq_true rfl) (by decide) (sX11_says_7 H2 hI6 b x (by omega) (by omega)) (fun H167 r168 q169 o170 => ?_)
    obtain ⟨hI171, hf172, y174, rfl, f173⟩ := q169
    clear o170
    have hf175 := fz_fr_tr hf9 hf172 (show fz_su [(53, 46), (82, 99999)] [(53, 46), (82, 99999)] = true from rfl)
    refine fz_istore (ls' := [(4, fz_i y174), (0, fz_r 53), (1, fz_i b), (2, fz_i 0), (3, fz_i x)]) kX11_tells rfl (by decide) rfl ?_
    refine fz_iload kX11_tells rfl rfl ?_
    refine fz_aload_n kX11_tells rfl rfl ?_
    refine fz_iload_n kX11_tells rfl rfl ?_
    refine fz_aload_n kX11_tells rfl rfl ?_
    refine fz_getR (t := 81) kX11_tells rfl rfl ?_
    refine fz_iload_n kX11_tells rfl rfl ?_
    refine fz_ialdV (n := 50) (v := h 81 (b.toNat)) kX11_tells rfl rfl (by omega) (by omega) (hf175 81 _ rfl) ?_
    refine fz_eqi (show (h 81 (b.toNat)) = 7 by omega) ?_
    refine fz_iconst ⟨by decide, by decide⟩ kX11_tells rfl ?_
    have b176 : 0 ≤ H167 53 46 ∧ H167 53 46 ≤ 1000 := hI171.1 53 _
    refine fz_callV (d' := 6) (M' := mX11_fades) (As := [fz_i b, fz_i 7, fz_i 1]) (st := [fz_i y174]) kX11_tells rfl rfl vX11_fades rfl rfl rfl rfl (Nat.le_of_ble_eq_true rfl) (Nat.le_of_ble_eq_true rfl) (by decide) (sX11_fades_7 H167 hI171 b 1 (by omega) (by omega)) (fun H177 r178 q179 o180 => ?_)
    obtain ⟨hI181, hf182, y184, rfl, f183⟩ := q179
    clear o180
    have hf185 := fz_fr_tr hf175 hf182 (show fz_su [(53, 46), (82, 99999)] [(53, 46), (82, 99999)] = true from rfl)
    refine fz_isub kX11_tells rfl ?_
    refine fz_nmw (fun z186 e187 => ?_)
    exact fz_iret kX11_tells rfl rfl (fun _ => ⟨hI181, hf185, _, rfl, (by omega)⟩)

abbrev qX11_tells_1 (h : fz_H) (b x : Int) : fz_H → Option fz_V → Prop := fun h' r0 => fz_Iv h' ∧ fz_fr [(53, 46), (82, 99999)] h h' ∧ ∃ r : Int, r0 = some (fz_i r) ∧ (h' 53 46 ≤ h 53 46 + 13)
set_option maxHeartbeats 1000000 in
set_option maxRecDepth 100000 in
theorem sX11_tells_1 (h : fz_H) (hI : fz_Iv h) (b x : Int) (hp0 : 0 ≤ b ∧ b ≤ 49) (hp1 : h 53 46 ≤ 887) : fz_R 10 mX11_tells 0 [(0, fz_r 53), (1, fz_i b), (2, fz_i 1), (3, fz_i x)] [] h (qX11_tells_1 h b x) := by
  refine fz_knowl (fun hk => ?_)
  have hr_b : -2147483648 ≤ b ∧ b < 2147483648 := hk _ (List.Mem.tail _ (List.Mem.head _))
  have hr_x : -2147483648 ≤ x ∧ x < 2147483648 := hk _ (List.Mem.tail _ (List.Mem.tail _ (List.Mem.tail _ (List.Mem.head _))))
  clear hk
  have hf : fz_fr [(53, 46), (82, 99999)] h h := fz_fr_rf
  have b1 : 0 ≤ h 53 46 ∧ h 53 46 ≤ 1000 := hI.1 53 _
  refine fz_iload_n kX11_tells rfl rfl ?_
  refine fz_lsw (tgt := 103) kX11_tells rfl (by decide) (show Op.lookupswitch.offset [(0, 35), (5, 70), (7, 86)] 102 1 = 102 from rfl) (by decide) ?_
  refine fz_aload_n kX11_tells rfl rfl ?_
  refine fz_iload_n kX11_tells rfl rfl ?_
  refine fz_iload_n kX11_tells rfl rfl ?_
  refine fz_callS (d' := 0) (M' := mX11_above) (As := [fz_i 1]) (st := [fz_i b, fz_r 53]) kX11_tells rfl rfl vX11_above rfl rfl (Nat.le_of_ble_eq_true rfl) (Nat.le_of_ble_eq_true rfl) (by decide) (sX11_above_1 h hI  ) (fun H2 r3 q4 o5 => ?_)
  obtain ⟨e6, y8, rfl, f7⟩ := q4
  subst H2
  clear o5
  refine fz_eqi (show y8 = 0 by omega) ?_
  refine fz_iload_n kX11_tells rfl rfl ?_
  refine fz_callV (d' := 9) (M' := mX11_tells) (As := [fz_i b, fz_i 0, fz_i x]) (st := []) kX11_tells rfl rfl vX11_tells rfl rfl rfl rfl (Nat.le_of_ble_eq_true rfl) (Nat.le_of_ble_eq_true rfl) (by decide) (sX11_tells_0 h hI b x (by omega) (by omega)) (fun H9 r10 q11 o12 => ?_)
  obtain ⟨hI13, hf14, y16, rfl, f15⟩ := q11
  clear o12
  have hf17 := fz_fr_tr hf hf14 (show fz_su [(53, 46), (82, 99999)] [(53, 46), (82, 99999)] = true from rfl)
  exact fz_iret kX11_tells rfl rfl (fun _ => ⟨hI13, hf17, _, rfl, (by omega)⟩)

abbrev qX11_tells_2 (h : fz_H) (b x : Int) : fz_H → Option fz_V → Prop := fun h' r0 => fz_Iv h' ∧ fz_fr [(53, 46), (82, 99999)] h h' ∧ ∃ r : Int, r0 = some (fz_i r) ∧ (h' 53 46 ≤ h 53 46 + 13)
set_option maxHeartbeats 1000000 in
set_option maxRecDepth 100000 in
theorem sX11_tells_2 (h : fz_H) (hI : fz_Iv h) (b x : Int) (hp0 : 0 ≤ b ∧ b ≤ 49) (hp1 : h 53 46 ≤ 887) : fz_R 10 mX11_tells 0 [(0, fz_r 53), (1, fz_i b), (2, fz_i 2), (3, fz_i x)] [] h (qX11_tells_2 h b x) := by
  refine fz_knowl (fun hk => ?_)
  have hr_b : -2147483648 ≤ b ∧ b < 2147483648 := hk _ (List.Mem.tail _ (List.Mem.head _))
  have hr_x : -2147483648 ≤ x ∧ x < 2147483648 := hk _ (List.Mem.tail _ (List.Mem.tail _ (List.Mem.tail _ (List.Mem.head _))))
  clear hk
  have hf : fz_fr [(53, 46), (82, 99999)] h h := fz_fr_rf
  have b1 : 0 ≤ h 53 46 ∧ h 53 46 ≤ 1000 := hI.1 53 _
  refine fz_iload_n kX11_tells rfl rfl ?_
  refine fz_lsw (tgt := 103) kX11_tells rfl (by decide) (show Op.lookupswitch.offset [(0, 35), (5, 70), (7, 86)] 102 2 = 102 from rfl) (by decide) ?_
  refine fz_aload_n kX11_tells rfl rfl ?_
  refine fz_iload_n kX11_tells rfl rfl ?_
  refine fz_iload_n kX11_tells rfl rfl ?_
  refine fz_callS (d' := 0) (M' := mX11_above) (As := [fz_i 2]) (st := [fz_i b, fz_r 53]) kX11_tells rfl rfl vX11_above rfl rfl (Nat.le_of_ble_eq_true rfl) (Nat.le_of_ble_eq_true rfl) (by decide) (sX11_above_2 h hI  ) (fun H2 r3 q4 o5 => ?_)
  obtain ⟨e6, y8, rfl, f7⟩ := q4
  subst H2
  clear o5
  refine fz_eqi (show y8 = 0 by omega) ?_
  refine fz_iload_n kX11_tells rfl rfl ?_
  refine fz_callV (d' := 9) (M' := mX11_tells) (As := [fz_i b, fz_i 0, fz_i x]) (st := []) kX11_tells rfl rfl vX11_tells rfl rfl rfl rfl (Nat.le_of_ble_eq_true rfl) (Nat.le_of_ble_eq_true rfl) (by decide) (sX11_tells_0 h hI b x (by omega) (by omega)) (fun H9 r10 q11 o12 => ?_)
  obtain ⟨hI13, hf14, y16, rfl, f15⟩ := q11
  clear o12
  have hf17 := fz_fr_tr hf hf14 (show fz_su [(53, 46), (82, 99999)] [(53, 46), (82, 99999)] = true from rfl)
  exact fz_iret kX11_tells rfl rfl (fun _ => ⟨hI13, hf17, _, rfl, (by omega)⟩)

abbrev qX11_tells_3 (h : fz_H) (b x : Int) : fz_H → Option fz_V → Prop := fun h' r0 => fz_Iv h' ∧ fz_fr [(53, 46), (82, 99999)] h h' ∧ ∃ r : Int, r0 = some (fz_i r) ∧ (h' 53 46 ≤ h 53 46 + 13)
set_option maxHeartbeats 1000000 in
set_option maxRecDepth 100000 in
theorem sX11_tells_3 (h : fz_H) (hI : fz_Iv h) (b x : Int) (hp0 : 0 ≤ b ∧ b ≤ 49) (hp1 : h 53 46 ≤ 887) : fz_R 11 mX11_tells 0 [(0, fz_r 53), (1, fz_i b), (2, fz_i 3), (3, fz_i x)] [] h (qX11_tells_3 h b x) := by
  refine fz_knowl (fun hk => ?_)
  have hr_b : -2147483648 ≤ b ∧ b < 2147483648 := hk _ (List.Mem.tail _ (List.Mem.head _))
  have hr_x : -2147483648 ≤ x ∧ x < 2147483648 := hk _ (List.Mem.tail _ (List.Mem.tail _ (List.Mem.tail _ (List.Mem.head _))))
  clear hk
  have hf : fz_fr [(53, 46), (82, 99999)] h h := fz_fr_rf
  have b1 : 0 ≤ h 53 46 ∧ h 53 46 ≤ 1000 := hI.1 53 _
  refine fz_iload_n kX11_tells rfl rfl ?_
  refine fz_lsw (tgt := 103) kX11_tells rfl (by decide) (show Op.lookupswitch.offset [(0, 35), (5, 70), (7, 86)] 102 3 = 102 from rfl) (by decide) ?_
  refine fz_aload_n kX11_tells rfl rfl ?_
  refine fz_iload_n kX11_tells rfl rfl ?_
  refine fz_iload_n kX11_tells rfl rfl ?_
  refine fz_callS (d' := 0) (M' := mX11_above) (As := [fz_i 3]) (st := [fz_i b, fz_r 53]) kX11_tells rfl rfl vX11_above rfl rfl (Nat.le_of_ble_eq_true rfl) (Nat.le_of_ble_eq_true rfl) (by decide) (sX11_above_3 h hI  ) (fun H2 r3 q4 o5 => ?_)
  obtain ⟨e6, y8, rfl, f7⟩ := q4
  subst H2
  clear o5
  refine fz_eqi (show y8 = 2 by omega) ?_
  refine fz_iload_n kX11_tells rfl rfl ?_
  refine fz_callV (d' := 10) (M' := mX11_tells) (As := [fz_i b, fz_i 2, fz_i x]) (st := []) kX11_tells rfl rfl vX11_tells rfl rfl rfl rfl (Nat.le_of_ble_eq_true rfl) (Nat.le_of_ble_eq_true rfl) (by decide) (sX11_tells_2 h hI b x (by omega) (by omega)) (fun H9 r10 q11 o12 => ?_)
  obtain ⟨hI13, hf14, y16, rfl, f15⟩ := q11
  clear o12
  have hf17 := fz_fr_tr hf hf14 (show fz_su [(53, 46), (82, 99999)] [(53, 46), (82, 99999)] = true from rfl)
  exact fz_iret kX11_tells rfl rfl (fun _ => ⟨hI13, hf17, _, rfl, (by omega)⟩)

abbrev qX11_tells_4 (h : fz_H) (b x : Int) : fz_H → Option fz_V → Prop := fun h' r0 => fz_Iv h' ∧ fz_fr [(53, 46), (82, 99999)] h h' ∧ ∃ r : Int, r0 = some (fz_i r) ∧ (h' 53 46 ≤ h 53 46 + 13)
set_option maxHeartbeats 1000000 in
set_option maxRecDepth 100000 in
theorem sX11_tells_4 (h : fz_H) (hI : fz_Iv h) (b x : Int) (hp0 : 0 ≤ b ∧ b ≤ 49) (hp1 : h 53 46 ≤ 887) : fz_R 11 mX11_tells 0 [(0, fz_r 53), (1, fz_i b), (2, fz_i 4), (3, fz_i x)] [] h (qX11_tells_4 h b x) := by
  refine fz_knowl (fun hk => ?_)
  have hr_b : -2147483648 ≤ b ∧ b < 2147483648 := hk _ (List.Mem.tail _ (List.Mem.head _))
  have hr_x : -2147483648 ≤ x ∧ x < 2147483648 := hk _ (List.Mem.tail _ (List.Mem.tail _ (List.Mem.tail _ (List.Mem.head _))))
  clear hk
  have hf : fz_fr [(53, 46), (82, 99999)] h h := fz_fr_rf
  have b1 : 0 ≤ h 53 46 ∧ h 53 46 ≤ 1000 := hI.1 53 _
  refine fz_iload_n kX11_tells rfl rfl ?_
  refine fz_lsw (tgt := 103) kX11_tells rfl (by decide) (show Op.lookupswitch.offset [(0, 35), (5, 70), (7, 86)] 102 4 = 102 from rfl) (by decide) ?_
  refine fz_aload_n kX11_tells rfl rfl ?_
  refine fz_iload_n kX11_tells rfl rfl ?_
  refine fz_iload_n kX11_tells rfl rfl ?_
  refine fz_callS (d' := 0) (M' := mX11_above) (As := [fz_i 4]) (st := [fz_i b, fz_r 53]) kX11_tells rfl rfl vX11_above rfl rfl (Nat.le_of_ble_eq_true rfl) (Nat.le_of_ble_eq_true rfl) (by decide) (sX11_above_4 h hI  ) (fun H2 r3 q4 o5 => ?_)
  obtain ⟨e6, y8, rfl, f7⟩ := q4
  subst H2
  clear o5
  refine fz_eqi (show y8 = 1 by omega) ?_
  refine fz_iload_n kX11_tells rfl rfl ?_
  refine fz_callV (d' := 10) (M' := mX11_tells) (As := [fz_i b, fz_i 1, fz_i x]) (st := []) kX11_tells rfl rfl vX11_tells rfl rfl rfl rfl (Nat.le_of_ble_eq_true rfl) (Nat.le_of_ble_eq_true rfl) (by decide) (sX11_tells_1 h hI b x (by omega) (by omega)) (fun H9 r10 q11 o12 => ?_)
  obtain ⟨hI13, hf14, y16, rfl, f15⟩ := q11
  clear o12
  have hf17 := fz_fr_tr hf hf14 (show fz_su [(53, 46), (82, 99999)] [(53, 46), (82, 99999)] = true from rfl)
  exact fz_iret kX11_tells rfl rfl (fun _ => ⟨hI13, hf17, _, rfl, (by omega)⟩)

abbrev qX11_tells_5 (h : fz_H) (b x : Int) : fz_H → Option fz_V → Prop := fun h' r0 => fz_Iv h' ∧ fz_fr [(53, 46), (82, 99999)] h h' ∧ ∃ r : Int, r0 = some (fz_i r) ∧ (h' 53 46 ≤ h 53 46 + 14)
set_option maxHeartbeats 1000000 in
set_option maxRecDepth 100000 in
theorem sX11_tells_5 (h : fz_H) (hI : fz_Iv h) (b x : Int) (hp0 : 0 ≤ b ∧ b ≤ 49) (hp1 : h 53 46 ≤ 886) : fz_R 12 mX11_tells 0 [(0, fz_r 53), (1, fz_i b), (2, fz_i 5), (3, fz_i x)] [] h (qX11_tells_5 h b x) := by
  refine fz_knowl (fun hk => ?_)
  have hr_b : -2147483648 ≤ b ∧ b < 2147483648 := hk _ (List.Mem.tail _ (List.Mem.head _))
  have hr_x : -2147483648 ≤ x ∧ x < 2147483648 := hk _ (List.Mem.tail _ (List.Mem.tail _ (List.Mem.tail _ (List.Mem.head _))))
  clear hk
  have hf : fz_fr [(53, 46), (82, 99999)] h h := fz_fr_rf
  have b1 : 0 ≤ h 53 46 ∧ h 53 46 ≤ 1000 := hI.1 53 _
  refine fz_iload_n kX11_tells rfl rfl ?_
  refine fz_lsw (tgt := 71) kX11_tells rfl (by decide) (show Op.lookupswitch.offset [(0, 35), (5, 70), (7, 86)] 102 5 = 70 from rfl) (by decide) ?_
  refine fz_aload_n kX11_tells rfl rfl ?_
  refine fz_bipush ⟨by decide, by decide⟩ kX11_tells rfl ?_
  refine fz_callV (d' := 0) (M' := mX11_ran) (As := [fz_i 60]) (st := []) kX11_tells rfl rfl vX11_ran rfl rfl rfl rfl (Nat.le_of_ble_eq_true rfl) (Nat.le_of_ble_eq_true rfl) (by decide) (sX11_ran h hI 60 (by omega)) (fun H2 r3 q4 o5 => ?_)
  obtain ⟨hI6, hf7, rfl, f8⟩ := q4
  clear o5
  have hf9 := fz_fr_tr hf hf7 (show fz_su [(53, 46), (82, 99999)] [(53, 46), (82, 99999)] = true from rfl)
  refine fz_aload_n kX11_tells rfl rfl ?_
  refine fz_iload_n kX11_tells rfl rfl ?_
  refine fz_iconst ⟨by decide, by decide⟩ kX11_tells rfl ?_
  refine fz_iload_n kX11_tells rfl rfl ?_
  have b10 : 0 ≤ H2 53 46 ∧ H2 53 46 ≤ 1000 := hI6.1 53 _
  refine fz_callV (d' := 11) (M' := mX11_tells) (As := [fz_i b, fz_i 3, fz_i x]) (st := []) kX11_tells rfl rfl vX11_tells rfl rfl rfl rfl (Nat.le_of_ble_eq_true rfl) (Nat.le_of_ble_eq_true rfl) (by decide) (sX11_tells_3 H2 hI6 b x (by omega) (by omega)) (fun H11 r12 q13 o14 => ?_)
  obtain ⟨hI15, hf16, y18, rfl, f17⟩ := q13
  clear o14
  have hf19 := fz_fr_tr hf9 hf16 (show fz_su [(53, 46), (82, 99999)] [(53, 46), (82, 99999)] = true from rfl)
  refine fz_iconst ⟨by decide, by decide⟩ kX11_tells rfl ?_
  refine fz_ixor kX11_tells rfl ?_
  have b20 : -2147483648 ≤ (fz_xor y18 5) ∧ (fz_xor y18 5) < 2147483648 := fz_b32 _
  exact fz_iret kX11_tells rfl rfl (fun _ => ⟨hI15, hf19, _, rfl, (by omega)⟩)

abbrev qX11_tells_6 (h : fz_H) (b x : Int) : fz_H → Option fz_V → Prop := fun h' r0 => fz_Iv h' ∧ fz_fr [(53, 46), (82, 99999)] h h' ∧ ∃ r : Int, r0 = some (fz_i r) ∧ (h' 53 46 ≤ h 53 46 + 13)
set_option maxHeartbeats 1000000 in
set_option maxRecDepth 100000 in
theorem sX11_tells_6 (h : fz_H) (hI : fz_Iv h) (b x : Int) (hp0 : 0 ≤ b ∧ b ≤ 49) (hp1 : h 53 46 ≤ 887) : fz_R 10 mX11_tells 0 [(0, fz_r 53), (1, fz_i b), (2, fz_i 6), (3, fz_i x)] [] h (qX11_tells_6 h b x) := by
  refine fz_knowl (fun hk => ?_)
  have hr_b : -2147483648 ≤ b ∧ b < 2147483648 := hk _ (List.Mem.tail _ (List.Mem.head _))
  have hr_x : -2147483648 ≤ x ∧ x < 2147483648 := hk _ (List.Mem.tail _ (List.Mem.tail _ (List.Mem.tail _ (List.Mem.head _))))
  clear hk
  have hf : fz_fr [(53, 46), (82, 99999)] h h := fz_fr_rf
  have b1 : 0 ≤ h 53 46 ∧ h 53 46 ≤ 1000 := hI.1 53 _
  refine fz_iload_n kX11_tells rfl rfl ?_
  refine fz_lsw (tgt := 103) kX11_tells rfl (by decide) (show Op.lookupswitch.offset [(0, 35), (5, 70), (7, 86)] 102 6 = 102 from rfl) (by decide) ?_
  refine fz_aload_n kX11_tells rfl rfl ?_
  refine fz_iload_n kX11_tells rfl rfl ?_
  refine fz_iload_n kX11_tells rfl rfl ?_
  refine fz_callS (d' := 0) (M' := mX11_above) (As := [fz_i 6]) (st := [fz_i b, fz_r 53]) kX11_tells rfl rfl vX11_above rfl rfl (Nat.le_of_ble_eq_true rfl) (Nat.le_of_ble_eq_true rfl) (by decide) (sX11_above_6 h hI  ) (fun H2 r3 q4 o5 => ?_)
  obtain ⟨e6, y8, rfl, f7⟩ := q4
  subst H2
  clear o5
  refine fz_eqi (show y8 = 0 by omega) ?_
  refine fz_iload_n kX11_tells rfl rfl ?_
  refine fz_callV (d' := 9) (M' := mX11_tells) (As := [fz_i b, fz_i 0, fz_i x]) (st := []) kX11_tells rfl rfl vX11_tells rfl rfl rfl rfl (Nat.le_of_ble_eq_true rfl) (Nat.le_of_ble_eq_true rfl) (by decide) (sX11_tells_0 h hI b x (by omega) (by omega)) (fun H9 r10 q11 o12 => ?_)
  obtain ⟨hI13, hf14, y16, rfl, f15⟩ := q11
  clear o12
  have hf17 := fz_fr_tr hf hf14 (show fz_su [(53, 46), (82, 99999)] [(53, 46), (82, 99999)] = true from rfl)
  exact fz_iret kX11_tells rfl rfl (fun _ => ⟨hI13, hf17, _, rfl, (by omega)⟩)

abbrev qX11_tells_7 (h : fz_H) (b x : Int) : fz_H → Option fz_V → Prop := fun h' r0 => fz_Iv h' ∧ fz_fr [(53, 46), (82, 99999)] h h' ∧ ∃ r : Int, r0 = some (fz_i r) ∧ (h' 53 46 ≤ h 53 46 + 14)
set_option maxHeartbeats 1000000 in
set_option maxRecDepth 100000 in
theorem sX11_tells_7 (h : fz_H) (hI : fz_Iv h) (b x : Int) (hp0 : 0 ≤ b ∧ b ≤ 49) (hp1 : h 53 46 ≤ 886) : fz_R 12 mX11_tells 0 [(0, fz_r 53), (1, fz_i b), (2, fz_i 7), (3, fz_i x)] [] h (qX11_tells_7 h b x) := by
  refine fz_knowl (fun hk => ?_)
  have hr_b : -2147483648 ≤ b ∧ b < 2147483648 := hk _ (List.Mem.tail _ (List.Mem.head _))
  have hr_x : -2147483648 ≤ x ∧ x < 2147483648 := hk _ (List.Mem.tail _ (List.Mem.tail _ (List.Mem.tail _ (List.Mem.head _))))
  clear hk
  have hf : fz_fr [(53, 46), (82, 99999)] h h := fz_fr_rf
  have b1 : 0 ≤ h 53 46 ∧ h 53 46 ≤ 1000 := hI.1 53 _
  refine fz_iload_n kX11_tells rfl rfl ?_
  refine fz_lsw (tgt := 87) kX11_tells rfl (by decide) (show Op.lookupswitch.offset [(0, 35), (5, 70), (7, 86)] 102 7 = 86 from rfl) (by decide) ?_
  refine fz_aload_n kX11_tells rfl rfl ?_
  refine fz_bipush ⟨by decide, by decide⟩ kX11_tells rfl ?_
  refine fz_callV (d' := 0) (M' := mX11_ran) (As := [fz_i 81]) (st := []) kX11_tells rfl rfl vX11_ran rfl rfl rfl rfl (Nat.le_of_ble_eq_true rfl) (Nat.le_of_ble_eq_true rfl) (by decide) (sX11_ran h hI 81 (by omega)) (fun H2 r3 q4 o5 => ?_)
  obtain ⟨hI6, hf7, rfl, f8⟩ := q4
  clear o5
  have hf9 := fz_fr_tr hf hf7 (show fz_su [(53, 46), (82, 99999)] [(53, 46), (82, 99999)] = true from rfl)
  refine fz_aload_n kX11_tells rfl rfl ?_
  refine fz_iload_n kX11_tells rfl rfl ?_
  refine fz_iconst ⟨by decide, by decide⟩ kX11_tells rfl ?_
  refine fz_iload_n kX11_tells rfl rfl ?_
  have b10 : 0 ≤ H2 53 46 ∧ H2 53 46 ≤ 1000 := hI6.1 53 _
  refine fz_callV (d' := 11) (M' := mX11_tells) (As := [fz_i b, fz_i 4, fz_i x]) (st := []) kX11_tells rfl rfl vX11_tells rfl rfl rfl rfl (Nat.le_of_ble_eq_true rfl) (Nat.le_of_ble_eq_true rfl) (by decide) (sX11_tells_4 H2 hI6 b x (by omega) (by omega)) (fun H11 r12 q13 o14 => ?_)
  obtain ⟨hI15, hf16, y18, rfl, f17⟩ := q13
  clear o14
  have hf19 := fz_fr_tr hf9 hf16 (show fz_su [(53, 46), (82, 99999)] [(53, 46), (82, 99999)] = true from rfl)
  refine fz_iconst ⟨by decide, by decide⟩ kX11_tells rfl ?_
  refine fz_isub kX11_tells rfl ?_
  refine fz_nmw (fun z20 e21 => ?_)
  exact fz_iret kX11_tells rfl rfl (fun _ => ⟨hI15, hf19, _, rfl, (by omega)⟩)

abbrev qX11_act (h : fz_H) (b ac x : Int) : fz_H → Option fz_V → Prop := fun h' r0 => fz_Iv h' ∧ fz_fr [(53, 46), (82, 99999)] h h' ∧ ∃ r : Int, r0 = some (fz_i r)
set_option maxHeartbeats 1000000 in
set_option maxRecDepth 100000 in
theorem sX11_act (h : fz_H) (hI : fz_Iv h) (b ac x : Int) : fz_R 13 mX11_act 0 [(0, fz_r 53), (1, fz_i b), (2, fz_i ac), (3, fz_i x)] [] h (qX11_act h b ac x) := by
  refine fz_knowl (fun hk => ?_)
  have hr_b : -2147483648 ≤ b ∧ b < 2147483648 := hk _ (List.Mem.tail _ (List.Mem.head _))
  have hr_ac : -2147483648 ≤ ac ∧ ac < 2147483648 := hk _ (List.Mem.tail _ (List.Mem.tail _ (List.Mem.head _)))
  have hr_x : -2147483648 ≤ x ∧ x < 2147483648 := hk _ (List.Mem.tail _ (List.Mem.tail _ (List.Mem.tail _ (List.Mem.head _))))
  clear hk
  have hf : fz_fr [(53, 46), (82, 99999)] h h := fz_fr_rf
  refine fz_aload_n kX11_act rfl rfl ?_
  refine fz_iconst ⟨by decide, by decide⟩ kX11_act rfl ?_
  refine fz_putI kX11_act rfl rfl rfl ?_
  refine fz_nmu (S := [(53, 46), (82, 99999)]) (h0 := h) (fz_Iv_up hI (by decide) (show 0 ≤ 0 by omega) (show 0 ≤ 1000 by omega)) (fz_fr_up hf rfl) (fun H1 hI2 hf3 e4 => ?_)
  have k5 : H1 53 46 = 0 := by rw [e4]; exact fz_up_e
  clear e4
  refine fz_iload_n kX11_act rfl rfl ?_
  refine fz_iconst ⟨by decide, by decide⟩ kX11_act rfl ?_
  refine fz_aload_n kX11_act rfl rfl ?_
  refine fz_getV (v := h 53 44) kX11_act rfl rfl (hf3 53 44 rfl) ?_
  have b6 : 0 ≤ h 53 44 ∧ h 53 44 ≤ 50 := hI.1 53 _
  refine fz_iconst ⟨by decide, by decide⟩ kX11_act rfl ?_
  refine fz_isubN kX11_act rfl (by omega) ?_
  refine fz_callS (d' := 0) (M' := mX11_within) (As := [fz_i b, fz_i 0, fz_i ((h 53 44) - 1)]) (st := []) kX11_act rfl rfl vX11_within rfl rfl (Nat.le_of_ble_eq_true rfl) (Nat.le_of_ble_eq_true rfl) (by decide) (sX11_within H1 hI2 b 0 ((h 53 44) - 1) ) (fun H7 r8 q9 o10 => ?_)
  obtain ⟨e11, y12, rfl, p13⟩ := q9
  subst H7
  clear o10
  rcases p13 with ⟨rfl, c14⟩ | ⟨rfl, c14⟩
  · refine fz_if_eq (tgt := 28) kX11_act rfl (by decide) (fun c15 => ?_) (fun c15 => ?_)
    · exfalso; omega
    · refine fz_iload_n kX11_act rfl rfl ?_
      refine fz_iconst ⟨by decide, by decide⟩ kX11_act rfl ?_
      refine fz_iconst ⟨by decide, by decide⟩ kX11_act rfl ?_
      refine fz_callS (d' := 0) (M' := mX11_within) (As := [fz_i ac, fz_i 0, fz_i 3]) (st := []) kX11_act rfl rfl vX11_within rfl rfl (Nat.le_of_ble_eq_true rfl) (Nat.le_of_ble_eq_true rfl) (by decide) (sX11_within H1 hI2 ac 0 3 ) (fun H16 r17 q18 o19 => ?_)
      obtain ⟨e20, y21, rfl, p22⟩ := q18
      subst H16
      clear o19
      rcases p22 with ⟨rfl, c23⟩ | ⟨rfl, c23⟩
      · refine fz_if_ne (tgt := 30) kX11_act rfl (by decide) (fun c24 => ?_) (fun c24 => ?_)
        · refine fz_aload_n kX11_act rfl rfl ?_
          refine fz_getR (t := 81) kX11_act rfl rfl ?_
          refine fz_iload_n kX11_act rfl rfl ?_
          refine fz_ialdV (n := 50) (v := h 81 (b.toNat)) kX11_act rfl rfl (by omega) (by omega) (hf3 81 _ rfl) ?_
          have b25 : 0 ≤ h 81 (b.toNat) ∧ h 81 (b.toNat) ≤ 7 := hI.1 81 _
          rcases (show (h 81 (b.toNat)) = 0 ∨ (h 81 (b.toNat)) = 1 ∨ (h 81 (b.toNat)) = 2 ∨ (h 81 (b.toNat)) = 3 ∨ (h 81 (b.toNat)) = 4 ∨ (h 81 (b.toNat)) = 5 ∨ (h 81 (b.toNat)) = 6 ∨ (h 81 (b.toNat)) = 7 by omega) with c26 | c26 | c26 | c26 | c26 | c26 | c26 | c26
          · refine fz_eqi c26 ?_
            refine fz_istore (ls' := [(4, fz_i 0), (0, fz_r 53), (1, fz_i b), (2, fz_i ac), (3, fz_i x)]) kX11_act rfl (by decide) rfl ?_
            refine fz_iload_n kX11_act rfl rfl ?_
            refine fz_if_ne (tgt := 53) kX11_act rfl (by decide) (fun c27 => ?_) (fun c27 => ?_)
            · refine fz_iload_n kX11_act rfl rfl ?_
              refine fz_iconst ⟨by decide, by decide⟩ kX11_act rfl ?_
              refine fz_icmp_ne (tgt := 69) kX11_act rfl (by decide) (fun c28 => ?_) (fun c28 => ?_)
              · refine fz_iload_n kX11_act rfl rfl ?_
                refine fz_iconst ⟨by decide, by decide⟩ kX11_act rfl ?_
                refine fz_icmp_ne (tgt := 85) kX11_act rfl (by decide) (fun c29 => ?_) (fun c29 => ?_)
                · refine fz_aload_n kX11_act rfl rfl ?_
                  refine fz_iload_n kX11_act rfl rfl ?_
                  refine fz_iload kX11_act rfl rfl ?_
                  refine fz_iload_n kX11_act rfl rfl ?_
                  have b30 : 0 ≤ H1 53 46 ∧ H1 53 46 ≤ 1000 := hI2.1 53 _
                  refine fz_callV (d' := 9) (M' := mX11_tells) (As := [fz_i b, fz_i 0, fz_i x]) (st := []) kX11_act rfl rfl vX11_tells rfl rfl rfl rfl (Nat.le_of_ble_eq_true rfl) (Nat.le_of_ble_eq_true rfl) (by decide) (sX11_tells_0 H1 hI2 b x (by omega) (by omega)) (fun H31 r32 q33 o34 => ?_)
                  obtain ⟨hI35, hf36, y38, rfl, f37⟩ := q33
                  clear o34
                  have hf39 := fz_fr_tr hf3 hf36 (show fz_su [(53, 46), (82, 99999)] [(53, 46), (82, 99999)] = true from rfl)
                  exact fz_iret kX11_act rfl rfl (fun _ => ⟨hI35, hf39, _, rfl⟩)
                · refine fz_aload_n kX11_act rfl rfl ?_
                  refine fz_iload_n kX11_act rfl rfl ?_
                  refine fz_iload kX11_act rfl rfl ?_
                  refine fz_iload_n kX11_act rfl rfl ?_
                  have b40 : 0 ≤ H1 53 46 ∧ H1 53 46 ≤ 1000 := hI2.1 53 _
                  refine fz_callV (d' := 1) (M' := mX11_fades) (As := [fz_i b, fz_i 0, fz_i x]) (st := []) kX11_act rfl rfl vX11_fades rfl rfl rfl rfl (Nat.le_of_ble_eq_true rfl) (Nat.le_of_ble_eq_true rfl) (by decide) (sX11_fades_0 H1 hI2 b x (by omega) (by omega)) (fun H41 r42 q43 o44 => ?_)
                  obtain ⟨hI45, hf46, y48, rfl, f47⟩ := q43
                  clear o44
                  have hf49 := fz_fr_tr hf3 hf46 (show fz_su [(53, 46), (82, 99999)] [(53, 46), (82, 99999)] = true from rfl)
                  refine fz_goto (tgt := 93) kX11_act rfl (by decide) ?_
                  exact fz_iret kX11_act rfl rfl (fun _ => ⟨hI45, hf49, _, rfl⟩)
              · refine fz_aload_n kX11_act rfl rfl ?_
                refine fz_iload_n kX11_act rfl rfl ?_
                refine fz_iload kX11_act rfl rfl ?_
                refine fz_iload_n kX11_act rfl rfl ?_
                have b50 : 0 ≤ H1 53 46 ∧ H1 53 46 ≤ 1000 := hI2.1 53 _
                refine fz_callV (d' := 5) (M' := mX11_says) (As := [fz_i b, fz_i 0, fz_i x]) (st := []) kX11_act rfl rfl vX11_says rfl rfl rfl rfl (Nat.le_of_ble_eq_true rfl) (Nat.le_of_ble_eq_true rfl) (by decide) (sX11_says_0 H1 hI2 b x (by omega) (by omega)) (fun H51 r52 q53 o54 => ?_)
                obtain ⟨hI55, hf56, y58, rfl, f57⟩ := q53
                clear o54
                have hf59 := fz_fr_tr hf3 hf56 (show fz_su [(53, 46), (82, 99999)] [(53, 46), (82, 99999)] = true from rfl)
                refine fz_goto (tgt := 93) kX11_act rfl (by decide) ?_
                exact fz_iret kX11_act rfl rfl (fun _ => ⟨hI55, hf59, _, rfl⟩)
            · refine fz_aload_n kX11_act rfl rfl ?_
              refine fz_iload_n kX11_act rfl rfl ?_
              refine fz_iload kX11_act rfl rfl ?_
              refine fz_iload_n kX11_act rfl rfl ?_
              have b60 : 0 ≤ H1 53 46 ∧ H1 53 46 ≤ 1000 := hI2.1 53 _
              refine fz_callV (d' := 1) (M' := mX11_goes) (As := [fz_i b, fz_i 0, fz_i x]) (st := []) kX11_act rfl rfl vX11_goes rfl rfl rfl rfl (Nat.le_of_ble_eq_true rfl) (Nat.le_of_ble_eq_true rfl) (by decide) (sX11_goes_0 H1 hI2 b x (by omega) (by omega)) (fun H61 r62 q63 o64 => ?_)
              obtain ⟨hI65, hf66, y68, rfl, f67⟩ := q63
              clear o64
              have hf69 := fz_fr_tr hf3 hf66 (show fz_su [(53, 46), (82, 99999)] [(53, 46), (82, 99999)] = true from rfl)
              refine fz_goto (tgt := 93) kX11_act rfl (by decide) ?_
              exact fz_iret kX11_act rfl rfl (fun _ => ⟨hI65, hf69, _, rfl⟩)
          · refine fz_eqi c26 ?_
            refine fz_istore (ls' := [(4, fz_i 1), (0, fz_r 53), (1, fz_i b), (2, fz_i ac), (3, fz_i x)]) kX11_act rfl (by decide) rfl ?_
            refine fz_iload_n kX11_act rfl rfl ?_
            refine fz_if_ne (tgt := 53) kX11_act rfl (by decide) (fun c70 => ?_) (fun c70 => ?_)
            · refine fz_iload_n kX11_act rfl rfl ?_
              refine fz_iconst ⟨by decide, by decide⟩ kX11_act rfl ?_
              refine fz_icmp_ne (tgt := 69) kX11_act rfl (by decide) (fun c71 => ?_) (fun c71 => ?_)
              · refine fz_iload_n kX11_act rfl rfl ?_
                refine fz_iconst ⟨by decide, by decide⟩ kX11_act rfl ?_
                refine fz_icmp_ne (tgt := 85) kX11_act rfl (by decide) (fun c72 => ?_) (fun c72 => ?_)
                · refine fz_aload_n kX11_act rfl rfl ?_
                  refine fz_iload_n kX11_act rfl rfl ?_
                  refine fz_iload kX11_act rfl rfl ?_
                  refine fz_iload_n kX11_act rfl rfl ?_
                  have b73 : 0 ≤ H1 53 46 ∧ H1 53 46 ≤ 1000 := hI2.1 53 _
                  refine fz_callV (d' := 10) (M' := mX11_tells) (As := [fz_i b, fz_i 1, fz_i x]) (st := []) kX11_act rfl rfl vX11_tells rfl rfl rfl rfl (Nat.le_of_ble_eq_true rfl) (Nat.le_of_ble_eq_true rfl) (by decide) (sX11_tells_1 H1 hI2 b x (by omega) (by omega)) (fun H74 r75 q76 o77 => ?_)
                  obtain ⟨hI78, hf79, y81, rfl, f80⟩ := q76
                  clear o77
                  have hf82 := fz_fr_tr hf3 hf79 (show fz_su [(53, 46), (82, 99999)] [(53, 46), (82, 99999)] = true from rfl)
                  exact fz_iret kX11_act rfl rfl (fun _ => ⟨hI78, hf82, _, rfl⟩)
                · refine fz_aload_n kX11_act rfl rfl ?_
                  refine fz_iload_n kX11_act rfl rfl ?_
                  refine fz_iload kX11_act rfl rfl ?_
                  refine fz_iload_n kX11_act rfl rfl ?_
                  have b83 : 0 ≤ H1 53 46 ∧ H1 53 46 ≤ 1000 := hI2.1 53 _
                  refine fz_callV (d' := 2) (M' := mX11_fades) (As := [fz_i b, fz_i 1, fz_i x]) (st := []) kX11_act rfl rfl vX11_fades rfl rfl rfl rfl (Nat.le_of_ble_eq_true rfl) (Nat.le_of_ble_eq_true rfl) (by decide) (sX11_fades_1 H1 hI2 b x (by omega) (by omega)) (fun H84 r85 q86 o87 => ?_)
                  obtain ⟨hI88, hf89, y91, rfl, f90⟩ := q86
                  clear o87
                  have hf92 := fz_fr_tr hf3 hf89 (show fz_su [(53, 46), (82, 99999)] [(53, 46), (82, 99999)] = true from rfl)
                  refine fz_goto (tgt := 93) kX11_act rfl (by decide) ?_
                  exact fz_iret kX11_act rfl rfl (fun _ => ⟨hI88, hf92, _, rfl⟩)
              · refine fz_aload_n kX11_act rfl rfl ?_
                refine fz_iload_n kX11_act rfl rfl ?_
                refine fz_iload kX11_act rfl rfl ?_
                refine fz_iload_n kX11_act rfl rfl ?_
                have b93 : 0 ≤ H1 53 46 ∧ H1 53 46 ≤ 1000 := hI2.1 53 _
                refine fz_callV (d' := 6) (M' := mX11_says) (As := [fz_i b, fz_i 1, fz_i x]) (st := []) kX11_act rfl rfl vX11_says rfl rfl rfl rfl (Nat.le_of_ble_eq_true rfl) (Nat.le_of_ble_eq_true rfl) (by decide) (sX11_says_1 H1 hI2 b x (by omega) (by omega)) (fun H94 r95 q96 o97 => ?_)
                obtain ⟨hI98, hf99, y101, rfl, f100⟩ := q96
                clear o97
                have hf102 := fz_fr_tr hf3 hf99 (show fz_su [(53, 46), (82, 99999)] [(53, 46), (82, 99999)] = true from rfl)
                refine fz_goto (tgt := 93) kX11_act rfl (by decide) ?_
                exact fz_iret kX11_act rfl rfl (fun _ => ⟨hI98, hf102, _, rfl⟩)
            · refine fz_aload_n kX11_act rfl rfl ?_
              refine fz_iload_n kX11_act rfl rfl ?_
              refine fz_iload kX11_act rfl rfl ?_
              refine fz_iload_n kX11_act rfl rfl ?_
              have b103 : 0 ≤ H1 53 46 ∧ H1 53 46 ≤ 1000 := hI2.1 53 _
              refine fz_callV (d' := 2) (M' := mX11_goes) (As := [fz_i b, fz_i 1, fz_i x]) (st := []) kX11_act rfl rfl vX11_goes rfl rfl rfl rfl (Nat.le_of_ble_eq_true rfl) (Nat.le_of_ble_eq_true rfl) (by decide) (sX11_goes_1 H1 hI2 b x (by omega) (by omega)) (fun H104 r105 q106 o107 => ?_)
              obtain ⟨hI108, hf109, y111, rfl, f110⟩ := q106
              clear o107
              have hf112 := fz_fr_tr hf3 hf109 (show fz_su [(53, 46), (82, 99999)] [(53, 46), (82, 99999)] = true from rfl)
              refine fz_goto (tgt := 93) kX11_act rfl (by decide) ?_
              exact fz_iret kX11_act rfl rfl (fun _ => ⟨hI108, hf112, _, rfl⟩)
          · refine fz_eqi c26 ?_
            refine fz_istore (ls' := [(4, fz_i 2), (0, fz_r 53), (1, fz_i b), (2, fz_i ac), (3, fz_i x)]) kX11_act rfl (by decide) rfl ?_
            refine fz_iload_n kX11_act rfl rfl ?_
            refine fz_if_ne (tgt := 53) kX11_act rfl (by decide) (fun c113 => ?_) (fun c113 => ?_)
            · refine fz_iload_n kX11_act rfl rfl ?_
              refine fz_iconst ⟨by decide, by decide⟩ kX11_act rfl ?_
              refine fz_icmp_ne (tgt := 69) kX11_act rfl (by decide) (fun c114 => ?_) (fun c114 => ?_)
              · refine fz_iload_n kX11_act rfl rfl ?_
                refine fz_iconst ⟨by decide, by decide⟩ kX11_act rfl ?_
                refine fz_icmp_ne (tgt := 85) kX11_act rfl (by decide) (fun c115 => ?_) (fun c115 => ?_)
                · refine fz_aload_n kX11_act rfl rfl ?_
                  refine fz_iload_n kX11_act rfl rfl ?_
                  refine fz_iload kX11_act rfl rfl ?_
                  refine fz_iload_n kX11_act rfl rfl ?_
                  have b116 : 0 ≤ H1 53 46 ∧ H1 53 46 ≤ 1000 := hI2.1 53 _
                  refine fz_callV (d' := 10) (M' := mX11_tells) (As := [fz_i b, fz_i 2, fz_i x]) (st := []) kX11_act rfl rfl vX11_tells rfl rfl rfl rfl (Nat.le_of_ble_eq_true rfl) (Nat.le_of_ble_eq_true rfl) (by decide) (sX11_tells_2 H1 hI2 b x (by omega) (by omega)) (fun H117 r118 q119 o120 => ?_)
                  obtain ⟨hI121, hf122, y124, rfl, f123⟩ := q119
                  clear o120
                  have hf125 := fz_fr_tr hf3 hf122 (show fz_su [(53, 46), (82, 99999)] [(53, 46), (82, 99999)] = true from rfl)
                  exact fz_iret kX11_act rfl rfl (fun _ => ⟨hI121, hf125, _, rfl⟩)
                · refine fz_aload_n kX11_act rfl rfl ?_
                  refine fz_iload_n kX11_act rfl rfl ?_
                  refine fz_iload kX11_act rfl rfl ?_
                  refine fz_iload_n kX11_act rfl rfl ?_
                  have b126 : 0 ≤ H1 53 46 ∧ H1 53 46 ≤ 1000 := hI2.1 53 _
                  refine fz_callV (d' := 2) (M' := mX11_fades) (As := [fz_i b, fz_i 2, fz_i x]) (st := []) kX11_act rfl rfl vX11_fades rfl rfl rfl rfl (Nat.le_of_ble_eq_true rfl) (Nat.le_of_ble_eq_true rfl) (by decide) (sX11_fades_2 H1 hI2 b x (by omega) (by omega)) (fun H127 r128 q129 o130 => ?_)
                  obtain ⟨hI131, hf132, y134, rfl, f133⟩ := q129
                  clear o130
                  have hf135 := fz_fr_tr hf3 hf132 (show fz_su [(53, 46), (82, 99999)] [(53, 46), (82, 99999)] = true from rfl)
                  refine fz_goto (tgt := 93) kX11_act rfl (by decide) ?_
                  exact fz_iret kX11_act rfl rfl (fun _ => ⟨hI131, hf135, _, rfl⟩)
              · refine fz_aload_n kX11_act rfl rfl ?_
                refine fz_iload_n kX11_act rfl rfl ?_
                refine fz_iload kX11_act rfl rfl ?_
                refine fz_iload_n kX11_act rfl rfl ?_
                have b136 : 0 ≤ H1 53 46 ∧ H1 53 46 ≤ 1000 := hI2.1 53 _
                refine fz_callV (d' := 6) (M' := mX11_says) (As := [fz_i b, fz_i 2, fz_i x]) (st := []) kX11_act rfl rfl vX11_says rfl rfl rfl rfl (Nat.le_of_ble_eq_true rfl) (Nat.le_of_ble_eq_true rfl) (by decide) (sX11_says_2 H1 hI2 b x (by omega) (by omega)) (fun H137 r138 q139 o140 => ?_)
                obtain ⟨hI141, hf142, y144, rfl, f143⟩ := q139
                clear o140
                have hf145 := fz_fr_tr hf3 hf142 (show fz_su [(53, 46), (82, 99999)] [(53, 46), (82, 99999)] = true from rfl)
                refine fz_goto (tgt := 93) kX11_act rfl (by decide) ?_
                exact fz_iret kX11_act rfl rfl (fun _ => ⟨hI141, hf145, _, rfl⟩)
            · refine fz_aload_n kX11_act rfl rfl ?_
              refine fz_iload_n kX11_act rfl rfl ?_
              refine fz_iload kX11_act rfl rfl ?_
              refine fz_iload_n kX11_act rfl rfl ?_
              have b146 : 0 ≤ H1 53 46 ∧ H1 53 46 ≤ 1000 := hI2.1 53 _
              refine fz_callV (d' := 2) (M' := mX11_goes) (As := [fz_i b, fz_i 2, fz_i x]) (st := []) kX11_act rfl rfl vX11_goes rfl rfl rfl rfl (Nat.le_of_ble_eq_true rfl) (Nat.le_of_ble_eq_true rfl) (by decide) (sX11_goes_2 H1 hI2 b x (by omega) (by omega)) (fun H147 r148 q149 o150 => ?_)
              obtain ⟨hI151, hf152, y154, rfl, f153⟩ := q149
              clear o150
              have hf155 := fz_fr_tr hf3 hf152 (show fz_su [(53, 46), (82, 99999)] [(53, 46), (82, 99999)] = true from rfl)
              refine fz_goto (tgt := 93) kX11_act rfl (by decide) ?_
              exact fz_iret kX11_act rfl rfl (fun _ => ⟨hI151, hf155, _, rfl⟩)
          · refine fz_eqi c26 ?_
            refine fz_istore (ls' := [(4, fz_i 3), (0, fz_r 53), (1, fz_i b), (2, fz_i ac), (3, fz_i x)]) kX11_act rfl (by decide) rfl ?_
            refine fz_iload_n kX11_act rfl rfl ?_
            refine fz_if_ne (tgt := 53) kX11_act rfl (by decide) (fun c156 => ?_) (fun c156 => ?_)
            · refine fz_iload_n kX11_act rfl rfl ?_
              refine fz_iconst ⟨by decide, by decide⟩ kX11_act rfl ?_
              refine fz_icmp_ne (tgt := 69) kX11_act rfl (by decide) (fun c157 => ?_) (fun c157 => ?_)
              · refine fz_iload_n kX11_act rfl rfl ?_
                refine fz_iconst ⟨by decide, by decide⟩ kX11_act rfl ?_
                refine fz_icmp_ne (tgt := 85) kX11_act rfl (by decide) (fun c158 => ?_) (fun c158 => ?_)
                · refine fz_aload_n kX11_act rfl rfl ?_
                  refine fz_iload_n kX11_act rfl rfl ?_
                  refine fz_iload kX11_act rfl rfl ?_
                  refine fz_iload_n kX11_act rfl rfl ?_
                  have b159 : 0 ≤ H1 53 46 ∧ H1 53 46 ≤ 1000 := hI2.1 53 _
                  refine fz_callV (d' := 11) (M' := mX11_tells) (As := [fz_i b, fz_i 3, fz_i x]) (st := []) kX11_act rfl rfl vX11_tells rfl rfl rfl rfl (Nat.le_of_ble_eq_true rfl) (Nat.le_of_ble_eq_true rfl) (by decide) (sX11_tells_3 H1 hI2 b x (by omega) (by omega)) (fun H160 r161 q162 o163 => ?_)
                  obtain ⟨hI164, hf165, y167, rfl, f166⟩ := q162
                  clear o163
                  have hf168 := fz_fr_tr hf3 hf165 (show fz_su [(53, 46), (82, 99999)] [(53, 46), (82, 99999)] = true from rfl)
                  exact fz_iret kX11_act rfl rfl (fun _ => ⟨hI164, hf168, _, rfl⟩)
                · refine fz_aload_n kX11_act rfl rfl ?_
                  refine fz_iload_n kX11_act rfl rfl ?_
                  refine fz_iload kX11_act rfl rfl ?_
                  refine fz_iload_n kX11_act rfl rfl ?_
                  have b169 : 0 ≤ H1 53 46 ∧ H1 53 46 ≤ 1000 := hI2.1 53 _
                  refine fz_callV (d' := 3) (M' := mX11_fades) (As := [fz_i b, fz_i 3, fz_i x]) (st := []) kX11_act rfl rfl vX11_fades rfl rfl rfl rfl (Nat.le_of_ble_eq_true rfl) (Nat.le_of_ble_eq_true rfl) (by decide) (sX11_fades_3 H1 hI2 b x (by omega) (by omega)) (fun H170 r171 q172 o173 => ?_)
                  obtain ⟨hI174, hf175, y177, rfl, f176⟩ := q172
                  clear o173
                  have hf178 := fz_fr_tr hf3 hf175 (show fz_su [(53, 46), (82, 99999)] [(53, 46), (82, 99999)] = true from rfl)
                  refine fz_goto (tgt := 93) kX11_act rfl (by decide) ?_
                  exact fz_iret kX11_act rfl rfl (fun _ => ⟨hI174, hf178, _, rfl⟩)
              · refine fz_aload_n kX11_act rfl rfl ?_
                refine fz_iload_n kX11_act rfl rfl ?_
                refine fz_iload kX11_act rfl rfl ?_
                refine fz_iload_n kX11_act rfl rfl ?_
                have b179 : 0 ≤ H1 53 46 ∧ H1 53 46 ≤ 1000 := hI2.1 53 _
                refine fz_callV (d' := 7) (M' := mX11_says) (As := [fz_i b, fz_i 3, fz_i x]) (st := []) kX11_act rfl rfl vX11_says rfl rfl rfl rfl (Nat.le_of_ble_eq_true rfl) (Nat.le_of_ble_eq_true rfl) (by decide) (sX11_says_3 H1 hI2 b x (by omega) (by omega)) (fun H180 r181 q182 o183 => ?_)
                obtain ⟨hI184, hf185, y187, rfl, f186⟩ := q182
                clear o183
                have hf188 := fz_fr_tr hf3 hf185 (show fz_su [(53, 46), (82, 99999)] [(53, 46), (82, 99999)] = true from rfl)
                refine fz_goto (tgt := 93) kX11_act rfl (by decide) ?_
                exact fz_iret kX11_act rfl rfl (fun _ => ⟨hI184, hf188, _, rfl⟩)
            · refine fz_aload_n kX11_act rfl rfl ?_
              refine fz_iload_n kX11_act rfl rfl ?_
              refine fz_iload kX11_act rfl rfl ?_
              refine fz_iload_n kX11_act rfl rfl ?_
              have b189 : 0 ≤ H1 53 46 ∧ H1 53 46 ≤ 1000 := hI2.1 53 _
              refine fz_callV (d' := 3) (M' := mX11_goes) (As := [fz_i b, fz_i 3, fz_i x]) (st := []) kX11_act rfl rfl vX11_goes rfl rfl rfl rfl (Nat.le_of_ble_eq_true rfl) (Nat.le_of_ble_eq_true rfl) (by decide) (sX11_goes_3 H1 hI2 b x (by omega) (by omega)) (fun H190 r191 q192 o193 => ?_)
              obtain ⟨hI194, hf195, y197, rfl, f196⟩ := q192
              clear o193
              have hf198 := fz_fr_tr hf3 hf195 (show fz_su [(53, 46), (82, 99999)] [(53, 46), (82, 99999)] = true from rfl)
              refine fz_goto (tgt := 93) kX11_act rfl (by decide) ?_
              exact fz_iret kX11_act rfl rfl (fun _ => ⟨hI194, hf198, _, rfl⟩)
          · refine fz_eqi c26 ?_
            refine fz_istore (ls' := [(4, fz_i 4), (0, fz_r 53), (1, fz_i b), (2, fz_i ac), (3, fz_i x)]) kX11_act rfl (by decide) rfl ?_
            refine fz_iload_n kX11_act rfl rfl ?_
            refine fz_if_ne (tgt := 53) kX11_act rfl (by decide) (fun c199 => ?_) (fun c199 => ?_)
            · refine fz_iload_n kX11_act rfl rfl ?_
              refine fz_iconst ⟨by decide, by decide⟩ kX11_act rfl ?_
              refine fz_icmp_ne (tgt := 69) kX11_act rfl (by decide) (fun c200 => ?_) (fun c200 => ?_)
              · refine fz_iload_n kX11_act rfl rfl ?_
                refine fz_iconst ⟨by decide, by decide⟩ kX11_act rfl ?_
                refine fz_icmp_ne (tgt := 85) kX11_act rfl (by decide) (fun c201 => ?_) (fun c201 => ?_)
                · refine fz_aload_n kX11_act rfl rfl ?_
                  refine fz_iload_n kX11_act rfl rfl ?_
                  refine fz_iload kX11_act rfl rfl ?_
                  refine fz_iload_n kX11_act rfl rfl ?_
                  have b202 : 0 ≤ H1 53 46 ∧ H1 53 46 ≤ 1000 := hI2.1 53 _
                  refine fz_callV (d' := 11) (M' := mX11_tells) (As := [fz_i b, fz_i 4, fz_i x]) (st := []) kX11_act rfl rfl vX11_tells rfl rfl rfl rfl (Nat.le_of_ble_eq_true rfl) (Nat.le_of_ble_eq_true rfl) (by decide) (sX11_tells_4 H1 hI2 b x (by omega) (by omega)) (fun H203 r204 q205 o206 => ?_)
                  obtain ⟨hI207, hf208, y210, rfl, f209⟩ := q205
                  clear o206
                  have hf211 := fz_fr_tr hf3 hf208 (show fz_su [(53, 46), (82, 99999)] [(53, 46), (82, 99999)] = true from rfl)
                  exact fz_iret kX11_act rfl rfl (fun _ => ⟨hI207, hf211, _, rfl⟩)
                · refine fz_aload_n kX11_act rfl rfl ?_
                  refine fz_iload_n kX11_act rfl rfl ?_
                  refine fz_iload kX11_act rfl rfl ?_
                  refine fz_iload_n kX11_act rfl rfl ?_
                  have b212 : 0 ≤ H1 53 46 ∧ H1 53 46 ≤ 1000 := hI2.1 53 _
                  refine fz_callV (d' := 5) (M' := mX11_fades) (As := [fz_i b, fz_i 4, fz_i x]) (st := []) kX11_act rfl rfl vX11_fades rfl rfl rfl rfl (Nat.le_of_ble_eq_true rfl) (Nat.le_of_ble_eq_true rfl) (by decide) (sX11_fades_4 H1 hI2 b x (by omega) (by omega)) (fun H213 r214 q215 o216 => ?_)
                  obtain ⟨hI217, hf218, y220, rfl, f219⟩ := q215
                  clear o216
                  have hf221 := fz_fr_tr hf3 hf218 (show fz_su [(53, 46), (82, 99999)] [(53, 46), (82, 99999)] = true from rfl)
                  refine fz_goto (tgt := 93) kX11_act rfl (by decide) ?_
                  exact fz_iret kX11_act rfl rfl (fun _ => ⟨hI217, hf221, _, rfl⟩)
              · refine fz_aload_n kX11_act rfl rfl ?_
                refine fz_iload_n kX11_act rfl rfl ?_
                refine fz_iload kX11_act rfl rfl ?_
                refine fz_iload_n kX11_act rfl rfl ?_
                have b222 : 0 ≤ H1 53 46 ∧ H1 53 46 ≤ 1000 := hI2.1 53 _
                refine fz_callV (d' := 7) (M' := mX11_says) (As := [fz_i b, fz_i 4, fz_i x]) (st := []) kX11_act rfl rfl vX11_says rfl rfl rfl rfl (Nat.le_of_ble_eq_true rfl) (Nat.le_of_ble_eq_true rfl) (by decide) (sX11_says_4 H1 hI2 b x (by omega) (by omega)) (fun H223 r224 q225 o226 => ?_)
                obtain ⟨hI227, hf228, y230, rfl, f229⟩ := q225
                clear o226
                have hf231 := fz_fr_tr hf3 hf228 (show fz_su [(53, 46), (82, 99999)] [(53, 46), (82, 99999)] = true from rfl)
                refine fz_goto (tgt := 93) kX11_act rfl (by decide) ?_
                exact fz_iret kX11_act rfl rfl (fun _ => ⟨hI227, hf231, _, rfl⟩)
            · refine fz_aload_n kX11_act rfl rfl ?_
              refine fz_iload_n kX11_act rfl rfl ?_
              refine fz_iload kX11_act rfl rfl ?_
              refine fz_iload_n kX11_act rfl rfl ?_
              have b232 : 0 ≤ H1 53 46 ∧ H1 53 46 ≤ 1000 := hI2.1 53 _
              refine fz_callV (d' := 3) (M' := mX11_goes) (As := [fz_i b, fz_i 4, fz_i x]) (st := []) kX11_act rfl rfl vX11_goes rfl rfl rfl rfl (Nat.le_of_ble_eq_true rfl) (Nat.le_of_ble_eq_true rfl) (by decide) (sX11_goes_4 H1 hI2 b x (by omega) (by omega)) (fun H233 r234 q235 o236 => ?_)
              obtain ⟨hI237, hf238, y240, rfl, f239⟩ := q235
              clear o236
              have hf241 := fz_fr_tr hf3 hf238 (show fz_su [(53, 46), (82, 99999)] [(53, 46), (82, 99999)] = true from rfl)
              refine fz_goto (tgt := 93) kX11_act rfl (by decide) ?_
              exact fz_iret kX11_act rfl rfl (fun _ => ⟨hI237, hf241, _, rfl⟩)
          · refine fz_eqi c26 ?_
            refine fz_istore (ls' := [(4, fz_i 5), (0, fz_r 53), (1, fz_i b), (2, fz_i ac), (3, fz_i x)]) kX11_act rfl (by decide) rfl ?_
            refine fz_iload_n kX11_act rfl rfl ?_
            refine fz_if_ne (tgt := 53) kX11_act rfl (by decide) (fun c242 => ?_) (fun c242 => ?_)
            · refine fz_iload_n kX11_act rfl rfl ?_
              refine fz_iconst ⟨by decide, by decide⟩ kX11_act rfl ?_
              refine fz_icmp_ne (tgt := 69) kX11_act rfl (by decide) (fun c243 => ?_) (fun c243 => ?_)
              · refine fz_iload_n kX11_act rfl rfl ?_
                refine fz_iconst ⟨by decide, by decide⟩ kX11_act rfl ?_
                refine fz_icmp_ne (tgt := 85) kX11_act rfl (by decide) (fun c244 => ?_) (fun c244 => ?_)
                · refine fz_aload_n kX11_act rfl rfl ?_
                  refine fz_iload_n kX11_act rfl rfl ?_
                  refine fz_iload kX11_act rfl rfl ?_
                  refine fz_iload_n kX11_act rfl rfl ?_
                  have b245 : 0 ≤ H1 53 46 ∧ H1 53 46 ≤ 1000 := hI2.1 53 _
                  refine fz_callV (d' := 12) (M' := mX11_tells) (As := [fz_i b, fz_i 5, fz_i x]) (st := []) kX11_act rfl rfl vX11_tells rfl rfl rfl rfl (Nat.le_of_ble_eq_true rfl) (Nat.le_of_ble_eq_true rfl) (by decide) (sX11_tells_5 H1 hI2 b x (by omega) (by omega)) (fun H246 r247 q248 o249 => ?_)
                  obtain ⟨hI250, hf251, y253, rfl, f252⟩ := q248
                  clear o249
                  have hf254 := fz_fr_tr hf3 hf251 (show fz_su [(53, 46), (82, 99999)] [(53, 46), (82, 99999)] = true from rfl)
                  exact fz_iret kX11_act rfl rfl (fun _ => ⟨hI250, hf254, _, rfl⟩)
                · refine fz_aload_n kX11_act rfl rfl ?_
                  refine fz_iload_n kX11_act rfl rfl ?_
                  refine fz_iload kX11_act rfl rfl ?_
                  refine fz_iload_n kX11_act rfl rfl ?_
                  have b255 : 0 ≤ H1 53 46 ∧ H1 53 46 ≤ 1000 := hI2.1 53 _
                  refine fz_callV (d' := 4) (M' := mX11_fades) (As := [fz_i b, fz_i 5, fz_i x]) (st := []) kX11_act rfl rfl vX11_fades rfl rfl rfl rfl (Nat.le_of_ble_eq_true rfl) (Nat.le_of_ble_eq_true rfl) (by decide) (sX11_fades_5 H1 hI2 b x (by omega) (by omega)) (fun H256 r257 q258 o259 => ?_)
                  obtain ⟨hI260, hf261, y263, rfl, f262⟩ := q258
                  clear o259
                  have hf264 := fz_fr_tr hf3 hf261 (show fz_su [(53, 46), (82, 99999)] [(53, 46), (82, 99999)] = true from rfl)
                  refine fz_goto (tgt := 93) kX11_act rfl (by decide) ?_
                  exact fz_iret kX11_act rfl rfl (fun _ => ⟨hI260, hf264, _, rfl⟩)
              · refine fz_aload_n kX11_act rfl rfl ?_
                refine fz_iload_n kX11_act rfl rfl ?_
                refine fz_iload kX11_act rfl rfl ?_
                refine fz_iload_n kX11_act rfl rfl ?_
                have b265 : 0 ≤ H1 53 46 ∧ H1 53 46 ≤ 1000 := hI2.1 53 _
                refine fz_callV (d' := 8) (M' := mX11_says) (As := [fz_i b, fz_i 5, fz_i x]) (st := []) kX11_act rfl rfl vX11_says rfl rfl rfl rfl (Nat.le_of_ble_eq_true rfl) (Nat.le_of_ble_eq_true rfl) (by decide) (sX11_says_5 H1 hI2 b x (by omega) (by omega)) (fun H266 r267 q268 o269 => ?_)
                obtain ⟨hI270, hf271, y273, rfl, f272⟩ := q268
                clear o269
                have hf274 := fz_fr_tr hf3 hf271 (show fz_su [(53, 46), (82, 99999)] [(53, 46), (82, 99999)] = true from rfl)
                refine fz_goto (tgt := 93) kX11_act rfl (by decide) ?_
                exact fz_iret kX11_act rfl rfl (fun _ => ⟨hI270, hf274, _, rfl⟩)
            · refine fz_aload_n kX11_act rfl rfl ?_
              refine fz_iload_n kX11_act rfl rfl ?_
              refine fz_iload kX11_act rfl rfl ?_
              refine fz_iload_n kX11_act rfl rfl ?_
              have b275 : 0 ≤ H1 53 46 ∧ H1 53 46 ≤ 1000 := hI2.1 53 _
              refine fz_callV (d' := 4) (M' := mX11_goes) (As := [fz_i b, fz_i 5, fz_i x]) (st := []) kX11_act rfl rfl vX11_goes rfl rfl rfl rfl (Nat.le_of_ble_eq_true rfl) (Nat.le_of_ble_eq_true rfl) (by decide) (sX11_goes_5 H1 hI2 b x (by omega) (by omega)) (fun H276 r277 q278 o279 => ?_)
              obtain ⟨hI280, hf281, y283, rfl, f282⟩ := q278
              clear o279
              have hf284 := fz_fr_tr hf3 hf281 (show fz_su [(53, 46), (82, 99999)] [(53, 46), (82, 99999)] = true from rfl)
              refine fz_goto (tgt := 93) kX11_act rfl (by decide) ?_
              exact fz_iret kX11_act rfl rfl (fun _ => ⟨hI280, hf284, _, rfl⟩)
          · refine fz_eqi c26 ?_
            refine fz_istore (ls' := [(4, fz_i 6), (0, fz_r 53), (1, fz_i b), (2, fz_i ac), (3, fz_i x)]) kX11_act rfl (by decide) rfl ?_
            refine fz_iload_n kX11_act rfl rfl ?_
            refine fz_if_ne (tgt := 53) kX11_act rfl (by decide) (fun c285 => ?_) (fun c285 => ?_)
            · refine fz_iload_n kX11_act rfl rfl ?_
              refine fz_iconst ⟨by decide, by decide⟩ kX11_act rfl ?_
              refine fz_icmp_ne (tgt := 69) kX11_act rfl (by decide) (fun c286 => ?_) (fun c286 => ?_)
              · refine fz_iload_n kX11_act rfl rfl ?_
                refine fz_iconst ⟨by decide, by decide⟩ kX11_act rfl ?_
                refine fz_icmp_ne (tgt := 85) kX11_act rfl (by decide) (fun c287 => ?_) (fun c287 => ?_)
                · refine fz_aload_n kX11_act rfl rfl ?_
                  refine fz_iload_n kX11_act rfl rfl ?_
                  refine fz_iload kX11_act rfl rfl ?_
                  refine fz_iload_n kX11_act rfl rfl ?_
                  have b288 : 0 ≤ H1 53 46 ∧ H1 53 46 ≤ 1000 := hI2.1 53 _
                  refine fz_callV (d' := 10) (M' := mX11_tells) (As := [fz_i b, fz_i 6, fz_i x]) (st := []) kX11_act rfl rfl vX11_tells rfl rfl rfl rfl (Nat.le_of_ble_eq_true rfl) (Nat.le_of_ble_eq_true rfl) (by decide) (sX11_tells_6 H1 hI2 b x (by omega) (by omega)) (fun H289 r290 q291 o292 => ?_)
                  obtain ⟨hI293, hf294, y296, rfl, f295⟩ := q291
                  clear o292
                  have hf297 := fz_fr_tr hf3 hf294 (show fz_su [(53, 46), (82, 99999)] [(53, 46), (82, 99999)] = true from rfl)
                  exact fz_iret kX11_act rfl rfl (fun _ => ⟨hI293, hf297, _, rfl⟩)
                · refine fz_aload_n kX11_act rfl rfl ?_
                  refine fz_iload_n kX11_act rfl rfl ?_
                  refine fz_iload kX11_act rfl rfl ?_
                  refine fz_iload_n kX11_act rfl rfl ?_
                  have b298 : 0 ≤ H1 53 46 ∧ H1 53 46 ≤ 1000 := hI2.1 53 _
                  refine fz_callV (d' := 2) (M' := mX11_fades) (As := [fz_i b, fz_i 6, fz_i x]) (st := []) kX11_act rfl rfl vX11_fades rfl rfl rfl rfl (Nat.le_of_ble_eq_true rfl) (Nat.le_of_ble_eq_true rfl) (by decide) (sX11_fades_6 H1 hI2 b x (by omega) (by omega)) (fun H299 r300 q301 o302 => ?_)
                  obtain ⟨hI303, hf304, y306, rfl, f305⟩ := q301
                  clear o302
                  have hf307 := fz_fr_tr hf3 hf304 (show fz_su [(53, 46), (82, 99999)] [(53, 46), (82, 99999)] = true from rfl)
                  refine fz_goto (tgt := 93) kX11_act rfl (by decide) ?_
                  exact fz_iret kX11_act rfl rfl (fun _ => ⟨hI303, hf307, _, rfl⟩)
              · refine fz_aload_n kX11_act rfl rfl ?_
                refine fz_iload_n kX11_act rfl rfl ?_
                refine fz_iload kX11_act rfl rfl ?_
                refine fz_iload_n kX11_act rfl rfl ?_
                have b308 : 0 ≤ H1 53 46 ∧ H1 53 46 ≤ 1000 := hI2.1 53 _
                refine fz_callV (d' := 6) (M' := mX11_says) (As := [fz_i b, fz_i 6, fz_i x]) (st := []) kX11_act rfl rfl vX11_says rfl rfl rfl rfl (Nat.le_of_ble_eq_true rfl) (Nat.le_of_ble_eq_true rfl) (by decide) (sX11_says_6 H1 hI2 b x (by omega) (by omega)) (fun H309 r310 q311 o312 => ?_)
                obtain ⟨hI313, hf314, y316, rfl, f315⟩ := q311
                clear o312
                have hf317 := fz_fr_tr hf3 hf314 (show fz_su [(53, 46), (82, 99999)] [(53, 46), (82, 99999)] = true from rfl)
                refine fz_goto (tgt := 93) kX11_act rfl (by decide) ?_
                exact fz_iret kX11_act rfl rfl (fun _ => ⟨hI313, hf317, _, rfl⟩)
            · refine fz_aload_n kX11_act rfl rfl ?_
              refine fz_iload_n kX11_act rfl rfl ?_
              refine fz_iload kX11_act rfl rfl ?_
              refine fz_iload_n kX11_act rfl rfl ?_
              have b318 : 0 ≤ H1 53 46 ∧ H1 53 46 ≤ 1000 := hI2.1 53 _
              refine fz_callV (d' := 2) (M' := mX11_goes) (As := [fz_i b, fz_i 6, fz_i x]) (st := []) kX11_act rfl rfl vX11_goes rfl rfl rfl rfl (Nat.le_of_ble_eq_true rfl) (Nat.le_of_ble_eq_true rfl) (by decide) (sX11_goes_6 H1 hI2 b x (by omega) (by omega)) (fun H319 r320 q321 o322 => ?_)
              obtain ⟨hI323, hf324, y326, rfl, f325⟩ := q321
              clear o322
              have hf327 := fz_fr_tr hf3 hf324 (show fz_su [(53, 46), (82, 99999)] [(53, 46), (82, 99999)] = true from rfl)
              refine fz_goto (tgt := 93) kX11_act rfl (by decide) ?_
              exact fz_iret kX11_act rfl rfl (fun _ => ⟨hI323, hf327, _, rfl⟩)
          · refine fz_eqi c26 ?_
            refine fz_istore (ls' := [(4, fz_i 7), (0, fz_r 53), (1, fz_i b), (2, fz_i ac), (3, fz_i x)]) kX11_act rfl (by decide) rfl ?_
            refine fz_iload_n kX11_act rfl rfl ?_
            refine fz_if_ne (tgt := 53) kX11_act rfl (by decide) (fun c328 => ?_) (fun c328 => ?_)
            · refine fz_iload_n kX11_act rfl rfl ?_
              refine fz_iconst ⟨by decide, by decide⟩ kX11_act rfl ?_
              refine fz_icmp_ne (tgt := 69) kX11_act rfl (by decide) (fun c329 => ?_) (fun c329 => ?_)
              · refine fz_iload_n kX11_act rfl rfl ?_
                refine fz_iconst ⟨by decide, by decide⟩ kX11_act rfl ?_
                refine fz_icmp_ne (tgt := 85) kX11_act rfl (by decide) (fun c330 => ?_) (fun c330 => ?_)
                · refine fz_aload_n kX11_act rfl rfl ?_
                  refine fz_iload_n kX11_act rfl rfl ?_
                  refine fz_iload kX11_act rfl rfl ?_
                  refine fz_iload_n kX11_act rfl rfl ?_
                  have b331 : 0 ≤ H1 53 46 ∧ H1 53 46 ≤ 1000 := hI2.1 53 _
                  refine fz_callV (d' := 12) (M' := mX11_tells) (As := [fz_i b, fz_i 7, fz_i x]) (st := []) kX11_act rfl rfl vX11_tells rfl rfl rfl rfl (Nat.le_of_ble_eq_true rfl) (Nat.le_of_ble_eq_true rfl) (by decide) (sX11_tells_7 H1 hI2 b x (by omega) (by omega)) (fun H332 r333 q334 o335 => ?_)
                  obtain ⟨hI336, hf337, y339, rfl, f338⟩ := q334
                  clear o335
                  have hf340 := fz_fr_tr hf3 hf337 (show fz_su [(53, 46), (82, 99999)] [(53, 46), (82, 99999)] = true from rfl)
                  exact fz_iret kX11_act rfl rfl (fun _ => ⟨hI336, hf340, _, rfl⟩)
                · refine fz_aload_n kX11_act rfl rfl ?_
                  refine fz_iload_n kX11_act rfl rfl ?_
                  refine fz_iload kX11_act rfl rfl ?_
                  refine fz_iload_n kX11_act rfl rfl ?_
                  have b341 : 0 ≤ H1 53 46 ∧ H1 53 46 ≤ 1000 := hI2.1 53 _
                  refine fz_callV (d' := 6) (M' := mX11_fades) (As := [fz_i b, fz_i 7, fz_i x]) (st := []) kX11_act rfl rfl vX11_fades rfl rfl rfl rfl (Nat.le_of_ble_eq_true rfl) (Nat.le_of_ble_eq_true rfl) (by decide) (sX11_fades_7 H1 hI2 b x (by omega) (by omega)) (fun H342 r343 q344 o345 => ?_)
                  obtain ⟨hI346, hf347, y349, rfl, f348⟩ := q344
                  clear o345
                  have hf350 := fz_fr_tr hf3 hf347 (show fz_su [(53, 46), (82, 99999)] [(53, 46), (82, 99999)] = true from rfl)
                  refine fz_goto (tgt := 93) kX11_act rfl (by decide) ?_
                  exact fz_iret kX11_act rfl rfl (fun _ => ⟨hI346, hf350, _, rfl⟩)
              · refine fz_aload_n kX11_act rfl rfl ?_
                refine fz_iload_n kX11_act rfl rfl ?_
                refine fz_iload kX11_act rfl rfl ?_
                refine fz_iload_n kX11_act rfl rfl ?_
                have b351 : 0 ≤ H1 53 46 ∧ H1 53 46 ≤ 1000 := hI2.1 53 _
                refine fz_callV (d' := 8) (M' := mX11_says) (As := [fz_i b, fz_i 7, fz_i x]) (st := []) kX11_act rfl rfl vX11_says rfl rfl rfl rfl (Nat.le_of_ble_eq_true rfl) (Nat.le_of_ble_eq_true rfl) (by decide) (sX11_says_7 H1 hI2 b x (by omega) (by omega)) (fun H352 r353 q354 o355 => ?_)
                obtain ⟨hI356, hf357, y359, rfl, f358⟩ := q354
                clear o355
                have hf360 := fz_fr_tr hf3 hf357 (show fz_su [(53, 46), (82, 99999)] [(53, 46), (82, 99999)] = true from rfl)
                refine fz_goto (tgt := 93) kX11_act rfl (by decide) ?_
                exact fz_iret kX11_act rfl rfl (fun _ => ⟨hI356, hf360, _, rfl⟩)
            · refine fz_aload_n kX11_act rfl rfl ?_
              refine fz_iload_n kX11_act rfl rfl ?_
              refine fz_iload kX11_act rfl rfl ?_
              refine fz_iload_n kX11_act rfl rfl ?_
              have b361 : 0 ≤ H1 53 46 ∧ H1 53 46 ≤ 1000 := hI2.1 53 _
              refine fz_callV (d' := 4) (M' := mX11_goes) (As := [fz_i b, fz_i 7, fz_i x]) (st := []) kX11_act rfl rfl vX11_goes rfl rfl rfl rfl (Nat.le_of_ble_eq_true rfl) (Nat.le_of_ble_eq_true rfl) (by decide) (sX11_goes_7 H1 hI2 b x (by omega) (by omega)) (fun H362 r363 q364 o365 => ?_)
              obtain ⟨hI366, hf367, y369, rfl, f368⟩ := q364
              clear o365
              have hf370 := fz_fr_tr hf3 hf367 (show fz_su [(53, 46), (82, 99999)] [(53, 46), (82, 99999)] = true from rfl)
              refine fz_goto (tgt := 93) kX11_act rfl (by decide) ?_
              exact fz_iret kX11_act rfl rfl (fun _ => ⟨hI366, hf370, _, rfl⟩)
        · exfalso; omega
      · refine fz_if_ne (tgt := 30) kX11_act rfl (by decide) (fun c371 => ?_) (fun c371 => ?_)
        · exfalso; omega
        · refine fz_iconst ⟨by decide, by decide⟩ kX11_act rfl ?_
          exact fz_iret kX11_act rfl rfl (fun _ => ⟨hI2, hf3, _, rfl⟩)
  · refine fz_if_eq (tgt := 28) kX11_act rfl (by decide) (fun c372 => ?_) (fun c372 => ?_)
    · refine fz_iconst ⟨by decide, by decide⟩ kX11_act rfl ?_
      exact fz_iret kX11_act rfl rfl (fun _ => ⟨hI2, hf3, _, rfl⟩)
    · exfalso; omega
