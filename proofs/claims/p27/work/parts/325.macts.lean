/-! ===== what the methods keep ===== -/
abbrev qX11_ran (h : fz_H) (n : Int) : fz_H → Option fz_V → Prop := fun h' r0 => fz_Iv h' ∧ fz_fr [(53, 46), (82, 99999)] h h' ∧ r0 = none ∧ h' 53 46 = h 53 46 + 1 ∧ h' 82 = fz_t1 (h 82) (h 53 46) n
set_option maxHeartbeats 1000000 in
set_option maxRecDepth 100000 in
theorem sX11_ran (h : fz_H) (hI : fz_Iv h) (n : Int) (hp0 : h 53 46 ≤ 999) : fz_R 0 mX11_ran 0 [(0, fz_r 53), (1, fz_i n)] [] h (qX11_ran h n) := by
  refine fz_knowl (fun hk => ?_)
  have hr_n : -2147483648 ≤ n ∧ n < 2147483648 := hk _ (List.Mem.tail _ (List.Mem.head _))
  clear hk
  have hf : fz_fr [(53, 46), (82, 99999)] h h := fz_fr_rf
  have b1 : 0 ≤ h 53 46 ∧ h 53 46 ≤ 1000 := hI.1 53 _
  refine fz_aload_n kX11_ran rfl rfl ?_
  refine fz_getV (v := h 53 46) kX11_ran rfl rfl rfl ?_
  have b2 : 0 ≤ h 53 46 ∧ h 53 46 ≤ 1000 := hI.1 53 _
  refine fz_bipush ⟨by decide, by decide⟩ kX11_ran rfl ?_
  refine fz_icmp_ge (tgt := 19) kX11_ran rfl (by decide) (fun c3 => ?_) (fun c3 => ?_)
  · refine fz_aload_n kX11_ran rfl rfl ?_
    refine fz_dup rfl kX11_ran rfl ?_
    refine fz_getV (v := h 53 46) kX11_ran rfl rfl rfl ?_
    refine fz_iconst ⟨by decide, by decide⟩ kX11_ran rfl ?_
    refine fz_iaddN kX11_ran rfl (by omega) ?_
    refine fz_putI kX11_ran rfl rfl rfl ?_
    refine fz_nmu (S := [(53, 46), (82, 99999)]) (h0 := h) (fz_Iv_up hI (by decide) (show (0 : Int) ≤ ((h 53 46) + 1) by omega) (show (((h 53 46) + 1) : Int) ≤ 1000 by omega)) (fz_fr_up hf rfl) (fun H4 hI5 hf6 e7 => ?_)
    have k8 : H4 53 46 = ((h 53 46) + 1) := by rw [e7]; exact fz_up_e
    exact fz_vret kX11_ran rfl rfl ⟨hI5, hf6, rfl, (by omega), (by first | exact fz_t1_in lost e7 (by decide) (by omega) | exact fz_t1_no e7 (by decide) (by omega))⟩
  · refine fz_aload_n kX11_ran rfl rfl ?_
    refine fz_getR (t := 82) kX11_ran rfl rfl ?_
    refine fz_aload_n kX11_ran rfl rfl ?_
    refine fz_getV (v := h 53 46) kX11_ran rfl rfl rfl ?_
    refine fz_iload_n kX11_ran rfl rfl ?_
    refine fz_iast (n := 24) kX11_ran rfl rfl (by omega) (by omega) ?_
    refine fz_nmu (S := [(53, 46), (82, 99999)]) (h0 := h) (fz_Iv_up hI (by decide) (show ((-2147483648) : Int) ≤ n by omega) (show (n : Int) ≤ 2147483647 by omega)) (fz_fr_up hf rfl) (fun H10 hI11 hf12 e13 => ?_)
    have k14 : H10 53 46 = (h 53 46) := by rw [e13]; exact (fz_up_o (by decide)).trans rfl
    refine fz_aload_n kX11_ran rfl rfl ?_
    refine fz_dup rfl kX11_ran rfl ?_
    refine fz_getV (v := (h 53 46)) kX11_ran rfl rfl k14 ?_
    refine fz_iconst ⟨by decide, by decide⟩ kX11_ran rfl ?_
    refine fz_iaddN kX11_ran rfl (by omega) ?_
    refine fz_putI kX11_ran rfl rfl rfl ?_
    refine fz_nmu (S := [(53, 46), (82, 99999)]) (h0 := h) (fz_Iv_up hI11 (by decide) (show (0 : Int) ≤ ((h 53 46) + 1) by omega) (show (((h 53 46) + 1) : Int) ≤ 1000 by omega)) (fz_fr_up hf12 rfl) (fun H15 hI16 hf17 e18 => ?_)
    have k19 : H15 53 46 = ((h 53 46) + 1) := by rw [e18]; exact fz_up_e
    exact fz_vret kX11_ran rfl rfl ⟨hI16, hf17, rfl, (by omega), (by first | exact fz_t1_in e13 e18 (by decide) (by omega) | exact fz_t1_no e18 (by decide) (by omega))⟩

abbrev qX11_above_0 (h : fz_H) : fz_H → Option fz_V → Prop := fun h' r0 => h' = h ∧ ∃ r : Int, r0 = some (fz_i r) ∧ (0 ≤ r ∧ r ≤ 0)
set_option maxHeartbeats 1000000 in
set_option maxRecDepth 100000 in
theorem sX11_above_0 (h : fz_H) (hI : fz_Iv h) : fz_R 0 mX11_above 0 [(0, fz_i 0)] [] h (qX11_above_0 h) := by
  refine fz_iload_n kX11_above rfl rfl ?_
  have c1 : ((0 : Int) < 3 ∨ 7 < (0 : Int)) := by omega
  · refine fz_tswO (tgt := 44) kX11_above rfl c1 (by decide) ?_
    refine fz_iconst ⟨by decide, by decide⟩ kX11_above rfl ?_
    exact fz_iret kX11_above rfl rfl (fun _ => ⟨rfl, _, rfl, (by omega)⟩)

abbrev qX11_above_1 (h : fz_H) : fz_H → Option fz_V → Prop := fun h' r0 => h' = h ∧ ∃ r : Int, r0 = some (fz_i r) ∧ (0 ≤ r ∧ r ≤ 0)
set_option maxHeartbeats 1000000 in
set_option maxRecDepth 100000 in
theorem sX11_above_1 (h : fz_H) (hI : fz_Iv h) : fz_R 0 mX11_above 0 [(0, fz_i 1)] [] h (qX11_above_1 h) := by
  refine fz_iload_n kX11_above rfl rfl ?_
  have c1 : ((1 : Int) < 3 ∨ 7 < (1 : Int)) := by omega
  · refine fz_tswO (tgt := 44) kX11_above rfl c1 (by decide) ?_
    refine fz_iconst ⟨by decide, by decide⟩ kX11_above rfl ?_
    exact fz_iret kX11_above rfl rfl (fun _ => ⟨rfl, _, rfl, (by omega)⟩)

abbrev qX11_above_2 (h : fz_H) : fz_H → Option fz_V → Prop := fun h' r0 => h' = h ∧ ∃ r : Int, r0 = some (fz_i r) ∧ (0 ≤ r ∧ r ≤ 0)
set_option maxHeartbeats 1000000 in
set_option maxRecDepth 100000 in
theorem sX11_above_2 (h : fz_H) (hI : fz_Iv h) : fz_R 0 mX11_above 0 [(0, fz_i 2)] [] h (qX11_above_2 h) := by
  refine fz_iload_n kX11_above rfl rfl ?_
  have c1 : ((2 : Int) < 3 ∨ 7 < (2 : Int)) := by omega
  · refine fz_tswO (tgt := 44) kX11_above rfl c1 (by decide) ?_
    refine fz_iconst ⟨by decide, by decide⟩ kX11_above rfl ?_
    exact fz_iret kX11_above rfl rfl (fun _ => ⟨rfl, _, rfl, (by omega)⟩)

abbrev qX11_above_3 (h : fz_H) : fz_H → Option fz_V → Prop := fun h' r0 => h' = h ∧ ∃ r : Int, r0 = some (fz_i r) ∧ (2 ≤ r ∧ r ≤ 2)
set_option maxHeartbeats 1000000 in
set_option maxRecDepth 100000 in
theorem sX11_above_3 (h : fz_H) (hI : fz_Iv h) : fz_R 0 mX11_above 0 [(0, fz_i 3)] [] h (qX11_above_3 h) := by
  refine fz_iload_n kX11_above rfl rfl ?_
  refine fz_tswC (j := 3) (tgt := 36) kX11_above rfl rfl (by decide) (by decide) rfl (by decide) ?_
  refine fz_iconst ⟨by decide, by decide⟩ kX11_above rfl ?_
  exact fz_iret kX11_above rfl rfl (fun _ => ⟨rfl, _, rfl, (by omega)⟩)

abbrev qX11_above_4 (h : fz_H) : fz_H → Option fz_V → Prop := fun h' r0 => h' = h ∧ ∃ r : Int, r0 = some (fz_i r) ∧ (1 ≤ r ∧ r ≤ 1)
set_option maxHeartbeats 1000000 in
set_option maxRecDepth 100000 in
theorem sX11_above_4 (h : fz_H) (hI : fz_Iv h) : fz_R 0 mX11_above 0 [(0, fz_i 4)] [] h (qX11_above_4 h) := by
  refine fz_iload_n kX11_above rfl rfl ?_
  refine fz_tswC (j := 4) (tgt := 38) kX11_above rfl rfl (by decide) (by decide) rfl (by decide) ?_
  refine fz_iconst ⟨by decide, by decide⟩ kX11_above rfl ?_
  exact fz_iret kX11_above rfl rfl (fun _ => ⟨rfl, _, rfl, (by omega)⟩)

abbrev qX11_above_5 (h : fz_H) : fz_H → Option fz_V → Prop := fun h' r0 => h' = h ∧ ∃ r : Int, r0 = some (fz_i r) ∧ (3 ≤ r ∧ r ≤ 3)
set_option maxHeartbeats 1000000 in
set_option maxRecDepth 100000 in
theorem sX11_above_5 (h : fz_H) (hI : fz_Iv h) : fz_R 0 mX11_above 0 [(0, fz_i 5)] [] h (qX11_above_5 h) := by
  refine fz_iload_n kX11_above rfl rfl ?_
  refine fz_tswC (j := 5) (tgt := 40) kX11_above rfl rfl (by decide) (by decide) rfl (by decide) ?_
  refine fz_iconst ⟨by decide, by decide⟩ kX11_above rfl ?_
  exact fz_iret kX11_above rfl rfl (fun _ => ⟨rfl, _, rfl, (by omega)⟩)

abbrev qX11_above_6 (h : fz_H) : fz_H → Option fz_V → Prop := fun h' r0 => h' = h ∧ ∃ r : Int, r0 = some (fz_i r) ∧ (0 ≤ r ∧ r ≤ 0)
set_option maxHeartbeats 1000000 in
set_option maxRecDepth 100000 in
theorem sX11_above_6 (h : fz_H) (hI : fz_Iv h) : fz_R 0 mX11_above 0 [(0, fz_i 6)] [] h (qX11_above_6 h) := by
  refine fz_iload_n kX11_above rfl rfl ?_
  refine fz_tswC (j := 6) (tgt := 44) kX11_above rfl rfl (by decide) (by decide) rfl (by decide) ?_
  refine fz_iconst ⟨by decide, by decide⟩ kX11_above rfl ?_
  exact fz_iret kX11_above rfl rfl (fun _ => ⟨rfl, _, rfl, (by omega)⟩)

abbrev qX11_above_7 (h : fz_H) : fz_H → Option fz_V → Prop := fun h' r0 => h' = h ∧ ∃ r : Int, r0 = some (fz_i r) ∧ (4 ≤ r ∧ r ≤ 4)
set_option maxHeartbeats 1000000 in
set_option maxRecDepth 100000 in
theorem sX11_above_7 (h : fz_H) (hI : fz_Iv h) : fz_R 0 mX11_above 0 [(0, fz_i 7)] [] h (qX11_above_7 h) := by
  refine fz_iload_n kX11_above rfl rfl ?_
  refine fz_tswC (j := 7) (tgt := 42) kX11_above rfl rfl (by decide) (by decide) rfl (by decide) ?_
  refine fz_iconst ⟨by decide, by decide⟩ kX11_above rfl ?_
  exact fz_iret kX11_above rfl rfl (fun _ => ⟨rfl, _, rfl, (by omega)⟩)

abbrev qX11_goes_0_0 (h : fz_H) (b x : Int) : fz_H → Option fz_V → Prop := fun h' r0 => fz_Iv h' ∧ fz_fr [(53, 46), (82, 99999)] h h' ∧ ∃ r : Int, r0 = some (fz_i r) ∧ (h' 53 46 = h 53 46 + 1) ∧ (r = fz_w (x + b)) ∧ (h' 53 46 = h 53 46 + ([1] : List Int).length) ∧ (h' 82 = fz_tr (h 82) (h 53 46) [1])
set_option maxHeartbeats 1000000 in
set_option maxRecDepth 100000 in
theorem sX11_goes_0_0 (h : fz_H) (hI : fz_Iv h) (b x : Int) (hp0 : 0 ≤ b ∧ b ≤ 49) (hp1 : h 53 46 ≤ 899) (hp2 : h 81 b.toNat = 0) : fz_R 1 mX11_goes 0 [(0, fz_r 53), (1, fz_i b), (2, fz_i 0), (3, fz_i x)] [] h (qX11_goes_0_0 h b x) := by
  refine fz_knowl (fun hk => ?_)
  have hr_b : -2147483648 ≤ b ∧ b < 2147483648 := hk _ (List.Mem.tail _ (List.Mem.head _))
  have hr_x : -2147483648 ≤ x ∧ x < 2147483648 := hk _ (List.Mem.tail _ (List.Mem.tail _ (List.Mem.tail _ (List.Mem.head _))))
  clear hk
  have hf : fz_fr [(53, 46), (82, 99999)] h h := fz_fr_rf
  have b1 : 0 ≤ h 53 46 ∧ h 53 46 ≤ 1000 := hI.1 53 _
  refine fz_iload_n kX11_goes rfl rfl ?_
  refine fz_lsw (tgt := 36) kX11_goes rfl (by decide) (show Op.lookupswitch.offset [(0, 35), (1, 44), (6, 60)] 76 0 = 35 from rfl) (by decide) ?_
  refine fz_aload_n kX11_goes rfl rfl ?_
  refine fz_iconst ⟨by decide, by decide⟩ kX11_goes rfl ?_
  refine fz_callV (d' := 0) (M' := mX11_ran) (As := [fz_i 1]) (st := []) kX11_goes rfl rfl vX11_ran rfl rfl rfl rfl (Nat.le_of_ble_eq_true rfl) (Nat.le_of_ble_eq_true rfl) (by decide) (sX11_ran h hI 1 (by omega)) (fun H2 r3 q4 o5 => ?_)
  obtain ⟨hI6, hf7, rfl, f8, f9⟩ := q4
  clear o5
  have hf10 := fz_fr_tr hf hf7 (show fz_su [(53, 46), (82, 99999)] [(53, 46), (82, 99999)] = true from rfl)
  refine fz_iload_n kX11_goes rfl rfl ?_
  refine fz_iload_n kX11_goes rfl rfl ?_
  refine fz_iadd kX11_goes rfl ?_
  have b11 := fz_w_b (x + b)
  exact fz_iret kX11_goes rfl rfl (fun _ => ⟨hI6, hf10, _, rfl, (by omega), (by first | rfl | (rw [lost, lost]) | (rw [lost]) | (exfalso; omega)), (by simp only [List.length_cons, List.length_nil]; omega), (by first | exact fz_tc2 f9 lost lost (by omega) (by simp only [List.length_cons, List.length_nil]; omega) | exact fz_tc1 f9 lost (by omega) | exact fz_tc0 f9 | exact lost | (exfalso; omega))⟩)

abbrev qX11_says_0_0 (h : fz_H) (b x : Int) : fz_H → Option fz_V → Prop := fun h' r0 => fz_Iv h' ∧ fz_fr [(53, 46), (82, 99999)] h h' ∧ ∃ r : Int, r0 = some (fz_i r) ∧ (h' 53 46 = h 53 46 + 2) ∧ (r = fz_w (fz_w (x + b) * 2)) ∧ (h' 53 46 = h 53 46 + ([10, 1] : List Int).length) ∧ (h' 82 = fz_tr (h 82) (h 53 46) [10, 1])
set_option maxHeartbeats 1000000 in
set_option maxRecDepth 100000 in
theorem sX11_says_0_0 (h : fz_H) (hI : fz_Iv h) (b x : Int) (hp0 : 0 ≤ b ∧ b ≤ 49) (hp1 : h 53 46 ≤ 898) (hp2 : h 81 b.toNat = 0) : fz_R 2 mX11_says 0 [(0, fz_r 53), (1, fz_i b), (2, fz_i 0), (3, fz_i x)] [] h (qX11_says_0_0 h b x) := by
  refine fz_knowl (fun hk => ?_)
  have hr_b : -2147483648 ≤ b ∧ b < 2147483648 := hk _ (List.Mem.tail _ (List.Mem.head _))
  have hr_x : -2147483648 ≤ x ∧ x < 2147483648 := hk _ (List.Mem.tail _ (List.Mem.tail _ (List.Mem.tail _ (List.Mem.head _))))
  clear hk
  have hf : fz_fr [(53, 46), (82, 99999)] h h := fz_fr_rf
  have b1 : 0 ≤ h 53 46 ∧ h 53 46 ≤ 1000 := hI.1 53 _
  refine fz_iload_n kX11_says rfl rfl ?_
  refine fz_tswC (j := 0) (tgt := 48) kX11_says rfl rfl (by decide) (by decide) rfl (by decide) ?_
  refine fz_aload_n kX11_says rfl rfl ?_
  refine fz_bipush ⟨by decide, by decide⟩ kX11_says rfl ?_
  refine fz_callV (d' := 0) (M' := mX11_ran) (As := [fz_i 10]) (st := []) kX11_says rfl rfl vX11_ran rfl rfl rfl rfl (Nat.le_of_ble_eq_true rfl) (Nat.le_of_ble_eq_true rfl) (by decide) (sX11_ran h hI 10 (by omega)) (fun H2 r3 q4 o5 => ?_)
  obtain ⟨hI6, hf7, rfl, f8, f9⟩ := q4
  clear o5
  have hf10 := fz_fr_tr hf hf7 (show fz_su [(53, 46), (82, 99999)] [(53, 46), (82, 99999)] = true from rfl)
  refine fz_aload_n kX11_says rfl rfl ?_
  refine fz_iload_n kX11_says rfl rfl ?_
  refine fz_aload_n kX11_says rfl rfl ?_
  refine fz_getR (t := 81) kX11_says rfl rfl ?_
  refine fz_iload_n kX11_says rfl rfl ?_
  refine fz_ialdV (n := 50) (v := h 81 (b.toNat)) kX11_says rfl rfl (by omega) (by omega) (hf10 81 _ rfl) ?_
  have b11 : 0 ≤ h 81 (b.toNat) ∧ h 81 (b.toNat) ≤ 7 := hI.1 81 _
  refine fz_eqi (show (h 81 (b.toNat)) = 0 by omega) ?_
  refine fz_iload_n kX11_says rfl rfl ?_
  have b12 : 0 ≤ H2 53 46 ∧ H2 53 46 ≤ 1000 := hI6.1 53 _
  have e13 : H2 81 b.toNat = h 81 b.toNat := hf10 81 _ rfl
  refine fz_callV (d' := 1) (M' := mX11_goes) (As := [fz_i b, fz_i 0, fz_i x]) (st := []) kX11_says rfl rfl vX11_goes rfl rfl rfl rfl (Nat.le_of_ble_eq_true rfl) (Nat.le_of_ble_eq_true rfl) (by decide) (sX11_goes_0_0 H2 hI6 b x (by omega) (by omega) (by omega)) (fun H14 r15 q16 o17 => ?_)
  obtain ⟨hI18, hf19, y24, rfl, f20, f21, f22, f23⟩ := q16
  clear o17
  have hf25 := fz_fr_tr hf10 hf19 (show fz_su [(53, 46), (82, 99999)] [(53, 46), (82, 99999)] = true from rfl)
  refine fz_iconst ⟨by decide, by decide⟩ kX11_says rfl ?_
  refine fz_imul kX11_says rfl ?_
  have b26 := fz_w_b (y24 * 2)
  exact fz_iret kX11_says rfl rfl (fun _ => ⟨hI18, hf25, _, rfl, (by omega), (by first | rfl | (rw [f21, lost]) | (rw [f21]) | (exfalso; omega)), (by simp only [List.length_cons, List.length_nil]; omega), (by first | exact fz_tc2 f9 f23 lost (by omega) (by simp only [List.length_cons, List.length_nil]; omega) | exact fz_tc1 f9 f23 (by omega) | exact fz_tc0 f9 | exact f23 | (exfalso; omega))⟩)

abbrev qX11_fades_0_0 (h : fz_H) (b x : Int) : fz_H → Option fz_V → Prop := fun h' r0 => fz_Iv h' ∧ fz_fr [(53, 46), (82, 99999)] h h' ∧ ∃ r : Int, r0 = some (fz_i r) ∧ (h' 53 46 = h 53 46 + 1) ∧ (r = fz_xor x b) ∧ (h' 53 46 = h 53 46 + ([11] : List Int).length) ∧ (h' 82 = fz_tr (h 82) (h 53 46) [11])
set_option maxHeartbeats 1000000 in
set_option maxRecDepth 100000 in
theorem sX11_fades_0_0 (h : fz_H) (hI : fz_Iv h) (b x : Int) (hp0 : 0 ≤ b ∧ b ≤ 49) (hp1 : h 53 46 ≤ 899) (hp2 : h 81 b.toNat = 0) : fz_R 1 mX11_fades 0 [(0, fz_r 53), (1, fz_i b), (2, fz_i 0), (3, fz_i x)] [] h (qX11_fades_0_0 h b x) := by
  refine fz_knowl (fun hk => ?_)
  have hr_b : -2147483648 ≤ b ∧ b < 2147483648 := hk _ (List.Mem.tail _ (List.Mem.head _))
  have hr_x : -2147483648 ≤ x ∧ x < 2147483648 := hk _ (List.Mem.tail _ (List.Mem.tail _ (List.Mem.tail _ (List.Mem.head _))))
  clear hk
  have hf : fz_fr [(53, 46), (82, 99999)] h h := fz_fr_rf
  have b1 : 0 ≤ h 53 46 ∧ h 53 46 ≤ 1000 := hI.1 53 _
  refine fz_iload_n kX11_fades rfl rfl ?_
  refine fz_tswC (j := 0) (tgt := 36) kX11_fades rfl rfl (by decide) (by decide) rfl (by decide) ?_
  refine fz_aload_n kX11_fades rfl rfl ?_
  refine fz_bipush ⟨by decide, by decide⟩ kX11_fades rfl ?_
  refine fz_callV (d' := 0) (M' := mX11_ran) (As := [fz_i 11]) (st := []) kX11_fades rfl rfl vX11_ran rfl rfl rfl rfl (Nat.le_of_ble_eq_true rfl) (Nat.le_of_ble_eq_true rfl) (by decide) (sX11_ran h hI 11 (by omega)) (fun H2 r3 q4 o5 => ?_)
  obtain ⟨hI6, hf7, rfl, f8, f9⟩ := q4
  clear o5
  have hf10 := fz_fr_tr hf hf7 (show fz_su [(53, 46), (82, 99999)] [(53, 46), (82, 99999)] = true from rfl)
  refine fz_iload_n kX11_fades rfl rfl ?_
  refine fz_iload_n kX11_fades rfl rfl ?_
  refine fz_ixor kX11_fades rfl ?_
  have b11 : -2147483648 ≤ (fz_xor x b) ∧ (fz_xor x b) < 2147483648 := fz_b32 _
  exact fz_iret kX11_fades rfl rfl (fun _ => ⟨hI6, hf10, _, rfl, (by omega), (by first | rfl | (rw [lost, lost]) | (rw [lost]) | (exfalso; omega)), (by simp only [List.length_cons, List.length_nil]; omega), (by first | exact fz_tc2 f9 lost lost (by omega) (by simp only [List.length_cons, List.length_nil]; omega) | exact fz_tc1 f9 lost (by omega) | exact fz_tc0 f9 | exact lost | (exfalso; omega))⟩)

abbrev qX11_tells_0_0 (h : fz_H) (b x : Int) : fz_H → Option fz_V → Prop := fun h' r0 => fz_Iv h' ∧ fz_fr [(53, 46), (82, 99999)] h h' ∧ ∃ r : Int, r0 = some (fz_i r) ∧ (h' 53 46 = h 53 46 + 4) ∧ (r = fz_w (fz_w (fz_w (x + b) * 2) - fz_xor 1 b)) ∧ (h' 53 46 = h 53 46 + ([2, 10, 1, 11] : List Int).length) ∧ (h' 82 = fz_tr (h 82) (h 53 46) [2, 10, 1, 11])
set_option maxHeartbeats 1000000 in
set_option maxRecDepth 100000 in
theorem sX11_tells_0_0 (h : fz_H) (hI : fz_Iv h) (b x : Int) (hp0 : 0 ≤ b ∧ b ≤ 49) (hp1 : h 53 46 ≤ 896) (hp2 : h 81 b.toNat = 0) : fz_R 3 mX11_tells 0 [(0, fz_r 53), (1, fz_i b), (2, fz_i 0), (3, fz_i x)] [] h (qX11_tells_0_0 h b x) := by
  refine fz_knowl (fun hk => ?_)
  have hr_b : -2147483648 ≤ b ∧ b < 2147483648 := hk _ (List.Mem.tail _ (List.Mem.head _))
  have hr_x : -2147483648 ≤ x ∧ x < 2147483648 := hk _ (List.Mem.tail _ (List.Mem.tail _ (List.Mem.tail _ (List.Mem.head _))))
  clear hk
  have hf : fz_fr [(53, 46), (82, 99999)] h h := fz_fr_rf
  have b1 : 0 ≤ h 53 46 ∧ h 53 46 ≤ 1000 := hI.1 53 _
  refine fz_iload_n kX11_tells rfl rfl ?_
  refine fz_lsw (tgt := 36) kX11_tells rfl (by decide) (show Op.lookupswitch.offset [(0, 35), (5, 70), (7, 86)] 102 0 = 35 from rfl) (by decide) ?_
  refine fz_aload_n kX11_tells rfl rfl ?_
  refine fz_iconst ⟨by decide, by decide⟩ kX11_tells rfl ?_
  refine fz_callV (d' := 0) (M' := mX11_ran) (As := [fz_i 2]) (st := []) kX11_tells rfl rfl vX11_ran rfl rfl rfl rfl (Nat.le_of_ble_eq_true rfl) (Nat.le_of_ble_eq_true rfl) (by decide) (sX11_ran h hI 2 (by omega)) (fun H2 r3 q4 o5 => ?_)
  obtain ⟨hI6, hf7, rfl, f8, f9⟩ := q4
  clear o5
  have hf10 := fz_fr_tr hf hf7 (show fz_su [(53, 46), (82, 99999)] [(53, 46), (82, 99999)] = true from rfl)
  refine fz_aload_n kX11_tells rfl rfl ?_
  refine fz_iload_n kX11_tells rfl rfl ?_
  refine fz_aload_n kX11_tells rfl rfl ?_
  refine fz_getR (t := 81) kX11_tells rfl rfl ?_
  refine fz_iload_n kX11_tells rfl rfl ?_
  refine fz_ialdV (n := 50) (v := h 81 (b.toNat)) kX11_tells rfl rfl (by omega) (by omega) (hf10 81 _ rfl) ?_
  have b11 : 0 ≤ h 81 (b.toNat) ∧ h 81 (b.toNat) ≤ 7 := hI.1 81 _
  refine fz_eqi (show (h 81 (b.toNat)) = 0 by omega) ?_
  refine fz_iload_n kX11_tells rfl rfl ?_
  have b12 : 0 ≤ H2 53 46 ∧ H2 53 46 ≤ 1000 := hI6.1 53 _
  have e13 : H2 81 b.toNat = h 81 b.toNat := hf10 81 _ rfl
  refine fz_callV (d' := 2) (M' := mX11_says) (As := [fz_i b, fz_i 0, fz_i x]) (st := []) kX11_tells rfl rfl vX11_says rfl rfl rfl rfl (Nat.le_of_ble_eq_true rfl) (Nat.le_of_ble_eq_true rfl) (by decide) (sX11_says_0_0 H2 hI6 b x (by omega) (by omega) (by omega)) (fun H14 r15 q16 o17 => ?_)
  obtain ⟨hI18, hf19, y24, rfl, f20, f21, f22, f23⟩ := q16
  clear o17
  have hf25 := fz_fr_tr hf10 hf19 (show fz_su [(53, 46), (82, 99999)] [(53, 46), (82, 99999)] = true from rfl)
  refine fz_istore (ls' := [(4, fz_i y24), (0, fz_r 53), (1, fz_i b), (2, fz_i 0), (3, fz_i x)]) kX11_tells rfl (by decide) rfl ?_
  refine fz_iload kX11_tells rfl rfl ?_
  refine fz_aload_n kX11_tells rfl rfl ?_
  refine fz_iload_n kX11_tells rfl rfl ?_
  refine fz_aload_n kX11_tells rfl rfl ?_
  refine fz_getR (t := 81) kX11_tells rfl rfl ?_
  refine fz_iload_n kX11_tells rfl rfl ?_
  refine fz_ialdV (n := 50) (v := h 81 (b.toNat)) kX11_tells rfl rfl (by omega) (by omega) (hf25 81 _ rfl) ?_
  refine fz_eqi (show (h 81 (b.toNat)) = 0 by omega) ?_
  refine fz_iconst ⟨by decide, by decide⟩ kX11_tells rfl ?_
  have b26 : 0 ≤ H14 53 46 ∧ H14 53 46 ≤ 1000 := hI18.1 53 _
  have e27 : H14 81 b.toNat = h 81 b.toNat := hf25 81 _ rfl
  refine fz_callV (d' := 1) (M' := mX11_fades) (As := [fz_i b, fz_i 0, fz_i 1]) (st := [fz_i y24]) kX11_tells rfl rfl vX11_fades rfl rfl rfl rfl (Nat.le_of_ble_eq_true rfl) (Nat.le_of_ble_eq_true rfl) (by decide) (sX11_fades_0_0 H14 hI18 b 1 (by omega) (by omega) (by omega)) (fun H28 r29 q30 o31 => ?_)
  obtain ⟨hI32, hf33, y38, rfl, f34, f35, f36, f37⟩ := q30
  clear o31
  have hf39 := fz_fr_tr hf25 hf33 (show fz_su [(53, 46), (82, 99999)] [(53, 46), (82, 99999)] = true from rfl)
  refine fz_isub kX11_tells rfl ?_
  have b40 := fz_w_b (y24 - y38)
  exact fz_iret kX11_tells rfl rfl (fun _ => ⟨hI32, hf39, _, rfl, (by omega), (by first | rfl | (rw [f21, f35]) | (rw [f21]) | (exfalso; omega)), (by simp only [List.length_cons, List.length_nil]; omega), (by first | exact fz_tc2 f9 f23 f37 (by omega) (by simp only [List.length_cons, List.length_nil]; omega) | exact fz_tc1 f9 f23 (by omega) | exact fz_tc0 f9 | exact f23 | (exfalso; omega))⟩)

abbrev qX11_goes_1_0 (h : fz_H) (b x : Int) : fz_H → Option fz_V → Prop := fun h' r0 => fz_Iv h' ∧ fz_fr [(53, 46), (82, 99999)] h h' ∧ ∃ r : Int, r0 = some (fz_i r) ∧ (h' 53 46 = h 53 46 + 1) ∧ (r = fz_w (x + b)) ∧ (h' 53 46 = h 53 46 + ([1] : List Int).length) ∧ (h' 82 = fz_tr (h 82) (h 53 46) [1])
set_option maxHeartbeats 1000000 in
set_option maxRecDepth 100000 in
theorem sX11_goes_1_0 (h : fz_H) (hI : fz_Iv h) (b x : Int) (hp0 : 0 ≤ b ∧ b ≤ 49) (hp1 : h 53 46 ≤ 899) (hp2 : h 81 b.toNat = 1) : fz_R 1 mX11_goes 0 [(0, fz_r 53), (1, fz_i b), (2, fz_i 0), (3, fz_i x)] [] h (qX11_goes_1_0 h b x) := by
  refine fz_knowl (fun hk => ?_)
  have hr_b : -2147483648 ≤ b ∧ b < 2147483648 := hk _ (List.Mem.tail _ (List.Mem.head _))
  have hr_x : -2147483648 ≤ x ∧ x < 2147483648 := hk _ (List.Mem.tail _ (List.Mem.tail _ (List.Mem.tail _ (List.Mem.head _))))
  clear hk
  have hf : fz_fr [(53, 46), (82, 99999)] h h := fz_fr_rf
  have b1 : 0 ≤ h 53 46 ∧ h 53 46 ≤ 1000 := hI.1 53 _
  refine fz_iload_n kX11_goes rfl rfl ?_
  refine fz_lsw (tgt := 36) kX11_goes rfl (by decide) (show Op.lookupswitch.offset [(0, 35), (1, 44), (6, 60)] 76 0 = 35 from rfl) (by decide) ?_
  refine fz_aload_n kX11_goes rfl rfl ?_
  refine fz_iconst ⟨by decide, by decide⟩ kX11_goes rfl ?_
  refine fz_callV (d' := 0) (M' := mX11_ran) (As := [fz_i 1]) (st := []) kX11_goes rfl rfl vX11_ran rfl rfl rfl rfl (Nat.le_of_ble_eq_true rfl) (Nat.le_of_ble_eq_true rfl) (by decide) (sX11_ran h hI 1 (by omega)) (fun H2 r3 q4 o5 => ?_)
  obtain ⟨hI6, hf7, rfl, f8, f9⟩ := q4
  clear o5
  have hf10 := fz_fr_tr hf hf7 (show fz_su [(53, 46), (82, 99999)] [(53, 46), (82, 99999)] = true from rfl)
  refine fz_iload_n kX11_goes rfl rfl ?_
  refine fz_iload_n kX11_goes rfl rfl ?_
  refine fz_iadd kX11_goes rfl ?_
  have b11 := fz_w_b (x + b)
  exact fz_iret kX11_goes rfl rfl (fun _ => ⟨hI6, hf10, _, rfl, (by omega), (by first | rfl | (rw [lost, lost]) | (rw [lost]) | (exfalso; omega)), (by simp only [List.length_cons, List.length_nil]; omega), (by first | exact fz_tc2 f9 lost lost (by omega) (by simp only [List.length_cons, List.length_nil]; omega) | exact fz_tc1 f9 lost (by omega) | exact fz_tc0 f9 | exact lost | (exfalso; omega))⟩)

abbrev qX11_goes_1_1 (h : fz_H) (b x : Int) : fz_H → Option fz_V → Prop := fun h' r0 => fz_Iv h' ∧ fz_fr [(53, 46), (82, 99999)] h h' ∧ ∃ r : Int, r0 = some (fz_i r) ∧ (h' 53 46 = h 53 46 + 2) ∧ (r = fz_w (fz_w (x + b) + 3)) ∧ (h' 53 46 = h 53 46 + ([20, 1] : List Int).length) ∧ (h' 82 = fz_tr (h 82) (h 53 46) [20, 1])
set_option maxHeartbeats 1000000 in
set_option maxRecDepth 100000 in
theorem sX11_goes_1_1 (h : fz_H) (hI : fz_Iv h) (b x : Int) (hp0 : 0 ≤ b ∧ b ≤ 49) (hp1 : h 53 46 ≤ 898) (hp2 : h 81 b.toNat = 1) : fz_R 2 mX11_goes 0 [(0, fz_r 53), (1, fz_i b), (2, fz_i 1), (3, fz_i x)] [] h (qX11_goes_1_1 h b x) := by
  refine fz_knowl (fun hk => ?_)
  have hr_b : -2147483648 ≤ b ∧ b < 2147483648 := hk _ (List.Mem.tail _ (List.Mem.head _))
  have hr_x : -2147483648 ≤ x ∧ x < 2147483648 := hk _ (List.Mem.tail _ (List.Mem.tail _ (List.Mem.tail _ (List.Mem.head _))))
  clear hk
  have hf : fz_fr [(53, 46), (82, 99999)] h h := fz_fr_rf
  have b1 : 0 ≤ h 53 46 ∧ h 53 46 ≤ 1000 := hI.1 53 _
  refine fz_iload_n kX11_goes rfl rfl ?_
  refine fz_lsw (tgt := 45) kX11_goes rfl (by decide) (show Op.lookupswitch.offset [(0, 35), (1, 44), (6, 60)] 76 1 = 44 from rfl) (by decide) ?_
  refine fz_aload_n kX11_goes rfl rfl ?_
  refine fz_bipush ⟨by decide, by decide⟩ kX11_goes rfl ?_
  refine fz_callV (d' := 0) (M' := mX11_ran) (As := [fz_i 20]) (st := []) kX11_goes rfl rfl vX11_ran rfl rfl rfl rfl (Nat.le_of_ble_eq_true rfl) (Nat.le_of_ble_eq_true rfl) (by decide) (sX11_ran h hI 20 (by omega)) (fun H2 r3 q4 o5 => ?_)
  obtain ⟨hI6, hf7, rfl, f8, f9⟩ := q4
  clear o5
  have hf10 := fz_fr_tr hf hf7 (show fz_su [(53, 46), (82, 99999)] [(53, 46), (82, 99999)] = true from rfl)
  refine fz_aload_n kX11_goes rfl rfl ?_
  refine fz_iload_n kX11_goes rfl rfl ?_
  refine fz_iconst ⟨by decide, by decide⟩ kX11_goes rfl ?_
  refine fz_iload_n kX11_goes rfl rfl ?_
  have b11 : 0 ≤ H2 53 46 ∧ H2 53 46 ≤ 1000 := hI6.1 53 _
  have e12 : H2 81 b.toNat = h 81 b.toNat := hf10 81 _ rfl
  refine fz_callV (d' := 1) (M' := mX11_goes) (As := [fz_i b, fz_i 0, fz_i x]) (st := []) kX11_goes rfl rfl vX11_goes rfl rfl rfl rfl (Nat.le_of_ble_eq_true rfl) (Nat.le_of_ble_eq_true rfl) (by decide) (sX11_goes_1_0 H2 hI6 b x (by omega) (by omega) (by omega)) (fun H13 r14 q15 o16 => ?_)
  obtain ⟨hI17, hf18, y23, rfl, f19, f20, f21, f22⟩ := q15
  clear o16
  have hf24 := fz_fr_tr hf10 hf18 (show fz_su [(53, 46), (82, 99999)] [(53, 46), (82, 99999)] = true from rfl)
  refine fz_iconst ⟨by decide, by decide⟩ kX11_goes rfl ?_
  refine fz_iadd kX11_goes rfl ?_
  have b25 := fz_w_b (y23 + 3)
  exact fz_iret kX11_goes rfl rfl (fun _ => ⟨hI17, hf24, _, rfl, (by omega), (by first | rfl | (rw [f20, lost]) | (rw [f20]) | (exfalso; omega)), (by simp only [List.length_cons, List.length_nil]; omega), (by first | exact fz_tc2 f9 f22 lost (by omega) (by simp only [List.length_cons, List.length_nil]; omega) | exact fz_tc1 f9 f22 (by omega) | exact fz_tc0 f9 | exact f22 | (exfalso; omega))⟩)

abbrev qX11_says_1_0 (h : fz_H) (b x : Int) : fz_H → Option fz_V → Prop := fun h' r0 => fz_Iv h' ∧ fz_fr [(53, 46), (82, 99999)] h h' ∧ ∃ r : Int, r0 = some (fz_i r) ∧ (h' 53 46 = h 53 46 + 3) ∧ (r = fz_w (fz_w (fz_w (x + b) + 3) * 2)) ∧ (h' 53 46 = h 53 46 + ([10, 20, 1] : List Int).length) ∧ (h' 82 = fz_tr (h 82) (h 53 46) [10, 20, 1])
set_option maxHeartbeats 1000000 in
set_option maxRecDepth 100000 in
theorem sX11_says_1_0 (h : fz_H) (hI : fz_Iv h) (b x : Int) (hp0 : 0 ≤ b ∧ b ≤ 49) (hp1 : h 53 46 ≤ 897) (hp2 : h 81 b.toNat = 1) : fz_R 3 mX11_says 0 [(0, fz_r 53), (1, fz_i b), (2, fz_i 0), (3, fz_i x)] [] h (qX11_says_1_0 h b x) := by
  refine fz_knowl (fun hk => ?_)
  have hr_b : -2147483648 ≤ b ∧ b < 2147483648 := hk _ (List.Mem.tail _ (List.Mem.head _))
  have hr_x : -2147483648 ≤ x ∧ x < 2147483648 := hk _ (List.Mem.tail _ (List.Mem.tail _ (List.Mem.tail _ (List.Mem.head _))))
  clear hk
  have hf : fz_fr [(53, 46), (82, 99999)] h h := fz_fr_rf
  have b1 : 0 ≤ h 53 46 ∧ h 53 46 ≤ 1000 := hI.1 53 _
  refine fz_iload_n kX11_says rfl rfl ?_
  refine fz_tswC (j := 0) (tgt := 48) kX11_says rfl rfl (by decide) (by decide) rfl (by decide) ?_
  refine fz_aload_n kX11_says rfl rfl ?_
  refine fz_bipush ⟨by decide, by decide⟩ kX11_says rfl ?_
  refine fz_callV (d' := 0) (M' := mX11_ran) (As := [fz_i 10]) (st := []) kX11_says rfl rfl vX11_ran rfl rfl rfl rfl (Nat.le_of_ble_eq_true rfl) (Nat.le_of_ble_eq_true rfl) (by decide) (sX11_ran h hI 10 (by omega)) (fun H2 r3 q4 o5 => ?_)
  obtain ⟨hI6, hf7, rfl, f8, f9⟩ := q4
  clear o5
  have hf10 := fz_fr_tr hf hf7 (show fz_su [(53, 46), (82, 99999)] [(53, 46), (82, 99999)] = true from rfl)
  refine fz_aload_n kX11_says rfl rfl ?_
  refine fz_iload_n kX11_says rfl rfl ?_
  refine fz_aload_n kX11_says rfl rfl ?_
  refine fz_getR (t := 81) kX11_says rfl rfl ?_
  refine fz_iload_n kX11_says rfl rfl ?_
  refine fz_ialdV (n := 50) (v := h 81 (b.toNat)) kX11_says rfl rfl (by omega) (by omega) (hf10 81 _ rfl) ?_
  have b11 : 0 ≤ h 81 (b.toNat) ∧ h 81 (b.toNat) ≤ 7 := hI.1 81 _
  refine fz_eqi (show (h 81 (b.toNat)) = 1 by omega) ?_
  refine fz_iload_n kX11_says rfl rfl ?_
  have b12 : 0 ≤ H2 53 46 ∧ H2 53 46 ≤ 1000 := hI6.1 53 _
  have e13 : H2 81 b.toNat = h 81 b.toNat := hf10 81 _ rfl
  refine fz_callV (d' := 2) (M' := mX11_goes) (As := [fz_i b, fz_i 1, fz_i x]) (st := []) kX11_says rfl rfl vX11_goes rfl rfl rfl rfl (Nat.le_of_ble_eq_true rfl) (Nat.le_of_ble_eq_true rfl) (by decide) (sX11_goes_1_1 H2 hI6 b x (by omega) (by omega) (by omega)) (fun H14 r15 q16 o17 => ?_)
  obtain ⟨hI18, hf19, y24, rfl, f20, f21, f22, f23⟩ := q16
  clear o17
  have hf25 := fz_fr_tr hf10 hf19 (show fz_su [(53, 46), (82, 99999)] [(53, 46), (82, 99999)] = true from rfl)
  refine fz_iconst ⟨by decide, by decide⟩ kX11_says rfl ?_
  refine fz_imul kX11_says rfl ?_
  have b26 := fz_w_b (y24 * 2)
  exact fz_iret kX11_says rfl rfl (fun _ => ⟨hI18, hf25, _, rfl, (by omega), (by first | rfl | (rw [f21, lost]) | (rw [f21]) | (exfalso; omega)), (by simp only [List.length_cons, List.length_nil]; omega), (by first | exact fz_tc2 f9 f23 lost (by omega) (by simp only [List.length_cons, List.length_nil]; omega) | exact fz_tc1 f9 f23 (by omega) | exact fz_tc0 f9 | exact f23 | (exfalso; omega))⟩)

abbrev qX11_says_1_1 (h : fz_H) (b x : Int) : fz_H → Option fz_V → Prop := fun h' r0 => fz_Iv h' ∧ fz_fr [(53, 46), (82, 99999)] h h' ∧ ∃ r : Int, r0 = some (fz_i r) ∧ (h' 53 46 = h 53 46 + 3) ∧ (r = fz_w (fz_w (fz_w (x + b) + 3) * 2)) ∧ (h' 53 46 = h 53 46 + ([10, 20, 1] : List Int).length) ∧ (h' 82 = fz_tr (h 82) (h 53 46) [10, 20, 1])
set_option maxHeartbeats 1000000 in
set_option maxRecDepth 100000 in
theorem sX11_says_1_1 (h : fz_H) (hI : fz_Iv h) (b x : Int) (hp0 : 0 ≤ b ∧ b ≤ 49) (hp1 : h 53 46 ≤ 897) (hp2 : h 81 b.toNat = 1) : fz_R 4 mX11_says 0 [(0, fz_r 53), (1, fz_i b), (2, fz_i 1), (3, fz_i x)] [] h (qX11_says_1_1 h b x) := by
  refine fz_knowl (fun hk => ?_)
  have hr_b : -2147483648 ≤ b ∧ b < 2147483648 := hk _ (List.Mem.tail _ (List.Mem.head _))
  have hr_x : -2147483648 ≤ x ∧ x < 2147483648 := hk _ (List.Mem.tail _ (List.Mem.tail _ (List.Mem.tail _ (List.Mem.head _))))
  clear hk
  have hf : fz_fr [(53, 46), (82, 99999)] h h := fz_fr_rf
  have b1 : 0 ≤ h 53 46 ∧ h 53 46 ≤ 1000 := hI.1 53 _
  refine fz_iload_n kX11_says rfl rfl ?_
  refine fz_tswC (j := 1) (tgt := 131) kX11_says rfl rfl (by decide) (by decide) rfl (by decide) ?_
  refine fz_aload_n kX11_says rfl rfl ?_
  refine fz_iload_n kX11_says rfl rfl ?_
  refine fz_iload_n kX11_says rfl rfl ?_
  refine fz_callS (d' := 0) (M' := mX11_above) (As := [fz_i 1]) (st := [fz_i b, fz_r 53]) kX11_says rfl rfl vX11_above rfl rfl (Nat.le_of_ble_eq_true rfl) (Nat.le_of_ble_eq_true rfl) (by decide) (sX11_above_1 h hI  ) (fun H2 r3 q4 o5 => ?_)
  obtain ⟨e6, y8, rfl, f7⟩ := q4
  subst H2
  clear o5
  refine fz_eqi (show y8 = 0 by omega) ?_
  refine fz_iload_n kX11_says rfl rfl ?_
  refine fz_callV (d' := 3) (M' := mX11_says) (As := [fz_i b, fz_i 0, fz_i x]) (st := []) kX11_says rfl rfl vX11_says rfl rfl rfl rfl (Nat.le_of_ble_eq_true rfl) (Nat.le_of_ble_eq_true rfl) (by decide) (sX11_says_1_0 h hI b x (by omega) (by omega) (by omega)) (fun H9 r10 q11 o12 => ?_)
  obtain ⟨hI13, hf14, y19, rfl, f15, f16, f17, f18⟩ := q11
  clear o12
  have hf20 := fz_fr_tr hf hf14 (show fz_su [(53, 46), (82, 99999)] [(53, 46), (82, 99999)] = true from rfl)
  exact fz_iret kX11_says rfl rfl (fun _ => ⟨hI13, hf20, _, rfl, (by omega), (by first | rfl | (rw [f16, lost]) | (rw [f16]) | (exfalso; omega)), (by simp only [List.length_cons, List.length_nil]; omega), (by first | exact fz_tc2 lost f18 lost (by omega) (by simp only [List.length_cons, List.length_nil]; omega) | exact fz_tc1 lost f18 (by omega) | exact fz_tc0 lost | exact f18 | (exfalso; omega))⟩)

abbrev qX11_fades_1_0 (h : fz_H) (b x : Int) : fz_H → Option fz_V → Prop := fun h' r0 => fz_Iv h' ∧ fz_fr [(53, 46), (82, 99999)] h h' ∧ ∃ r : Int, r0 = some (fz_i r) ∧ (h' 53 46 = h 53 46 + 1) ∧ (r = fz_xor x b) ∧ (h' 53 46 = h 53 46 + ([11] : List Int).length) ∧ (h' 82 = fz_tr (h 82) (h 53 46) [11])
set_option maxHeartbeats 1000000 in
set_option maxRecDepth 100000 in
theorem sX11_fades_1_0 (h : fz_H) (hI : fz_Iv h) (b x : Int) (hp0 : 0 ≤ b ∧ b ≤ 49) (hp1 : h 53 46 ≤ 899) (hp2 : h 81 b.toNat = 1) : fz_R 1 mX11_fades 0 [(0, fz_r 53), (1, fz_i b), (2, fz_i 0), (3, fz_i x)] [] h (qX11_fades_1_0 h b x) := by
  refine fz_knowl (fun hk => ?_)
  have hr_b : -2147483648 ≤ b ∧ b < 2147483648 := hk _ (List.Mem.tail _ (List.Mem.head _))
  have hr_x : -2147483648 ≤ x ∧ x < 2147483648 := hk _ (List.Mem.tail _ (List.Mem.tail _ (List.Mem.tail _ (List.Mem.head _))))
  clear hk
  have hf : fz_fr [(53, 46), (82, 99999)] h h := fz_fr_rf
  have b1 : 0 ≤ h 53 46 ∧ h 53 46 ≤ 1000 := hI.1 53 _
  refine fz_iload_n kX11_fades rfl rfl ?_
  refine fz_tswC (j := 0) (tgt := 36) kX11_fades rfl rfl (by decide) (by decide) rfl (by decide) ?_
  refine fz_aload_n kX11_fades rfl rfl ?_
  refine fz_bipush ⟨by decide, by decide⟩ kX11_fades rfl ?_
  refine fz_callV (d' := 0) (M' := mX11_ran) (As := [fz_i 11]) (st := []) kX11_fades rfl rfl vX11_ran rfl rfl rfl rfl (Nat.le_of_ble_eq_true rfl) (Nat.le_of_ble_eq_true rfl) (by decide) (sX11_ran h hI 11 (by omega)) (fun H2 r3 q4 o5 => ?_)
  obtain ⟨hI6, hf7, rfl, f8, f9⟩ := q4
  clear o5
  have hf10 := fz_fr_tr hf hf7 (show fz_su [(53, 46), (82, 99999)] [(53, 46), (82, 99999)] = true from rfl)
  refine fz_iload_n kX11_fades rfl rfl ?_
  refine fz_iload_n kX11_fades rfl rfl ?_
  refine fz_ixor kX11_fades rfl ?_
  have b11 : -2147483648 ≤ (fz_xor x b) ∧ (fz_xor x b) < 2147483648 := fz_b32 _
  exact fz_iret kX11_fades rfl rfl (fun _ => ⟨hI6, hf10, _, rfl, (by omega), (by first | rfl | (rw [lost, lost]) | (rw [lost]) | (exfalso; omega)), (by simp only [List.length_cons, List.length_nil]; omega), (by first | exact fz_tc2 f9 lost lost (by omega) (by simp only [List.length_cons, List.length_nil]; omega) | exact fz_tc1 f9 lost (by omega) | exact fz_tc0 f9 | exact lost | (exfalso; omega))⟩)

abbrev qX11_fades_1_1 (h : fz_H) (b x : Int) : fz_H → Option fz_V → Prop := fun h' r0 => fz_Iv h' ∧ fz_fr [(53, 46), (82, 99999)] h h' ∧ ∃ r : Int, r0 = some (fz_i r) ∧ (h' 53 46 = h 53 46 + 1) ∧ (r = fz_xor x b) ∧ (h' 53 46 = h 53 46 + ([11] : List Int).length) ∧ (h' 82 = fz_tr (h 82) (h 53 46) [11])
set_option maxHeartbeats 1000000 in
set_option maxRecDepth 100000 in
theorem sX11_fades_1_1 (h : fz_H) (hI : fz_Iv h) (b x : Int) (hp0 : 0 ≤ b ∧ b ≤ 49) (hp1 : h 53 46 ≤ 899) (hp2 : h 81 b.toNat = 1) : fz_R 2 mX11_fades 0 [(0, fz_r 53), (1, fz_i b), (2, fz_i 1), (3, fz_i x)] [] h (qX11_fades_1_1 h b x) := by
  refine fz_knowl (fun hk => ?_)
  have hr_b : -2147483648 ≤ b ∧ b < 2147483648 := hk _ (List.Mem.tail _ (List.Mem.head _))
  have hr_x : -2147483648 ≤ x ∧ x < 2147483648 := hk _ (List.Mem.tail _ (List.Mem.tail _ (List.Mem.tail _ (List.Mem.head _))))
  clear hk
  have hf : fz_fr [(53, 46), (82, 99999)] h h := fz_fr_rf
  have b1 : 0 ≤ h 53 46 ∧ h 53 46 ≤ 1000 := hI.1 53 _
  refine fz_iload_n kX11_fades rfl rfl ?_
  refine fz_tswC (j := 1) (tgt := 93) kX11_fades rfl rfl (by decide) (by decide) rfl (by decide) ?_
  refine fz_aload_n kX11_fades rfl rfl ?_
  refine fz_iload_n kX11_fades rfl rfl ?_
  refine fz_iload_n kX11_fades rfl rfl ?_
  refine fz_callS (d' := 0) (M' := mX11_above) (As := [fz_i 1]) (st := [fz_i b, fz_r 53]) kX11_fades rfl rfl vX11_above rfl rfl (Nat.le_of_ble_eq_true rfl) (Nat.le_of_ble_eq_true rfl) (by decide) (sX11_above_1 h hI  ) (fun H2 r3 q4 o5 => ?_)
  obtain ⟨e6, y8, rfl, f7⟩ := q4
  subst H2
  clear o5
  refine fz_eqi (show y8 = 0 by omega) ?_
  refine fz_iload_n kX11_fades rfl rfl ?_
  refine fz_callV (d' := 1) (M' := mX11_fades) (As := [fz_i b, fz_i 0, fz_i x]) (st := []) kX11_fades rfl rfl vX11_fades rfl rfl rfl rfl (Nat.le_of_ble_eq_true rfl) (Nat.le_of_ble_eq_true rfl) (by decide) (sX11_fades_1_0 h hI b x (by omega) (by omega) (by omega)) (fun H9 r10 q11 o12 => ?_)
  obtain ⟨hI13, hf14, y19, rfl, f15, f16, f17, f18⟩ := q11
  clear o12
  have hf20 := fz_fr_tr hf hf14 (show fz_su [(53, 46), (82, 99999)] [(53, 46), (82, 99999)] = true from rfl)
  exact fz_iret kX11_fades rfl rfl (fun _ => ⟨hI13, hf20, _, rfl, (by omega), (by first | rfl | (rw [f16, lost]) | (rw [f16]) | (exfalso; omega)), (by simp only [List.length_cons, List.length_nil]; omega), (by first | exact fz_tc2 lost f18 lost (by omega) (by simp only [List.length_cons, List.length_nil]; omega) | exact fz_tc1 lost f18 (by omega) | exact fz_tc0 lost | exact f18 | (exfalso; omega))⟩)

abbrev qX11_tells_1_0 (h : fz_H) (b x : Int) : fz_H → Option fz_V → Prop := fun h' r0 => fz_Iv h' ∧ fz_fr [(53, 46), (82, 99999)] h h' ∧ ∃ r : Int, r0 = some (fz_i r) ∧ (h' 53 46 = h 53 46 + 5) ∧ (r = fz_w (fz_w (fz_w (fz_w (x + b) + 3) * 2) - fz_xor 1 b)) ∧ (h' 53 46 = h 53 46 + ([2, 10, 20, 1, 11] : List Int).length) ∧ (h' 82 = fz_tr (h 82) (h 53 46) [2, 10, 20, 1, 11])
set_option maxHeartbeats 1000000 in
set_option maxRecDepth 100000 in
theorem sX11_tells_1_0 (h : fz_H) (hI : fz_Iv h) (b x : Int) (hp0 : 0 ≤ b ∧ b ≤ 49) (hp1 : h 53 46 ≤ 895) (hp2 : h 81 b.toNat = 1) : fz_R 5 mX11_tells 0 [(0, fz_r 53), (1, fz_i b), (2, fz_i 0), (3, fz_i x)] [] h (qX11_tells_1_0 h b x) := by
  refine fz_knowl (fun hk => ?_)
  have hr_b : -2147483648 ≤ b ∧ b < 2147483648 := hk _ (List.Mem.tail _ (List.Mem.head _))
  have hr_x : -2147483648 ≤ x ∧ x < 2147483648 := hk _ (List.Mem.tail _ (List.Mem.tail _ (List.Mem.tail _ (List.Mem.head _))))
  clear hk
  have hf : fz_fr [(53, 46), (82, 99999)] h h := fz_fr_rf
  have b1 : 0 ≤ h 53 46 ∧ h 53 46 ≤ 1000 := hI.1 53 _
  refine fz_iload_n kX11_tells rfl rfl ?_
  refine fz_lsw (tgt := 36) kX11_tells rfl (by decide) (show Op.lookupswitch.offset [(0, 35), (5, 70), (7, 86)] 102 0 = 35 from rfl) (by decide) ?_
  refine fz_aload_n kX11_tells rfl rfl ?_
  refine fz_iconst ⟨by decide, by decide⟩ kX11_tells rfl ?_
  refine fz_callV (d' := 0) (M' := mX11_ran) (As := [fz_i 2]) (st := []) kX11_tells rfl rfl vX11_ran rfl rfl rfl rfl (Nat.le_of_ble_eq_true rfl) (Nat.le_of_ble_eq_true rfl) (by decide) (sX11_ran h hI 2 (by omega)) (fun H2 r3 q4 o5 => ?_)
  obtain ⟨hI6, hf7, rfl, f8, f9⟩ := q4
  clear o5
  have hf10 := fz_fr_tr hf hf7 (show fz_su [(53, 46), (82, 99999)] [(53, 46), (82, 99999)] = true from rfl)
  refine fz_aload_n kX11_tells rfl rfl ?_
  refine fz_iload_n kX11_tells rfl rfl ?_
  refine fz_aload_n kX11_tells rfl rfl ?_
  refine fz_getR (t := 81) kX11_tells rfl rfl ?_
  refine fz_iload_n kX11_tells rfl rfl ?_
  refine fz_ialdV (n := 50) (v := h 81 (b.toNat)) kX11_tells rfl rfl (by omega) (by omega) (hf10 81 _ rfl) ?_
  have b11 : 0 ≤ h 81 (b.toNat) ∧ h 81 (b.toNat) ≤ 7 := hI.1 81 _
  refine fz_eqi (show (h 81 (b.toNat)) = 1 by omega) ?_
  refine fz_iload_n kX11_tells rfl rfl ?_
  have b12 : 0 ≤ H2 53 46 ∧ H2 53 46 ≤ 1000 := hI6.1 53 _
  have e13 : H2 81 b.toNat = h 81 b.toNat := hf10 81 _ rfl
  refine fz_callV (d' := 4) (M' := mX11_says) (As := [fz_i b, fz_i 1, fz_i x]) (st := []) kX11_tells rfl rfl vX11_says rfl rfl rfl rfl (Nat.le_of_ble_eq_true rfl) (Nat.le_of_ble_eq_true rfl) (by decide) (sX11_says_1_1 H2 hI6 b x (by omega) (by omega) (by omega)) (fun H14 r15 q16 o17 => ?_)
  obtain ⟨hI18, hf19, y24, rfl, f20, f21, f22, f23⟩ := q16
  clear o17
  have hf25 := fz_fr_tr hf10 hf19 (show fz_su [(53, 46), (82, 99999)] [(53, 46), (82, 99999)] = true from rfl)
  refine fz_istore (ls' := [(4, fz_i y24), (0, fz_r 53), (1, fz_i b), (2, fz_i 0), (3, fz_i x)]) kX11_tells rfl (by decide) rfl ?_
  refine fz_iload kX11_tells rfl rfl ?_
  refine fz_aload_n kX11_tells rfl rfl ?_
  refine fz_iload_n kX11_tells rfl rfl ?_
  refine fz_aload_n kX11_tells rfl rfl ?_
  refine fz_getR (t := 81) kX11_tells rfl rfl ?_
  refine fz_iload_n kX11_tells rfl rfl ?_
  refine fz_ialdV (n := 50) (v := h 81 (b.toNat)) kX11_tells rfl rfl (by omega) (by omega) (hf25 81 _ rfl) ?_
  refine fz_eqi (show (h 81 (b.toNat)) = 1 by omega) ?_
  refine fz_iconst ⟨by decide, by decide⟩ kX11_tells rfl ?_
  have b26 : 0 ≤ H14 53 46 ∧ H14 53 46 ≤ 1000 := hI18.1 53 _
  have e27 : H14 81 b.toNat = h 81 b.toNat := hf25 81 _ rfl
  refine fz_callV (d' := 2) (M' := mX11_fades) (As := [fz_i b, fz_i 1, fz_i 1]) (st := [fz_i y24]) kX11_tells rfl rfl vX11_fades rfl rfl rfl rfl (Nat.le_of_ble_eq_true rfl) (Nat.le_of_ble_eq_true rfl) (by decide) (sX11_fades_1_1 H14 hI18 b 1 (by omega) (by omega) (by omega)) (fun H28 r29 q30 o31 => ?_)
  obtain ⟨hI32, hf33, y38, rfl, f34, f35, f36, f37⟩ := q30
  clear o31
  have hf39 := fz_fr_tr hf25 hf33 (show fz_su [(53, 46), (82, 99999)] [(53, 46), (82, 99999)] = true from rfl)
  refine fz_isub kX11_tells rfl ?_
  have b40 := fz_w_b (y24 - y38)
  exact fz_iret kX11_tells rfl rfl (fun _ => ⟨hI32, hf39, _, rfl, (by omega), (by first | rfl | (rw [f21, f35]) | (rw [f21]) | (exfalso; omega)), (by simp only [List.length_cons, List.length_nil]; omega), (by first | exact fz_tc2 f9 f23 f37 (by omega) (by simp only [List.length_cons, List.length_nil]; omega) | exact fz_tc1 f9 f23 (by omega) | exact fz_tc0 f9 | exact f23 | (exfalso; omega))⟩)

abbrev qX11_tells_1_1 (h : fz_H) (b x : Int) : fz_H → Option fz_V → Prop := fun h' r0 => fz_Iv h' ∧ fz_fr [(53, 46), (82, 99999)] h h' ∧ ∃ r : Int, r0 = some (fz_i r) ∧ (h' 53 46 = h 53 46 + 5) ∧ (r = fz_w (fz_w (fz_w (fz_w (x + b) + 3) * 2) - fz_xor 1 b)) ∧ (h' 53 46 = h 53 46 + ([2, 10, 20, 1, 11] : List Int).length) ∧ (h' 82 = fz_tr (h 82) (h 53 46) [2, 10, 20, 1, 11])
set_option maxHeartbeats 1000000 in
set_option maxRecDepth 100000 in
theorem sX11_tells_1_1 (h : fz_H) (hI : fz_Iv h) (b x : Int) (hp0 : 0 ≤ b ∧ b ≤ 49) (hp1 : h 53 46 ≤ 895) (hp2 : h 81 b.toNat = 1) : fz_R 6 mX11_tells 0 [(0, fz_r 53), (1, fz_i b), (2, fz_i 1), (3, fz_i x)] [] h (qX11_tells_1_1 h b x) := by
  refine fz_knowl (fun hk => ?_)
  have hr_b : -2147483648 ≤ b ∧ b < 2147483648 := hk _ (List.Mem.tail _ (List.Mem.head _))
  have hr_x : -2147483648 ≤ x ∧ x < 2147483648 := hk _ (List.Mem.tail _ (List.Mem.tail _ (List.Mem.tail _ (List.Mem.head _))))
  clear hk
  have hf : fz_fr [(53, 46), (82, 99999)] h h := fz_fr_rf
  have b1 : 0 ≤ h 53 46 ∧ h 53 46 ≤ 1000 := hI.1 53 _
  refine fz_iload_n kX11_tells rfl rfl ?_
  refine fz_lsw (tgt := 103) kX11_tells rfl (by decide) (show Op.lookupswitch.offset [(0, 35), (5, 70), (7, 86)] 102 1 = 102 from rfl) (by decide) ?_
  refine fz_aload_n kX11_tells rfl rfl ?_
  refine fz_iload_n kX11_tells rfl rfl ?_
  refine fz_iload_n kX11_tells rfl rfl ?_
  refine fz_callS (d' := 0) (M' := mX11_above) (As := [fz_i 1]) (st := [fz_i b, fz_r 53]) kX11_tells rfl rfl vX11_above rfl rfl (Nat.le_of_ble_eq_true rfl) (Nat.le_of_ble_eq_true rfl) (by decide) (sX11_above_1 h hI  ) (fun H2 r3 q4 o5 => ?_)
  obtain ⟨e6, y8, rfl, f7⟩ := q4
  subst H2
  clear o5
  refine fz_eqi (show y8 = 0 by omega) ?_
  refine fz_iload_n kX11_tells rfl rfl ?_
  refine fz_callV (d' := 5) (M' := mX11_tells) (As := [fz_i b, fz_i 0, fz_i x]) (st := []) kX11_tells rfl rfl vX11_tells rfl rfl rfl rfl (Nat.le_of_ble_eq_true rfl) (Nat.le_of_ble_eq_true rfl) (by decide) (sX11_tells_1_0 h hI b x (by omega) (by omega) (by omega)) (fun H9 r10 q11 o12 => ?_)
  obtain ⟨hI13, hf14, y19, rfl, f15, f16, f17, f18⟩ := q11
  clear o12
  have hf20 := fz_fr_tr hf hf14 (show fz_su [(53, 46), (82, 99999)] [(53, 46), (82, 99999)] = true from rfl)
  exact fz_iret kX11_tells rfl rfl (fun _ => ⟨hI13, hf20, _, rfl, (by omega), (by first | rfl | (rw [f16, lost]) | (rw [f16]) | (exfalso; omega)), (by simp only [List.length_cons, List.length_nil]; omega), (by first | exact fz_tc2 lost f18 lost (by omega) (by simp only [List.length_cons, List.length_nil]; omega) | exact fz_tc1 lost f18 (by omega) | exact fz_tc0 lost | exact f18 | (exfalso; omega))⟩)

abbrev qX11_goes_2_0 (h : fz_H) (b x : Int) : fz_H → Option fz_V → Prop := fun h' r0 => fz_Iv h' ∧ fz_fr [(53, 46), (82, 99999)] h h' ∧ ∃ r : Int, r0 = some (fz_i r) ∧ (h' 53 46 = h 53 46 + 1) ∧ (r = fz_w (x + b)) ∧ (h' 53 46 = h 53 46 + ([1] : List Int).length) ∧ (h' 82 = fz_tr (h 82) (h 53 46) [1])
set_option maxHeartbeats 1000000 in
set_option maxRecDepth 100000 in
theorem sX11_goes_2_0 (h : fz_H) (hI : fz_Iv h) (b x : Int) (hp0 : 0 ≤ b ∧ b ≤ 49) (hp1 : h 53 46 ≤ 899) (hp2 : h 81 b.toNat = 2) : fz_R 1 mX11_goes 0 [(0, fz_r 53), (1, fz_i b), (2, fz_i 0), (3, fz_i x)] [] h (qX11_goes_2_0 h b x) := by
  refine fz_knowl (fun hk => ?_)
  have hr_b : -2147483648 ≤ b ∧ b < 2147483648 := hk _ (List.Mem.tail _ (List.Mem.head _))
  have hr_x : -2147483648 ≤ x ∧ x < 2147483648 := hk _ (List.Mem.tail _ (List.Mem.tail _ (List.Mem.tail _ (List.Mem.head _))))
  clear hk
  have hf : fz_fr [(53, 46), (82, 99999)] h h := fz_fr_rf
  have b1 : 0 ≤ h 53 46 ∧ h 53 46 ≤ 1000 := hI.1 53 _
  refine fz_iload_n kX11_goes rfl rfl ?_
  refine fz_lsw (tgt := 36) kX11_goes rfl (by decide) (show Op.lookupswitch.offset [(0, 35), (1, 44), (6, 60)] 76 0 = 35 from rfl) (by decide) ?_
  refine fz_aload_n kX11_goes rfl rfl ?_
  refine fz_iconst ⟨by decide, by decide⟩ kX11_goes rfl ?_
  refine fz_callV (d' := 0) (M' := mX11_ran) (As := [fz_i 1]) (st := []) kX11_goes rfl rfl vX11_ran rfl rfl rfl rfl (Nat.le_of_ble_eq_true rfl) (Nat.le_of_ble_eq_true rfl) (by decide) (sX11_ran h hI 1 (by omega)) (fun H2 r3 q4 o5 => ?_)
  obtain ⟨hI6, hf7, rfl, f8, f9⟩ := q4
  clear o5
  have hf10 := fz_fr_tr hf hf7 (show fz_su [(53, 46), (82, 99999)] [(53, 46), (82, 99999)] = true from rfl)
  refine fz_iload_n kX11_goes rfl rfl ?_
  refine fz_iload_n kX11_goes rfl rfl ?_
  refine fz_iadd kX11_goes rfl ?_
  have b11 := fz_w_b (x + b)
  exact fz_iret kX11_goes rfl rfl (fun _ => ⟨hI6, hf10, _, rfl, (by omega), (by first | rfl | (rw [lost, lost]) | (rw [lost]) | (exfalso; omega)), (by simp only [List.length_cons, List.length_nil]; omega), (by first | exact fz_tc2 f9 lost lost (by omega) (by simp only [List.length_cons, List.length_nil]; omega) | exact fz_tc1 f9 lost (by omega) | exact fz_tc0 f9 | exact lost | (exfalso; omega))⟩)

abbrev qX11_goes_2_2 (h : fz_H) (b x : Int) : fz_H → Option fz_V → Prop := fun h' r0 => fz_Iv h' ∧ fz_fr [(53, 46), (82, 99999)] h h' ∧ ∃ r : Int, r0 = some (fz_i r) ∧ (h' 53 46 = h 53 46 + 1) ∧ (r = fz_w (x + b)) ∧ (h' 53 46 = h 53 46 + ([1] : List Int).length) ∧ (h' 82 = fz_tr (h 82) (h 53 46) [1])
set_option maxHeartbeats 1000000 in
set_option maxRecDepth 100000 in
theorem sX11_goes_2_2 (h : fz_H) (hI : fz_Iv h) (b x : Int) (hp0 : 0 ≤ b ∧ b ≤ 49) (hp1 : h 53 46 ≤ 899) (hp2 : h 81 b.toNat = 2) : fz_R 2 mX11_goes 0 [(0, fz_r 53), (1, fz_i b), (2, fz_i 2), (3, fz_i x)] [] h (qX11_goes_2_2 h b x) := by
  refine fz_knowl (fun hk => ?_)
  have hr_b : -2147483648 ≤ b ∧ b < 2147483648 := hk _ (List.Mem.tail _ (List.Mem.head _))
  have hr_x : -2147483648 ≤ x ∧ x < 2147483648 := hk _ (List.Mem.tail _ (List.Mem.tail _ (List.Mem.tail _ (List.Mem.head _))))
  clear hk
  have hf : fz_fr [(53, 46), (82, 99999)] h h := fz_fr_rf
  have b1 : 0 ≤ h 53 46 ∧ h 53 46 ≤ 1000 := hI.1 53 _
  refine fz_iload_n kX11_goes rfl rfl ?_
  refine fz_lsw (tgt := 77) kX11_goes rfl (by decide) (show Op.lookupswitch.offset [(0, 35), (1, 44), (6, 60)] 76 2 = 76 from rfl) (by decide) ?_
  refine fz_aload_n kX11_goes rfl rfl ?_
  refine fz_iload_n kX11_goes rfl rfl ?_
  refine fz_iload_n kX11_goes rfl rfl ?_
  refine fz_callS (d' := 0) (M' := mX11_above) (As := [fz_i 2]) (st := [fz_i b, fz_r 53]) kX11_goes rfl rfl vX11_above rfl rfl (Nat.le_of_ble_eq_true rfl) (Nat.le_of_ble_eq_true rfl) (by decide) (sX11_above_2 h hI  ) (fun H2 r3 q4 o5 => ?_)
  obtain ⟨e6, y8, rfl, f7⟩ := q4
  subst H2
  clear o5
  refine fz_eqi (show y8 = 0 by omega) ?_
  refine fz_iload_n kX11_goes rfl rfl ?_
  refine fz_callV (d' := 1) (M' := mX11_goes) (As := [fz_i b, fz_i 0, fz_i x]) (st := []) kX11_goes rfl rfl vX11_goes rfl rfl rfl rfl (Nat.le_of_ble_eq_true rfl) (Nat.le_of_ble_eq_true rfl) (by decide) (sX11_goes_2_0 h hI b x (by omega) (by omega) (by omega)) (fun H9 r10 q11 o12 => ?_)
  obtain ⟨hI13, hf14, y19, rfl, f15, f16, f17, f18⟩ := q11
  clear o12
  have hf20 := fz_fr_tr hf hf14 (show fz_su [(53, 46), (82, 99999)] [(53, 46), (82, 99999)] = true from rfl)
  exact fz_iret kX11_goes rfl rfl (fun _ => ⟨hI13, hf20, _, rfl, (by omega), (by first | rfl | (rw [f16, lost]) | (rw [f16]) | (exfalso; omega)), (by simp only [List.length_cons, List.length_nil]; omega), (by first | exact fz_tc2 lost f18 lost (by omega) (by simp only [List.length_cons, List.length_nil]; omega) | exact fz_tc1 lost f18 (by omega) | exact fz_tc0 lost | exact f18 | (exfalso; omega))⟩)

abbrev qX11_says_2_0 (h : fz_H) (b x : Int) : fz_H → Option fz_V → Prop := fun h' r0 => fz_Iv h' ∧ fz_fr [(53, 46), (82, 99999)] h h' ∧ ∃ r : Int, r0 = some (fz_i r) ∧ (h' 53 46 = h 53 46 + 2) ∧ (r = fz_w (fz_w (x + b) * 2)) ∧ (h' 53 46 = h 53 46 + ([10, 1] : List Int).length) ∧ (h' 82 = fz_tr (h 82) (h 53 46) [10, 1])
set_option maxHeartbeats 1000000 in
set_option maxRecDepth 100000 in
theorem sX11_says_2_0 (h : fz_H) (hI : fz_Iv h) (b x : Int) (hp0 : 0 ≤ b ∧ b ≤ 49) (hp1 : h 53 46 ≤ 898) (hp2 : h 81 b.toNat = 2) : fz_R 3 mX11_says 0 [(0, fz_r 53), (1, fz_i b), (2, fz_i 0), (3, fz_i x)] [] h (qX11_says_2_0 h b x) := by
  refine fz_knowl (fun hk => ?_)
  have hr_b : -2147483648 ≤ b ∧ b < 2147483648 := hk _ (List.Mem.tail _ (List.Mem.head _))
  have hr_x : -2147483648 ≤ x ∧ x < 2147483648 := hk _ (List.Mem.tail _ (List.Mem.tail _ (List.Mem.tail _ (List.Mem.head _))))
  clear hk
  have hf : fz_fr [(53, 46), (82, 99999)] h h := fz_fr_rf
  have b1 : 0 ≤ h 53 46 ∧ h 53 46 ≤ 1000 := hI.1 53 _
  refine fz_iload_n kX11_says rfl rfl ?_
  refine fz_tswC (j := 0) (tgt := 48) kX11_says rfl rfl (by decide) (by decide) rfl (by decide) ?_
  refine fz_aload_n kX11_says rfl rfl ?_
  refine fz_bipush ⟨by decide, by decide⟩ kX11_says rfl ?_
  refine fz_callV (d' := 0) (M' := mX11_ran) (As := [fz_i 10]) (st := []) kX11_says rfl rfl vX11_ran rfl rfl rfl rfl (Nat.le_of_ble_eq_true rfl) (Nat.le_of_ble_eq_true rfl) (by decide) (sX11_ran h hI 10 (by omega)) (fun H2 r3 q4 o5 => ?_)
  obtain ⟨hI6, hf7, rfl, f8, f9⟩ := q4
  clear o5
  have hf10 := fz_fr_tr hf hf7 (show fz_su [(53, 46), (82, 99999)] [(53, 46), (82, 99999)] = true from rfl)
  refine fz_aload_n kX11_says rfl rfl ?_
  refine fz_iload_n kX11_says rfl rfl ?_
  refine fz_aload_n kX11_says rfl rfl ?_
  refine fz_getR (t := 81) kX11_says rfl rfl ?_
  refine fz_iload_n kX11_says rfl rfl ?_
  refine fz_ialdV (n := 50) (v := h 81 (b.toNat)) kX11_says rfl rfl (by omega) (by omega) (hf10 81 _ rfl) ?_
  have b11 : 0 ≤ h 81 (b.toNat) ∧ h 81 (b.toNat) ≤ 7 := hI.1 81 _
  refine fz_eqi (show (h 81 (b.toNat)) = 2 by omega) ?_
  refine fz_iload_n kX11_says rfl rfl ?_
  have b12 : 0 ≤ H2 53 46 ∧ H2 53 46 ≤ 1000 := hI6.1 53 _
  have e13 : H2 81 b.toNat = h 81 b.toNat := hf10 81 _ rfl
  refine fz_callV (d' := 2) (M' := mX11_goes) (As := [fz_i b, fz_i 2, fz_i x]) (st := []) kX11_says rfl rfl vX11_goes rfl rfl rfl rfl (Nat.le_of_ble_eq_true rfl) (Nat.le_of_ble_eq_true rfl) (by decide) (sX11_goes_2_2 H2 hI6 b x (by omega) (by omega) (by omega)) (fun H14 r15 q16 o17 => ?_)
  obtain ⟨hI18, hf19, y24, rfl, f20, f21, f22, f23⟩ := q16
  clear o17
  have hf25 := fz_fr_tr hf10 hf19 (show fz_su [(53, 46), (82, 99999)] [(53, 46), (82, 99999)] = true from rfl)
  refine fz_iconst ⟨by decide, by decide⟩ kX11_says rfl ?_
  refine fz_imul kX11_says rfl ?_
  have b26 := fz_w_b (y24 * 2)
  exact fz_iret kX11_says rfl rfl (fun _ => ⟨hI18, hf25, _, rfl, (by omega), (by first | rfl | (rw [f21, lost]) | (rw [f21]) | (exfalso; omega)), (by simp only [List.length_cons, List.length_nil]; omega), (by first | exact fz_tc2 f9 f23 lost (by omega) (by simp only [List.length_cons, List.length_nil]; omega) | exact fz_tc1 f9 f23 (by omega) | exact fz_tc0 f9 | exact f23 | (exfalso; omega))⟩)

abbrev qX11_says_2_2 (h : fz_H) (b x : Int) : fz_H → Option fz_V → Prop := fun h' r0 => fz_Iv h' ∧ fz_fr [(53, 46), (82, 99999)] h h' ∧ ∃ r : Int, r0 = some (fz_i r) ∧ (h' 53 46 = h 53 46 + 3) ∧ (r = fz_w (-(fz_w (fz_w (x + b) * 2)))) ∧ (h' 53 46 = h 53 46 + ([30, 10, 1] : List Int).length) ∧ (h' 82 = fz_tr (h 82) (h 53 46) [30, 10, 1])
set_option maxHeartbeats 1000000 in
set_option maxRecDepth 100000 in
theorem sX11_says_2_2 (h : fz_H) (hI : fz_Iv h) (b x : Int) (hp0 : 0 ≤ b ∧ b ≤ 49) (hp1 : h 53 46 ≤ 897) (hp2 : h 81 b.toNat = 2) : fz_R 4 mX11_says 0 [(0, fz_r 53), (1, fz_i b), (2, fz_i 2), (3, fz_i x)] [] h (qX11_says_2_2 h b x) := by
  refine fz_knowl (fun hk => ?_)
  have hr_b : -2147483648 ≤ b ∧ b < 2147483648 := hk _ (List.Mem.tail _ (List.Mem.head _))
  have hr_x : -2147483648 ≤ x ∧ x < 2147483648 := hk _ (List.Mem.tail _ (List.Mem.tail _ (List.Mem.tail _ (List.Mem.head _))))
  clear hk
  have hf : fz_fr [(53, 46), (82, 99999)] h h := fz_fr_rf
  have b1 : 0 ≤ h 53 46 ∧ h 53 46 ≤ 1000 := hI.1 53 _
  refine fz_iload_n kX11_says rfl rfl ?_
  refine fz_tswC (j := 2) (tgt := 69) kX11_says rfl rfl (by decide) (by decide) rfl (by decide) ?_
  refine fz_aload_n kX11_says rfl rfl ?_
  refine fz_bipush ⟨by decide, by decide⟩ kX11_says rfl ?_
  refine fz_callV (d' := 0) (M' := mX11_ran) (As := [fz_i 30]) (st := []) kX11_says rfl rfl vX11_ran rfl rfl rfl rfl (Nat.le_of_ble_eq_true rfl) (Nat.le_of_ble_eq_true rfl) (by decide) (sX11_ran h hI 30 (by omega)) (fun H2 r3 q4 o5 => ?_)
  obtain ⟨hI6, hf7, rfl, f8, f9⟩ := q4
  clear o5
  have hf10 := fz_fr_tr hf hf7 (show fz_su [(53, 46), (82, 99999)] [(53, 46), (82, 99999)] = true from rfl)
  refine fz_aload_n kX11_says rfl rfl ?_
  refine fz_iload_n kX11_says rfl rfl ?_
  refine fz_iconst ⟨by decide, by decide⟩ kX11_says rfl ?_
  refine fz_iload_n kX11_says rfl rfl ?_
  have b11 : 0 ≤ H2 53 46 ∧ H2 53 46 ≤ 1000 := hI6.1 53 _
  have e12 : H2 81 b.toNat = h 81 b.toNat := hf10 81 _ rfl
  refine fz_callV (d' := 3) (M' := mX11_says) (As := [fz_i b, fz_i 0, fz_i x]) (st := []) kX11_says rfl rfl vX11_says rfl rfl rfl rfl (Nat.le_of_ble_eq_true rfl) (Nat.le_of_ble_eq_true rfl) (by decide) (sX11_says_2_0 H2 hI6 b x (by omega) (by omega) (by omega)) (fun H13 r14 q15 o16 => ?_)
  obtain ⟨hI17, hf18, y23, rfl, f19, f20, f21, f22⟩ := q15
  clear o16
  have hf24 := fz_fr_tr hf10 hf18 (show fz_su [(53, 46), (82, 99999)] [(53, 46), (82, 99999)] = true from rfl)
  refine fz_ineg kX11_says rfl ?_
  have b25 := fz_w_b (-y23)
  exact fz_iret kX11_says rfl rfl (fun _ => ⟨hI17, hf24, _, rfl, (by omega), (by first | rfl | (rw [f20, lost]) | (rw [f20]) | (exfalso; omega)), (by simp only [List.length_cons, List.length_nil]; omega), (by first | exact fz_tc2 f9 f22 lost (by omega) (by simp only [List.length_cons, List.length_nil]; omega) | exact fz_tc1 f9 f22 (by omega) | exact fz_tc0 f9 | exact f22 | (exfalso; omega))⟩)

abbrev qX11_fades_2_0 (h : fz_H) (b x : Int) : fz_H → Option fz_V → Prop := fun h' r0 => fz_Iv h' ∧ fz_fr [(53, 46), (82, 99999)] h h' ∧ ∃ r : Int, r0 = some (fz_i r) ∧ (h' 53 46 = h 53 46 + 1) ∧ (r = fz_xor x b) ∧ (h' 53 46 = h 53 46 + ([11] : List Int).length) ∧ (h' 82 = fz_tr (h 82) (h 53 46) [11])
set_option maxHeartbeats 1000000 in
set_option maxRecDepth 100000 in
theorem sX11_fades_2_0 (h : fz_H) (hI : fz_Iv h) (b x : Int) (hp0 : 0 ≤ b ∧ b ≤ 49) (hp1 : h 53 46 ≤ 899) (hp2 : h 81 b.toNat = 2) : fz_R 1 mX11_fades 0 [(0, fz_r 53), (1, fz_i b), (2, fz_i 0), (3, fz_i x)] [] h (qX11_fades_2_0 h b x) := by
  refine fz_knowl (fun hk => ?_)
  have hr_b : -2147483648 ≤ b ∧ b < 2147483648 := hk _ (List.Mem.tail _ (List.Mem.head _))
  have hr_x : -2147483648 ≤ x ∧ x < 2147483648 := hk _ (List.Mem.tail _ (List.Mem.tail _ (List.Mem.tail _ (List.Mem.head _))))
  clear hk
  have hf : fz_fr [(53, 46), (82, 99999)] h h := fz_fr_rf
  have b1 : 0 ≤ h 53 46 ∧ h 53 46 ≤ 1000 := hI.1 53 _
  refine fz_iload_n kX11_fades rfl rfl ?_
  refine fz_tswC (j := 0) (tgt := 36) kX11_fades rfl rfl (by decide) (by decide) rfl (by decide) ?_
  refine fz_aload_n kX11_fades rfl rfl ?_
  refine fz_bipush ⟨by decide, by decide⟩ kX11_fades rfl ?_
  refine fz_callV (d' := 0) (M' := mX11_ran) (As := [fz_i 11]) (st := []) kX11_fades rfl rfl vX11_ran rfl rfl rfl rfl (Nat.le_of_ble_eq_true rfl) (Nat.le_of_ble_eq_true rfl) (by decide) (sX11_ran h hI 11 (by omega)) (fun H2 r3 q4 o5 => ?_)
  obtain ⟨hI6, hf7, rfl, f8, f9⟩ := q4
  clear o5
  have hf10 := fz_fr_tr hf hf7 (show fz_su [(53, 46), (82, 99999)] [(53, 46), (82, 99999)] = true from rfl)
  refine fz_iload_n kX11_fades rfl rfl ?_
  refine fz_iload_n kX11_fades rfl rfl ?_
  refine fz_ixor kX11_fades rfl ?_
  have b11 : -2147483648 ≤ (fz_xor x b) ∧ (fz_xor x b) < 2147483648 := fz_b32 _
  exact fz_iret kX11_fades rfl rfl (fun _ => ⟨hI6, hf10, _, rfl, (by omega), (by first | rfl | (rw [lost, lost]) | (rw [lost]) | (exfalso; omega)), (by simp only [List.length_cons, List.length_nil]; omega), (by first | exact fz_tc2 f9 lost lost (by omega) (by simp only [List.length_cons, List.length_nil]; omega) | exact fz_tc1 f9 lost (by omega) | exact fz_tc0 f9 | exact lost | (exfalso; omega))⟩)

abbrev qX11_fades_2_2 (h : fz_H) (b x : Int) : fz_H → Option fz_V → Prop := fun h' r0 => fz_Iv h' ∧ fz_fr [(53, 46), (82, 99999)] h h' ∧ ∃ r : Int, r0 = some (fz_i r) ∧ (h' 53 46 = h 53 46 + 1) ∧ (r = fz_xor x b) ∧ (h' 53 46 = h 53 46 + ([11] : List Int).length) ∧ (h' 82 = fz_tr (h 82) (h 53 46) [11])
set_option maxHeartbeats 1000000 in
set_option maxRecDepth 100000 in
theorem sX11_fades_2_2 (h : fz_H) (hI : fz_Iv h) (b x : Int) (hp0 : 0 ≤ b ∧ b ≤ 49) (hp1 : h 53 46 ≤ 899) (hp2 : h 81 b.toNat = 2) : fz_R 2 mX11_fades 0 [(0, fz_r 53), (1, fz_i b), (2, fz_i 2), (3, fz_i x)] [] h (qX11_fades_2_2 h b x) := by
  refine fz_knowl (fun hk => ?_)
  have hr_b : -2147483648 ≤ b ∧ b < 2147483648 := hk _ (List.Mem.tail _ (List.Mem.head _))
  have hr_x : -2147483648 ≤ x ∧ x < 2147483648 := hk _ (List.Mem.tail _ (List.Mem.tail _ (List.Mem.tail _ (List.Mem.head _))))
  clear hk
  have hf : fz_fr [(53, 46), (82, 99999)] h h := fz_fr_rf
  have b1 : 0 ≤ h 53 46 ∧ h 53 46 ≤ 1000 := hI.1 53 _
  refine fz_iload_n kX11_fades rfl rfl ?_
  refine fz_tswC (j := 2) (tgt := 93) kX11_fades rfl rfl (by decide) (by decide) rfl (by decide) ?_
  refine fz_aload_n kX11_fades rfl rfl ?_
  refine fz_iload_n kX11_fades rfl rfl ?_
  refine fz_iload_n kX11_fades rfl rfl ?_
  refine fz_callS (d' := 0) (M' := mX11_above) (As := [fz_i 2]) (st := [fz_i b, fz_r 53]) kX11_fades rfl rfl vX11_above rfl rfl (Nat.le_of_ble_eq_true rfl) (Nat.le_of_ble_eq_true rfl) (by decide) (sX11_above_2 h hI  ) (fun H2 r3 q4 o5 => ?_)
  obtain ⟨e6, y8, rfl, f7⟩ := q4
  subst H2
  clear o5
  refine fz_eqi (show y8 = 0 by omega) ?_
  refine fz_iload_n kX11_fades rfl rfl ?_
  refine fz_callV (d' := 1) (M' := mX11_fades) (As := [fz_i b, fz_i 0, fz_i x]) (st := []) kX11_fades rfl rfl vX11_fades rfl rfl rfl rfl (Nat.le_of_ble_eq_true rfl) (Nat.le_of_ble_eq_true rfl) (by decide) (sX11_fades_2_0 h hI b x (by omega) (by omega) (by omega)) (fun H9 r10 q11 o12 => ?_)
  obtain ⟨hI13, hf14, y19, rfl, f15, f16, f17, f18⟩ := q11
  clear o12
  have hf20 := fz_fr_tr hf hf14 (show fz_su [(53, 46), (82, 99999)] [(53, 46), (82, 99999)] = true from rfl)
  exact fz_iret kX11_fades rfl rfl (fun _ => ⟨hI13, hf20, _, rfl, (by omega), (by first | rfl | (rw [f16, lost]) | (rw [f16]) | (exfalso; omega)), (by simp only [List.length_cons, List.length_nil]; omega), (by first | exact fz_tc2 lost f18 lost (by omega) (by simp only [List.length_cons, List.length_nil]; omega) | exact fz_tc1 lost f18 (by omega) | exact fz_tc0 lost | exact f18 | (exfalso; omega))⟩)

abbrev qX11_tells_2_0 (h : fz_H) (b x : Int) : fz_H → Option fz_V → Prop := fun h' r0 => fz_Iv h' ∧ fz_fr [(53, 46), (82, 99999)] h h' ∧ ∃ r : Int, r0 = some (fz_i r) ∧ (h' 53 46 = h 53 46 + 5) ∧ (r = fz_w (fz_w (-(fz_w (fz_w (x + b) * 2))) - fz_xor 1 b)) ∧ (h' 53 46 = h 53 46 + ([2, 30, 10, 1, 11] : List Int).length) ∧ (h' 82 = fz_tr (h 82) (h 53 46) [2, 30, 10, 1, 11])
set_option maxHeartbeats 1000000 in
set_option maxRecDepth 100000 in
theorem sX11_tells_2_0 (h : fz_H) (hI : fz_Iv h) (b x : Int) (hp0 : 0 ≤ b ∧ b ≤ 49) (hp1 : h 53 46 ≤ 895) (hp2 : h 81 b.toNat = 2) : fz_R 5 mX11_tells 0 [(0, fz_r 53), (1, fz_i b), (2, fz_i 0), (3, fz_i x)] [] h (qX11_tells_2_0 h b x) := by
  refine fz_knowl (fun hk => ?_)
  have hr_b : -2147483648 ≤ b ∧ b < 2147483648 := hk _ (List.Mem.tail _ (List.Mem.head _))
  have hr_x : -2147483648 ≤ x ∧ x < 2147483648 := hk _ (List.Mem.tail _ (List.Mem.tail _ (List.Mem.tail _ (List.Mem.head _))))
  clear hk
  have hf : fz_fr [(53, 46), (82, 99999)] h h := fz_fr_rf
  have b1 : 0 ≤ h 53 46 ∧ h 53 46 ≤ 1000 := hI.1 53 _
  refine fz_iload_n kX11_tells rfl rfl ?_
  refine fz_lsw (tgt := 36) kX11_tells rfl (by decide) (show Op.lookupswitch.offset [(0, 35), (5, 70), (7, 86)] 102 0 = 35 from rfl) (by decide) ?_
  refine fz_aload_n kX11_tells rfl rfl ?_
  refine fz_iconst ⟨by decide, by decide⟩ kX11_tells rfl ?_
  refine fz_callV (d' := 0) (M' := mX11_ran) (As := [fz_i 2]) (st := []) kX11_tells rfl rfl vX11_ran rfl rfl rfl rfl (Nat.le_of_ble_eq_true rfl) (Nat.le_of_ble_eq_true rfl) (by decide) (sX11_ran h hI 2 (by omega)) (fun H2 r3 q4 o5 => ?_)
  obtain ⟨hI6, hf7, rfl, f8, f9⟩ := q4
  clear o5
  have hf10 := fz_fr_tr hf hf7 (show fz_su [(53, 46), (82, 99999)] [(53, 46), (82, 99999)] = true from rfl)
  refine fz_aload_n kX11_tells rfl rfl ?_
  refine fz_iload_n kX11_tells rfl rfl ?_
  refine fz_aload_n kX11_tells rfl rfl ?_
  refine fz_getR (t := 81) kX11_tells rfl rfl ?_
  refine fz_iload_n kX11_tells rfl rfl ?_
  refine fz_ialdV (n := 50) (v := h 81 (b.toNat)) kX11_tells rfl rfl (by omega) (by omega) (hf10 81 _ rfl) ?_
  have b11 : 0 ≤ h 81 (b.toNat) ∧ h 81 (b.toNat) ≤ 7 := hI.1 81 _
  refine fz_eqi (show (h 81 (b.toNat)) = 2 by omega) ?_
  refine fz_iload_n kX11_tells rfl rfl ?_
  have b12 : 0 ≤ H2 53 46 ∧ H2 53 46 ≤ 1000 := hI6.1 53 _
  have e13 : H2 81 b.toNat = h 81 b.toNat := hf10 81 _ rfl
  refine fz_callV (d' := 4) (M' := mX11_says) (As := [fz_i b, fz_i 2, fz_i x]) (st := []) kX11_tells rfl rfl vX11_says rfl rfl rfl rfl (Nat.le_of_ble_eq_true rfl) (Nat.le_of_ble_eq_true rfl) (by decide) (sX11_says_2_2 H2 hI6 b x (by omega) (by omega) (by omega)) (fun H14 r15 q16 o17 => ?_)
  obtain ⟨hI18, hf19, y24, rfl, f20, f21, f22, f23⟩ := q16
  clear o17
  have hf25 := fz_fr_tr hf10 hf19 (show fz_su [(53, 46), (82, 99999)] [(53, 46), (82, 99999)] = true from rfl)
  refine fz_istore (ls' := [(4, fz_i y24), (0, fz_r 53), (1, fz_i b), (2, fz_i 0), (3, fz_i x)]) kX11_tells rfl (by decide) rfl ?_
  refine fz_iload kX11_tells rfl rfl ?_
  refine fz_aload_n kX11_tells rfl rfl ?_
  refine fz_iload_n kX11_tells rfl rfl ?_
  refine fz_aload_n kX11_tells rfl rfl ?_
  refine fz_getR (t := 81) kX11_tells rfl rfl ?_
  refine fz_iload_n kX11_tells rfl rfl ?_
  refine fz_ialdV (n := 50) (v := h 81 (b.toNat)) kX11_tells rfl rfl (by omega) (by omega) (hf25 81 _ rfl) ?_
  refine fz_eqi (show (h 81 (b.toNat)) = 2 by omega) ?_
  refine fz_iconst ⟨by decide, by decide⟩ kX11_tells rfl ?_
  have b26 : 0 ≤ H14 53 46 ∧ H14 53 46 ≤ 1000 := hI18.1 53 _
  have e27 : H14 81 b.toNat = h 81 b.toNat := hf25 81 _ rfl
  refine fz_callV (d' := 2) (M' := mX11_fades) (As := [fz_i b, fz_i 2, fz_i 1]) (st := [fz_i y24]) kX11_tells rfl rfl vX11_fades rfl rfl rfl rfl (Nat.le_of_ble_eq_true rfl) (Nat.le_of_ble_eq_true rfl) (by decide) (sX11_fades_2_2 H14 hI18 b 1 (by omega) (by omega) (by omega)) (fun H28 r29 q30 o31 => ?_)
  obtain ⟨hI32, hf33, y38, rfl, f34, f35, f36, f37⟩ := q30
  clear o31
  have hf39 := fz_fr_tr hf25 hf33 (show fz_su [(53, 46), (82, 99999)] [(53, 46), (82, 99999)] = true from rfl)
  refine fz_isub kX11_tells rfl ?_
  have b40 := fz_w_b (y24 - y38)
  exact fz_iret kX11_tells rfl rfl (fun _ => ⟨hI32, hf39, _, rfl, (by omega), (by first | rfl | (rw [f21, f35]) | (rw [f21]) | (exfalso; omega)), (by simp only [List.length_cons, List.length_nil]; omega), (by first | exact fz_tc2 f9 f23 f37 (by omega) (by simp only [List.length_cons, List.length_nil]; omega) | exact fz_tc1 f9 f23 (by omega) | exact fz_tc0 f9 | exact f23 | (exfalso; omega))⟩)

abbrev qX11_tells_2_2 (h : fz_H) (b x : Int) : fz_H → Option fz_V → Prop := fun h' r0 => fz_Iv h' ∧ fz_fr [(53, 46), (82, 99999)] h h' ∧ ∃ r : Int, r0 = some (fz_i r) ∧ (h' 53 46 = h 53 46 + 5) ∧ (r = fz_w (fz_w (-(fz_w (fz_w (x + b) * 2))) - fz_xor 1 b)) ∧ (h' 53 46 = h 53 46 + ([2, 30, 10, 1, 11] : List Int).length) ∧ (h' 82 = fz_tr (h 82) (h 53 46) [2, 30, 10, 1, 11])
set_option maxHeartbeats 1000000 in
set_option maxRecDepth 100000 in
theorem sX11_tells_2_2 (h : fz_H) (hI : fz_Iv h) (b x : Int) (hp0 : 0 ≤ b ∧ b ≤ 49) (hp1 : h 53 46 ≤ 895) (hp2 : h 81 b.toNat = 2) : fz_R 6 mX11_tells 0 [(0, fz_r 53), (1, fz_i b), (2, fz_i 2), (3, fz_i x)] [] h (qX11_tells_2_2 h b x) := by
  refine fz_knowl (fun hk => ?_)
  have hr_b : -2147483648 ≤ b ∧ b < 2147483648 := hk _ (List.Mem.tail _ (List.Mem.head _))
  have hr_x : -2147483648 ≤ x ∧ x < 2147483648 := hk _ (List.Mem.tail _ (List.Mem.tail _ (List.Mem.tail _ (List.Mem.head _))))
  clear hk
  have hf : fz_fr [(53, 46), (82, 99999)] h h := fz_fr_rf
  have b1 : 0 ≤ h 53 46 ∧ h 53 46 ≤ 1000 := hI.1 53 _
  refine fz_iload_n kX11_tells rfl rfl ?_
  refine fz_lsw (tgt := 103) kX11_tells rfl (by decide) (show Op.lookupswitch.offset [(0, 35), (5, 70), (7, 86)] 102 2 = 102 from rfl) (by decide) ?_
  refine fz_aload_n kX11_tells rfl rfl ?_
  refine fz_iload_n kX11_tells rfl rfl ?_
  refine fz_iload_n kX11_tells rfl rfl ?_
  refine fz_callS (d' := 0) (M' := mX11_above) (As := [fz_i 2]) (st := [fz_i b, fz_r 53]) kX11_tells rfl rfl vX11_above rfl rfl (Nat.le_of_ble_eq_true rfl) (Nat.le_of_ble_eq_true rfl) (by decide) (sX11_above_2 h hI  ) (fun H2 r3 q4 o5 => ?_)
  obtain ⟨e6, y8, rfl, f7⟩ := q4
  subst H2
  clear o5
  refine fz_eqi (show y8 = 0 by omega) ?_
  refine fz_iload_n kX11_tells rfl rfl ?_
  refine fz_callV (d' := 5) (M' := mX11_tells) (As := [fz_i b, fz_i 0, fz_i x]) (st := []) kX11_tells rfl rfl vX11_tells rfl rfl rfl rfl (Nat.le_of_ble_eq_true rfl) (Nat.le_of_ble_eq_true rfl) (by decide) (sX11_tells_2_0 h hI b x (by omega) (by omega) (by omega)) (fun H9 r10 q11 o12 => ?_)
  obtain ⟨hI13, hf14, y19, rfl, f15, f16, f17, f18⟩ := q11
  clear o12
  have hf20 := fz_fr_tr hf hf14 (show fz_su [(53, 46), (82, 99999)] [(53, 46), (82, 99999)] = true from rfl)
  exact fz_iret kX11_tells rfl rfl (fun _ => ⟨hI13, hf20, _, rfl, (by omega), (by first | rfl | (rw [f16, lost]) | (rw [f16]) | (exfalso; omega)), (by simp only [List.length_cons, List.length_nil]; omega), (by first | exact fz_tc2 lost f18 lost (by omega) (by simp only [List.length_cons, List.length_nil]; omega) | exact fz_tc1 lost f18 (by omega) | exact fz_tc0 lost | exact f18 | (exfalso; omega))⟩)

abbrev qX11_goes_3_0 (h : fz_H) (b x : Int) : fz_H → Option fz_V → Prop := fun h' r0 => fz_Iv h' ∧ fz_fr [(53, 46), (82, 99999)] h h' ∧ ∃ r : Int, r0 = some (fz_i r) ∧ (h' 53 46 = h 53 46 + 1) ∧ (r = fz_w (x + b)) ∧ (h' 53 46 = h 53 46 + ([1] : List Int).length) ∧ (h' 82 = fz_tr (h 82) (h 53 46) [1])
set_option maxHeartbeats 1000000 in
set_option maxRecDepth 100000 in
theorem sX11_goes_3_0 (h : fz_H) (hI : fz_Iv h) (b x : Int) (hp0 : 0 ≤ b ∧ b ≤ 49) (hp1 : h 53 46 ≤ 899) (hp2 : h 81 b.toNat = 3) : fz_R 1 mX11_goes 0 [(0, fz_r 53), (1, fz_i b), (2, fz_i 0), (3, fz_i x)] [] h (qX11_goes_3_0 h b x) := by
  refine fz_knowl (fun hk => ?_)
  have hr_b : -2147483648 ≤ b ∧ b < 2147483648 := hk _ (List.Mem.tail _ (List.Mem.head _))
  have hr_x : -2147483648 ≤ x ∧ x < 2147483648 := hk _ (List.Mem.tail _ (List.Mem.tail _ (List.Mem.tail _ (List.Mem.head _))))
  clear hk
  have hf : fz_fr [(53, 46), (82, 99999)] h h := fz_fr_rf
  have b1 : 0 ≤ h 53 46 ∧ h 53 46 ≤ 1000 := hI.1 53 _
  refine fz_iload_n kX11_goes rfl rfl ?_
  refine fz_lsw (tgt := 36) kX11_goes rfl (by decide) (show Op.lookupswitch.offset [(0, 35), (1, 44), (6, 60)] 76 0 = 35 from rfl) (by decide) ?_
  refine fz_aload_n kX11_goes rfl rfl ?_
  refine fz_iconst ⟨by decide, by decide⟩ kX11_goes rfl ?_
  refine fz_callV (d' := 0) (M' := mX11_ran) (As := [fz_i 1]) (st := []) kX11_goes rfl rfl vX11_ran rfl rfl rfl rfl (Nat.le_of_ble_eq_true rfl) (Nat.le_of_ble_eq_true rfl) (by decide) (sX11_ran h hI 1 (by omega)) (fun H2 r3 q4 o5 => ?_)
  obtain ⟨hI6, hf7, rfl, f8, f9⟩ := q4
  clear o5
  have hf10 := fz_fr_tr hf hf7 (show fz_su [(53, 46), (82, 99999)] [(53, 46), (82, 99999)] = true from rfl)
  refine fz_iload_n kX11_goes rfl rfl ?_
  refine fz_iload_n kX11_goes rfl rfl ?_
  refine fz_iadd kX11_goes rfl ?_
  have b11 := fz_w_b (x + b)
  exact fz_iret kX11_goes rfl rfl (fun _ => ⟨hI6, hf10, _, rfl, (by omega), (by first | rfl | (rw [lost, lost]) | (rw [lost]) | (exfalso; omega)), (by simp only [List.length_cons, List.length_nil]; omega), (by first | exact fz_tc2 f9 lost lost (by omega) (by simp only [List.length_cons, List.length_nil]; omega) | exact fz_tc1 f9 lost (by omega) | exact fz_tc0 f9 | exact lost | (exfalso; omega))⟩)

abbrev qX11_goes_3_2 (h : fz_H) (b x : Int) : fz_H → Option fz_V → Prop := fun h' r0 => fz_Iv h' ∧ fz_fr [(53, 46), (82, 99999)] h h' ∧ ∃ r : Int, r0 = some (fz_i r) ∧ (h' 53 46 = h 53 46 + 1) ∧ (r = fz_w (x + b)) ∧ (h' 53 46 = h 53 46 + ([1] : List Int).length) ∧ (h' 82 = fz_tr (h 82) (h 53 46) [1])
set_option maxHeartbeats 1000000 in
set_option maxRecDepth 100000 in
theorem sX11_goes_3_2 (h : fz_H) (hI : fz_Iv h) (b x : Int) (hp0 : 0 ≤ b ∧ b ≤ 49) (hp1 : h 53 46 ≤ 899) (hp2 : h 81 b.toNat = 3) : fz_R 2 mX11_goes 0 [(0, fz_r 53), (1, fz_i b), (2, fz_i 2), (3, fz_i x)] [] h (qX11_goes_3_2 h b x) := by
  refine fz_knowl (fun hk => ?_)
  have hr_b : -2147483648 ≤ b ∧ b < 2147483648 := hk _ (List.Mem.tail _ (List.Mem.head _))
  have hr_x : -2147483648 ≤ x ∧ x < 2147483648 := hk _ (List.Mem.tail _ (List.Mem.tail _ (List.Mem.tail _ (List.Mem.head _))))
  clear hk
  have hf : fz_fr [(53, 46), (82, 99999)] h h := fz_fr_rf
  have b1 : 0 ≤ h 53 46 ∧ h 53 46 ≤ 1000 := hI.1 53 _
  refine fz_iload_n kX11_goes rfl rfl ?_
  refine fz_lsw (tgt := 77) kX11_goes rfl (by decide) (show Op.lookupswitch.offset [(0, 35), (1, 44), (6, 60)] 76 2 = 76 from rfl) (by decide) ?_
  refine fz_aload_n kX11_goes rfl rfl ?_
  refine fz_iload_n kX11_goes rfl rfl ?_
  refine fz_iload_n kX11_goes rfl rfl ?_
  refine fz_callS (d' := 0) (M' := mX11_above) (As := [fz_i 2]) (st := [fz_i b, fz_r 53]) kX11_goes rfl rfl vX11_above rfl rfl (Nat.le_of_ble_eq_true rfl) (Nat.le_of_ble_eq_true rfl) (by decide) (sX11_above_2 h hI  ) (fun H2 r3 q4 o5 => ?_)
  obtain ⟨e6, y8, rfl, f7⟩ := q4
  subst H2
  clear o5
  refine fz_eqi (show y8 = 0 by omega) ?_
  refine fz_iload_n kX11_goes rfl rfl ?_
  refine fz_callV (d' := 1) (M' := mX11_goes) (As := [fz_i b, fz_i 0, fz_i x]) (st := []) kX11_goes rfl rfl vX11_goes rfl rfl rfl rfl (Nat.le_of_ble_eq_true rfl) (Nat.le_of_ble_eq_true rfl) (by decide) (sX11_goes_3_0 h hI b x (by omega) (by omega) (by omega)) (fun H9 r10 q11 o12 => ?_)
  obtain ⟨hI13, hf14, y19, rfl, f15, f16, f17, f18⟩ := q11
  clear o12
  have hf20 := fz_fr_tr hf hf14 (show fz_su [(53, 46), (82, 99999)] [(53, 46), (82, 99999)] = true from rfl)
  exact fz_iret kX11_goes rfl rfl (fun _ => ⟨hI13, hf20, _, rfl, (by omega), (by first | rfl | (rw [f16, lost]) | (rw [f16]) | (exfalso; omega)), (by simp only [List.length_cons, List.length_nil]; omega), (by first | exact fz_tc2 lost f18 lost (by omega) (by simp only [List.length_cons, List.length_nil]; omega) | exact fz_tc1 lost f18 (by omega) | exact fz_tc0 lost | exact f18 | (exfalso; omega))⟩)

abbrev qX11_goes_3_3 (h : fz_H) (b x : Int) : fz_H → Option fz_V → Prop := fun h' r0 => fz_Iv h' ∧ fz_fr [(53, 46), (82, 99999)] h h' ∧ ∃ r : Int, r0 = some (fz_i r) ∧ (h' 53 46 = h 53 46 + 1) ∧ (r = fz_w (x + b)) ∧ (h' 53 46 = h 53 46 + ([1] : List Int).length) ∧ (h' 82 = fz_tr (h 82) (h 53 46) [1])
set_option maxHeartbeats 1000000 in
set_option maxRecDepth 100000 in
theorem sX11_goes_3_3 (h : fz_H) (hI : fz_Iv h) (b x : Int) (hp0 : 0 ≤ b ∧ b ≤ 49) (hp1 : h 53 46 ≤ 899) (hp2 : h 81 b.toNat = 3) : fz_R 3 mX11_goes 0 [(0, fz_r 53), (1, fz_i b), (2, fz_i 3), (3, fz_i x)] [] h (qX11_goes_3_3 h b x) := by
  refine fz_knowl (fun hk => ?_)
  have hr_b : -2147483648 ≤ b ∧ b < 2147483648 := hk _ (List.Mem.tail _ (List.Mem.head _))
  have hr_x : -2147483648 ≤ x ∧ x < 2147483648 := hk _ (List.Mem.tail _ (List.Mem.tail _ (List.Mem.tail _ (List.Mem.head _))))
  clear hk
  have hf : fz_fr [(53, 46), (82, 99999)] h h := fz_fr_rf
  have b1 : 0 ≤ h 53 46 ∧ h 53 46 ≤ 1000 := hI.1 53 _
  refine fz_iload_n kX11_goes rfl rfl ?_
  refine fz_lsw (tgt := 77) kX11_goes rfl (by decide) (show Op.lookupswitch.offset [(0, 35), (1, 44), (6, 60)] 76 3 = 76 from rfl) (by decide) ?_
  refine fz_aload_n kX11_goes rfl rfl ?_
  refine fz_iload_n kX11_goes rfl rfl ?_
  refine fz_iload_n kX11_goes rfl rfl ?_
  refine fz_callS (d' := 0) (M' := mX11_above) (As := [fz_i 3]) (st := [fz_i b, fz_r 53]) kX11_goes rfl rfl vX11_above rfl rfl (Nat.le_of_ble_eq_true rfl) (Nat.le_of_ble_eq_true rfl) (by decide) (sX11_above_3 h hI  ) (fun H2 r3 q4 o5 => ?_)
  obtain ⟨e6, y8, rfl, f7⟩ := q4
  subst H2
  clear o5
  refine fz_eqi (show y8 = 2 by omega) ?_
  refine fz_iload_n kX11_goes rfl rfl ?_
  refine fz_callV (d' := 2) (M' := mX11_goes) (As := [fz_i b, fz_i 2, fz_i x]) (st := []) kX11_goes rfl rfl vX11_goes rfl rfl rfl rfl (Nat.le_of_ble_eq_true rfl) (Nat.le_of_ble_eq_true rfl) (by decide) (sX11_goes_3_2 h hI b x (by omega) (by omega) (by omega)) (fun H9 r10 q11 o12 => ?_)
  obtain ⟨hI13, hf14, y19, rfl, f15, f16, f17, f18⟩ := q11
  clear o12
  have hf20 := fz_fr_tr hf hf14 (show fz_su [(53, 46), (82, 99999)] [(53, 46), (82, 99999)] = true from rfl)
  exact fz_iret kX11_goes rfl rfl (fun _ => ⟨hI13, hf20, _, rfl, (by omega), (by first | rfl | (rw [f16, lost]) | (rw [f16]) | (exfalso; omega)), (by simp only [List.length_cons, List.length_nil]; omega), (by first | exact fz_tc2 lost f18 lost (by omega) (by simp only [List.length_cons, List.length_nil]; omega) | exact fz_tc1 lost f18 (by omega) | exact fz_tc0 lost | exact f18 | (exfalso; omega))⟩)

abbrev qX11_says_3_0 (h : fz_H) (b x : Int) : fz_H → Option fz_V → Prop := fun h' r0 => fz_Iv h' ∧ fz_fr [(53, 46), (82, 99999)] h h' ∧ ∃ r : Int, r0 = some (fz_i r) ∧ (h' 53 46 = h 53 46 + 2) ∧ (r = fz_w (fz_w (x + b) * 2)) ∧ (h' 53 46 = h 53 46 + ([10, 1] : List Int).length) ∧ (h' 82 = fz_tr (h 82) (h 53 46) [10, 1])
set_option maxHeartbeats 1000000 in
set_option maxRecDepth 100000 in
theorem sX11_says_3_0 (h : fz_H) (hI : fz_Iv h) (b x : Int) (hp0 : 0 ≤ b ∧ b ≤ 49) (hp1 : h 53 46 ≤ 898) (hp2 : h 81 b.toNat = 3) : fz_R 4 mX11_says 0 [(0, fz_r 53), (1, fz_i b), (2, fz_i 0), (3, fz_i x)] [] h (qX11_says_3_0 h b x) := by
  refine fz_knowl (fun hk => ?_)
  have hr_b : -2147483648 ≤ b ∧ b < 2147483648 := hk _ (List.Mem.tail _ (List.Mem.head _))
  have hr_x : -2147483648 ≤ x ∧ x < 2147483648 := hk _ (List.Mem.tail _ (List.Mem.tail _ (List.Mem.tail _ (List.Mem.head _))))
  clear hk
  have hf : fz_fr [(53, 46), (82, 99999)] h h := fz_fr_rf
  have b1 : 0 ≤ h 53 46 ∧ h 53 46 ≤ 1000 := hI.1 53 _
  refine fz_iload_n kX11_says rfl rfl ?_
  refine fz_tswC (j := 0) (tgt := 48) kX11_says rfl rfl (by decide) (by decide) rfl (by decide) ?_
  refine fz_aload_n kX11_says rfl rfl ?_
  refine fz_bipush ⟨by decide, by decide⟩ kX11_says rfl ?_
  refine fz_callV (d' := 0) (M' := mX11_ran) (As := [fz_i 10]) (st := []) kX11_says rfl rfl vX11_ran rfl rfl rfl rfl (Nat.le_of_ble_eq_true rfl) (Nat.le_of_ble_eq_true rfl) (by decide) (sX11_ran h hI 10 (by omega)) (fun H2 r3 q4 o5 => ?_)
  obtain ⟨hI6, hf7, rfl, f8, f9⟩ := q4
  clear o5
  have hf10 := fz_fr_tr hf hf7 (show fz_su [(53, 46), (82, 99999)] [(53, 46), (82, 99999)] = true from rfl)
  refine fz_aload_n kX11_says rfl rfl ?_
  refine fz_iload_n kX11_says rfl rfl ?_
  refine fz_aload_n kX11_says rfl rfl ?_
  refine fz_getR (t := 81) kX11_says rfl rfl ?_
  refine fz_iload_n kX11_says rfl rfl ?_
  refine fz_ialdV (n := 50) (v := h 81 (b.toNat)) kX11_says rfl rfl (by omega) (by omega) (hf10 81 _ rfl) ?_
  have b11 : 0 ≤ h 81 (b.toNat) ∧ h 81 (b.toNat) ≤ 7 := hI.1 81 _
  refine fz_eqi (show (h 81 (b.toNat)) = 3 by omega) ?_
  refine fz_iload_n kX11_says rfl rfl ?_
  have b12 : 0 ≤ H2 53 46 ∧ H2 53 46 ≤ 1000 := hI6.1 53 _
  have e13 : H2 81 b.toNat = h 81 b.toNat := hf10 81 _ rfl
  refine fz_callV (d' := 3) (M' := mX11_goes) (As := [fz_i b, fz_i 3, fz_i x]) (st := []) kX11_says rfl rfl vX11_goes rfl rfl rfl rfl (Nat.le_of_ble_eq_true rfl) (Nat.le_of_ble_eq_true rfl) (by decide) (sX11_goes_3_3 H2 hI6 b x (by omega) (by omega) (by omega)) (fun H14 r15 q16 o17 => ?_)
  obtain ⟨hI18, hf19, y24, rfl, f20, f21, f22, f23⟩ := q16
  clear o17
  have hf25 := fz_fr_tr hf10 hf19 (show fz_su [(53, 46), (82, 99999)] [(53, 46), (82, 99999)] = true from rfl)
  refine fz_iconst ⟨by decide, by decide⟩ kX11_says rfl ?_
  refine fz_imul kX11_says rfl ?_
  have b26 := fz_w_b (y24 * 2)
  exact fz_iret kX11_says rfl rfl (fun _ => ⟨hI18, hf25, _, rfl, (by omega), (by first | rfl | (rw [f21, lost]) | (rw [f21]) | (exfalso; omega)), (by simp only [List.length_cons, List.length_nil]; omega), (by first | exact fz_tc2 f9 f23 lost (by omega) (by simp only [List.length_cons, List.length_nil]; omega) | exact fz_tc1 f9 f23 (by omega) | exact fz_tc0 f9 | exact f23 | (exfalso; omega))⟩)

abbrev qX11_says_3_2 (h : fz_H) (b x : Int) : fz_H → Option fz_V → Prop := fun h' r0 => fz_Iv h' ∧ fz_fr [(53, 46), (82, 99999)] h h' ∧ ∃ r : Int, r0 = some (fz_i r) ∧ (h' 53 46 = h 53 46 + 3) ∧ (r = fz_w (-(fz_w (fz_w (x + b) * 2)))) ∧ (h' 53 46 = h 53 46 + ([30, 10, 1] : List Int).length) ∧ (h' 82 = fz_tr (h 82) (h 53 46) [30, 10, 1])
set_option maxHeartbeats 1000000 in
set_option maxRecDepth 100000 in
theorem sX11_says_3_2 (h : fz_H) (hI : fz_Iv h) (b x : Int) (hp0 : 0 ≤ b ∧ b ≤ 49) (hp1 : h 53 46 ≤ 897) (hp2 : h 81 b.toNat = 3) : fz_R 5 mX11_says 0 [(0, fz_r 53), (1, fz_i b), (2, fz_i 2), (3, fz_i x)] [] h (qX11_says_3_2 h b x) := by
  refine fz_knowl (fun hk => ?_)
  have hr_b : -2147483648 ≤ b ∧ b < 2147483648 := hk _ (List.Mem.tail _ (List.Mem.head _))
  have hr_x : -2147483648 ≤ x ∧ x < 2147483648 := hk _ (List.Mem.tail _ (List.Mem.tail _ (List.Mem.tail _ (List.Mem.head _))))
  clear hk
  have hf : fz_fr [(53, 46), (82, 99999)] h h := fz_fr_rf
  have b1 : 0 ≤ h 53 46 ∧ h 53 46 ≤ 1000 := hI.1 53 _
  refine fz_iload_n kX11_says rfl rfl ?_
  refine fz_tswC (j := 2) (tgt := 69) kX11_says rfl rfl (by decide) (by decide) rfl (by decide) ?_
  refine fz_aload_n kX11_says rfl rfl ?_
  refine fz_bipush ⟨by decide, by decide⟩ kX11_says rfl ?_
  refine fz_callV (d' := 0) (M' := mX11_ran) (As := [fz_i 30]) (st := []) kX11_says rfl rfl vX11_ran rfl rfl rfl rfl (Nat.le_of_ble_eq_true rfl) (Nat.le_of_ble_eq_true rfl) (by decide) (sX11_ran h hI 30 (by omega)) (fun H2 r3 q4 o5 => ?_)
  obtain ⟨hI6, hf7, rfl, f8, f9⟩ := q4
  clear o5
  have hf10 := fz_fr_tr hf hf7 (show fz_su [(53, 46), (82, 99999)] [(53, 46), (82, 99999)] = true from rfl)
  refine fz_aload_n kX11_says rfl rfl ?_
  refine fz_iload_n kX11_says rfl rfl ?_
  refine fz_iconst ⟨by decide, by decide⟩ kX11_says rfl ?_
  refine fz_iload_n kX11_says rfl rfl ?_
  have b11 : 0 ≤ H2 53 46 ∧ H2 53 46 ≤ 1000 := hI6.1 53 _
  have e12 : H2 81 b.toNat = h 81 b.toNat := hf10 81 _ rfl
  refine fz_callV (d' := 4) (M' := mX11_says) (As := [fz_i b, fz_i 0, fz_i x]) (st := []) kX11_says rfl rfl vX11_says rfl rfl rfl rfl (Nat.le_of_ble_eq_true rfl) (Nat.le_of_ble_eq_true rfl) (by decide) (sX11_says_3_0 H2 hI6 b x (by omega) (by omega) (by omega)) (fun H13 r14 q15 o16 => ?_)
  obtain ⟨hI17, hf18, y23, rfl, f19, f20, f21, f22⟩ := q15
  clear o16
  have hf24 := fz_fr_tr hf10 hf18 (show fz_su [(53, 46), (82, 99999)] [(53, 46), (82, 99999)] = true from rfl)
  refine fz_ineg kX11_says rfl ?_
  have b25 := fz_w_b (-y23)
  exact fz_iret kX11_says rfl rfl (fun _ => ⟨hI17, hf24, _, rfl, (by omega), (by first | rfl | (rw [f20, lost]) | (rw [f20]) | (exfalso; omega)), (by simp only [List.length_cons, List.length_nil]; omega), (by first | exact fz_tc2 f9 f22 lost (by omega) (by simp only [List.length_cons, List.length_nil]; omega) | exact fz_tc1 f9 f22 (by omega) | exact fz_tc0 f9 | exact f22 | (exfalso; omega))⟩)

abbrev qX11_says_3_3 (h : fz_H) (b x : Int) : fz_H → Option fz_V → Prop := fun h' r0 => fz_Iv h' ∧ fz_fr [(53, 46), (82, 99999)] h h' ∧ ∃ r : Int, r0 = some (fz_i r) ∧ (h' 53 46 = h 53 46 + 4) ∧ (r = fz_w (-(fz_w (fz_w (((fz_w (x + 1))) + b) * 2)))) ∧ (h' 53 46 = h 53 46 + ([41, 30, 10, 1] : List Int).length) ∧ (h' 82 = fz_tr (h 82) (h 53 46) [41, 30, 10, 1])
set_option maxHeartbeats 1000000 in
set_option maxRecDepth 100000 in
theorem sX11_says_3_3 (h : fz_H) (hI : fz_Iv h) (b x : Int) (hp0 : 0 ≤ b ∧ b ≤ 49) (hp1 : h 53 46 ≤ 896) (hp2 : h 81 b.toNat = 3) : fz_R 6 mX11_says 0 [(0, fz_r 53), (1, fz_i b), (2, fz_i 3), (3, fz_i x)] [] h (qX11_says_3_3 h b x) := by
  refine fz_knowl (fun hk => ?_)
  have hr_b : -2147483648 ≤ b ∧ b < 2147483648 := hk _ (List.Mem.tail _ (List.Mem.head _))
  have hr_x : -2147483648 ≤ x ∧ x < 2147483648 := hk _ (List.Mem.tail _ (List.Mem.tail _ (List.Mem.tail _ (List.Mem.head _))))
  clear hk
  have hf : fz_fr [(53, 46), (82, 99999)] h h := fz_fr_rf
  have b1 : 0 ≤ h 53 46 ∧ h 53 46 ≤ 1000 := hI.1 53 _
  refine fz_iload_n kX11_says rfl rfl ?_
  refine fz_tswC (j := 3) (tgt := 84) kX11_says rfl rfl (by decide) (by decide) rfl (by decide) ?_
  refine fz_aload_n kX11_says rfl rfl ?_
  refine fz_bipush ⟨by decide, by decide⟩ kX11_says rfl ?_
  refine fz_callV (d' := 0) (M' := mX11_ran) (As := [fz_i 41]) (st := []) kX11_says rfl rfl vX11_ran rfl rfl rfl rfl (Nat.le_of_ble_eq_true rfl) (Nat.le_of_ble_eq_true rfl) (by decide) (sX11_ran h hI 41 (by omega)) (fun H2 r3 q4 o5 => ?_)
  obtain ⟨hI6, hf7, rfl, f8, f9⟩ := q4
  clear o5
  have hf10 := fz_fr_tr hf hf7 (show fz_su [(53, 46), (82, 99999)] [(53, 46), (82, 99999)] = true from rfl)
  refine fz_aload_n kX11_says rfl rfl ?_
  refine fz_iload_n kX11_says rfl rfl ?_
  refine fz_iconst ⟨by decide, by decide⟩ kX11_says rfl ?_
  refine fz_iload_n kX11_says rfl rfl ?_
  refine fz_iconst ⟨by decide, by decide⟩ kX11_says rfl ?_
  refine fz_iadd kX11_says rfl ?_
  have b11 := fz_w_b (x + 1)
  have b12 : 0 ≤ H2 53 46 ∧ H2 53 46 ≤ 1000 := hI6.1 53 _
  have e13 : H2 81 b.toNat = h 81 b.toNat := hf10 81 _ rfl
  refine fz_callV (d' := 5) (M' := mX11_says) (As := [fz_i b, fz_i 2, fz_i (fz_w (x + 1))]) (st := []) kX11_says rfl rfl vX11_says rfl rfl rfl rfl (Nat.le_of_ble_eq_true rfl) (Nat.le_of_ble_eq_true rfl) (by decide) (sX11_says_3_2 H2 hI6 b (fz_w (x + 1)) (by omega) (by omega) (by omega)) (fun H14 r15 q16 o17 => ?_)
  obtain ⟨hI18, hf19, y24, rfl, f20, f21, f22, f23⟩ := q16
  clear o17
  have hf25 := fz_fr_tr hf10 hf19 (show fz_su [(53, 46), (82, 99999)] [(53, 46), (82, 99999)] = true from rfl)
  exact fz_iret kX11_says rfl rfl (fun _ => ⟨hI18, hf25, _, rfl, (by omega), (by first | rfl | (rw [f21, lost]) | (rw [f21]) | (exfalso; omega)), (by simp only [List.length_cons, List.length_nil]; omega), (by first | exact fz_tc2 f9 f23 lost (by omega) (by simp only [List.length_cons, List.length_nil]; omega) | exact fz_tc1 f9 f23 (by omega) | exact fz_tc0 f9 | exact f23 | (exfalso; omega))⟩)

abbrev qX11_fades_3_0 (h : fz_H) (b x : Int) : fz_H → Option fz_V → Prop := fun h' r0 => fz_Iv h' ∧ fz_fr [(53, 46), (82, 99999)] h h' ∧ ∃ r : Int, r0 = some (fz_i r) ∧ (h' 53 46 = h 53 46 + 1) ∧ (r = fz_xor x b) ∧ (h' 53 46 = h 53 46 + ([11] : List Int).length) ∧ (h' 82 = fz_tr (h 82) (h 53 46) [11])
set_option maxHeartbeats 1000000 in
set_option maxRecDepth 100000 in
theorem sX11_fades_3_0 (h : fz_H) (hI : fz_Iv h) (b x : Int) (hp0 : 0 ≤ b ∧ b ≤ 49) (hp1 : h 53 46 ≤ 899) (hp2 : h 81 b.toNat = 3) : fz_R 1 mX11_fades 0 [(0, fz_r 53), (1, fz_i b), (2, fz_i 0), (3, fz_i x)] [] h (qX11_fades_3_0 h b x) := by
  refine fz_knowl (fun hk => ?_)
  have hr_b : -2147483648 ≤ b ∧ b < 2147483648 := hk _ (List.Mem.tail _ (List.Mem.head _))
  have hr_x : -2147483648 ≤ x ∧ x < 2147483648 := hk _ (List.Mem.tail _ (List.Mem.tail _ (List.Mem.tail _ (List.Mem.head _))))
  clear hk
  have hf : fz_fr [(53, 46), (82, 99999)] h h := fz_fr_rf
  have b1 : 0 ≤ h 53 46 ∧ h 53 46 ≤ 1000 := hI.1 53 _
  refine fz_iload_n kX11_fades rfl rfl ?_
  refine fz_tswC (j := 0) (tgt := 36) kX11_fades rfl rfl (by decide) (by decide) rfl (by decide) ?_
  refine fz_aload_n kX11_fades rfl rfl ?_
  refine fz_bipush ⟨by decide, by decide⟩ kX11_fades rfl ?_
  refine fz_callV (d' := 0) (M' := mX11_ran) (As := [fz_i 11]) (st := []) kX11_fades rfl rfl vX11_ran rfl rfl rfl rfl (Nat.le_of_ble_eq_true rfl) (Nat.le_of_ble_eq_true rfl) (by decide) (sX11_ran h hI 11 (by omega)) (fun H2 r3 q4 o5 => ?_)
  obtain ⟨hI6, hf7, rfl, f8, f9⟩ := q4
  clear o5
  have hf10 := fz_fr_tr hf hf7 (show fz_su [(53, 46), (82, 99999)] [(53, 46), (82, 99999)] = true from rfl)
  refine fz_iload_n kX11_fades rfl rfl ?_
  refine fz_iload_n kX11_fades rfl rfl ?_
  refine fz_ixor kX11_fades rfl ?_
  have b11 : -2147483648 ≤ (fz_xor x b) ∧ (fz_xor x b) < 2147483648 := fz_b32 _
  exact fz_iret kX11_fades rfl rfl (fun _ => ⟨hI6, hf10, _, rfl, (by omega), (by first | rfl | (rw [lost, lost]) | (rw [lost]) | (exfalso; omega)), (by simp only [List.length_cons, List.length_nil]; omega), (by first | exact fz_tc2 f9 lost lost (by omega) (by simp only [List.length_cons, List.length_nil]; omega) | exact fz_tc1 f9 lost (by omega) | exact fz_tc0 f9 | exact lost | (exfalso; omega))⟩)

abbrev qX11_fades_3_2 (h : fz_H) (b x : Int) : fz_H → Option fz_V → Prop := fun h' r0 => fz_Iv h' ∧ fz_fr [(53, 46), (82, 99999)] h h' ∧ ∃ r : Int, r0 = some (fz_i r) ∧ (h' 53 46 = h 53 46 + 1) ∧ (r = fz_xor x b) ∧ (h' 53 46 = h 53 46 + ([11] : List Int).length) ∧ (h' 82 = fz_tr (h 82) (h 53 46) [11])
set_option maxHeartbeats 1000000 in
set_option maxRecDepth 100000 in
theorem sX11_fades_3_2 (h : fz_H) (hI : fz_Iv h) (b x : Int) (hp0 : 0 ≤ b ∧ b ≤ 49) (hp1 : h 53 46 ≤ 899) (hp2 : h 81 b.toNat = 3) : fz_R 2 mX11_fades 0 [(0, fz_r 53), (1, fz_i b), (2, fz_i 2), (3, fz_i x)] [] h (qX11_fades_3_2 h b x) := by
  refine fz_knowl (fun hk => ?_)
  have hr_b : -2147483648 ≤ b ∧ b < 2147483648 := hk _ (List.Mem.tail _ (List.Mem.head _))
  have hr_x : -2147483648 ≤ x ∧ x < 2147483648 := hk _ (List.Mem.tail _ (List.Mem.tail _ (List.Mem.tail _ (List.Mem.head _))))
  clear hk
  have hf : fz_fr [(53, 46), (82, 99999)] h h := fz_fr_rf
  have b1 : 0 ≤ h 53 46 ∧ h 53 46 ≤ 1000 := hI.1 53 _
  refine fz_iload_n kX11_fades rfl rfl ?_
  refine fz_tswC (j := 2) (tgt := 93) kX11_fades rfl rfl (by decide) (by decide) rfl (by decide) ?_
  refine fz_aload_n kX11_fades rfl rfl ?_
  refine fz_iload_n kX11_fades rfl rfl ?_
  refine fz_iload_n kX11_fades rfl rfl ?_
  refine fz_callS (d' := 0) (M' := mX11_above) (As := [fz_i 2]) (st := [fz_i b, fz_r 53]) kX11_fades rfl rfl vX11_above rfl rfl (Nat.le_of_ble_eq_true rfl) (Nat.le_of_ble_eq_true rfl) (by decide) (sX11_above_2 h hI  ) (fun H2 r3 q4 o5 => ?_)
  obtain ⟨e6, y8, rfl, f7⟩ := q4
  subst H2
  clear o5
  refine fz_eqi (show y8 = 0 by omega) ?_
  refine fz_iload_n kX11_fades rfl rfl ?_
  refine fz_callV (d' := 1) (M' := mX11_fades) (As := [fz_i b, fz_i 0, fz_i x]) (st := []) kX11_fades rfl rfl vX11_fades rfl rfl rfl rfl (Nat.le_of_ble_eq_true rfl) (Nat.le_of_ble_eq_true rfl) (by decide) (sX11_fades_3_0 h hI b x (by omega) (by omega) (by omega)) (fun H9 r10 q11 o12 => ?_)
  obtain ⟨hI13, hf14, y19, rfl, f15, f16, f17, f18⟩ := q11
  clear o12
  have hf20 := fz_fr_tr hf hf14 (show fz_su [(53, 46), (82, 99999)] [(53, 46), (82, 99999)] = true from rfl)
  exact fz_iret kX11_fades rfl rfl (fun _ => ⟨hI13, hf20, _, rfl, (by omega), (by first | rfl | (rw [f16, lost]) | (rw [f16]) | (exfalso; omega)), (by simp only [List.length_cons, List.length_nil]; omega), (by first | exact fz_tc2 lost f18 lost (by omega) (by simp only [List.length_cons, List.length_nil]; omega) | exact fz_tc1 lost f18 (by omega) | exact fz_tc0 lost | exact f18 | (exfalso; omega))⟩)

abbrev qX11_fades_3_3 (h : fz_H) (b x : Int) : fz_H → Option fz_V → Prop := fun h' r0 => fz_Iv h' ∧ fz_fr [(53, 46), (82, 99999)] h h' ∧ ∃ r : Int, r0 = some (fz_i r) ∧ (h' 53 46 = h 53 46 + 2) ∧ (r = fz_w (fz_xor x b * 3)) ∧ (h' 53 46 = h 53 46 + ([40, 11] : List Int).length) ∧ (h' 82 = fz_tr (h 82) (h 53 46) [40, 11])
set_option maxHeartbeats 1000000 in
set_option maxRecDepth 100000 in
theorem sX11_fades_3_3 (h : fz_H) (hI : fz_Iv h) (b x : Int) (hp0 : 0 ≤ b ∧ b ≤ 49) (hp1 : h 53 46 ≤ 898) (hp2 : h 81 b.toNat = 3) : fz_R 3 mX11_fades 0 [(0, fz_r 53), (1, fz_i b), (2, fz_i 3), (3, fz_i x)] [] h (qX11_fades_3_3 h b x) := by
  refine fz_knowl (fun hk => ?_)
  have hr_b : -2147483648 ≤ b ∧ b < 2147483648 := hk _ (List.Mem.tail _ (List.Mem.head _))
  have hr_x : -2147483648 ≤ x ∧ x < 2147483648 := hk _ (List.Mem.tail _ (List.Mem.tail _ (List.Mem.tail _ (List.Mem.head _))))
  clear hk
  have hf : fz_fr [(53, 46), (82, 99999)] h h := fz_fr_rf
  have b1 : 0 ≤ h 53 46 ∧ h 53 46 ≤ 1000 := hI.1 53 _
  refine fz_iload_n kX11_fades rfl rfl ?_
  refine fz_tswC (j := 3) (tgt := 46) kX11_fades rfl rfl (by decide) (by decide) rfl (by decide) ?_
  refine fz_aload_n kX11_fades rfl rfl ?_
  refine fz_bipush ⟨by decide, by decide⟩ kX11_fades rfl ?_
  refine fz_callV (d' := 0) (M' := mX11_ran) (As := [fz_i 40]) (st := []) kX11_fades rfl rfl vX11_ran rfl rfl rfl rfl (Nat.le_of_ble_eq_true rfl) (Nat.le_of_ble_eq_true rfl) (by decide) (sX11_ran h hI 40 (by omega)) (fun H2 r3 q4 o5 => ?_)
  obtain ⟨hI6, hf7, rfl, f8, f9⟩ := q4
  clear o5
  have hf10 := fz_fr_tr hf hf7 (show fz_su [(53, 46), (82, 99999)] [(53, 46), (82, 99999)] = true from rfl)
  refine fz_aload_n kX11_fades rfl rfl ?_
  refine fz_iload_n kX11_fades rfl rfl ?_
  refine fz_iconst ⟨by decide, by decide⟩ kX11_fades rfl ?_
  refine fz_iload_n kX11_fades rfl rfl ?_
  have b11 : 0 ≤ H2 53 46 ∧ H2 53 46 ≤ 1000 := hI6.1 53 _
  have e12 : H2 81 b.toNat = h 81 b.toNat := hf10 81 _ rfl
  refine fz_callV (d' := 2) (M' := mX11_fades) (As := [fz_i b, fz_i 2, fz_i x]) (st := []) kX11_fades rfl rfl vX11_fades rfl rfl rfl rfl (Nat.le_of_ble_eq_true rfl) (Nat.le_of_ble_eq_true rfl) (by decide) (sX11_fades_3_2 H2 hI6 b x (by omega) (by omega) (by omega)) (fun H13 r14 q15 o16 => ?_)
  obtain ⟨hI17, hf18, y23, rfl, f19, f20, f21, f22⟩ := q15
  clear o16
  have hf24 := fz_fr_tr hf10 hf18 (show fz_su [(53, 46), (82, 99999)] [(53, 46), (82, 99999)] = true from rfl)
  refine fz_iconst ⟨by decide, by decide⟩ kX11_fades rfl ?_
  refine fz_imul kX11_fades rfl ?_
  have b25 := fz_w_b (y23 * 3)
  exact fz_iret kX11_fades rfl rfl (fun _ => ⟨hI17, hf24, _, rfl, (by omega), (by first | rfl | (rw [f20, lost]) | (rw [f20]) | (exfalso; omega)), (by simp only [List.length_cons, List.length_nil]; omega), (by first | exact fz_tc2 f9 f22 lost (by omega) (by simp only [List.length_cons, List.length_nil]; omega) | exact fz_tc1 f9 f22 (by omega) | exact fz_tc0 f9 | exact f22 | (exfalso; omega))⟩)

abbrev qX11_tells_3_0 (h : fz_H) (b x : Int) : fz_H → Option fz_V → Prop := fun h' r0 => fz_Iv h' ∧ fz_fr [(53, 46), (82, 99999)] h h' ∧ ∃ r : Int, r0 = some (fz_i r) ∧ (h' 53 46 = h 53 46 + 7) ∧ (r = fz_w (fz_w (-(fz_w (fz_w (((fz_w (x + 1))) + b) * 2))) - fz_w (fz_xor 1 b * 3))) ∧ (h' 53 46 = h 53 46 + ([2, 41, 30, 10, 1, 40, 11] : List Int).length) ∧ (h' 82 = fz_tr (h 82) (h 53 46) [2, 41, 30, 10, 1, 40, 11])
set_option maxHeartbeats 1000000 in
set_option maxRecDepth 100000 in
theorem sX11_tells_3_0 (h : fz_H) (hI : fz_Iv h) (b x : Int) (hp0 : 0 ≤ b ∧ b ≤ 49) (hp1 : h 53 46 ≤ 893) (hp2 : h 81 b.toNat = 3) : fz_R 7 mX11_tells 0 [(0, fz_r 53), (1, fz_i b), (2, fz_i 0), (3, fz_i x)] [] h (qX11_tells_3_0 h b x) := by
  refine fz_knowl (fun hk => ?_)
  have hr_b : -2147483648 ≤ b ∧ b < 2147483648 := hk _ (List.Mem.tail _ (List.Mem.head _))
  have hr_x : -2147483648 ≤ x ∧ x < 2147483648 := hk _ (List.Mem.tail _ (List.Mem.tail _ (List.Mem.tail _ (List.Mem.head _))))
  clear hk
  have hf : fz_fr [(53, 46), (82, 99999)] h h := fz_fr_rf
  have b1 : 0 ≤ h 53 46 ∧ h 53 46 ≤ 1000 := hI.1 53 _
  refine fz_iload_n kX11_tells rfl rfl ?_
  refine fz_lsw (tgt := 36) kX11_tells rfl (by decide) (show Op.lookupswitch.offset [(0, 35), (5, 70), (7, 86)] 102 0 = 35 from rfl) (by decide) ?_
  refine fz_aload_n kX11_tells rfl rfl ?_
  refine fz_iconst ⟨by decide, by decide⟩ kX11_tells rfl ?_
  refine fz_callV (d' := 0) (M' := mX11_ran) (As := [fz_i 2]) (st := []) kX11_tells rfl rfl vX11_ran rfl rfl rfl rfl (Nat.le_of_ble_eq_true rfl) (Nat.le_of_ble_eq_true rfl) (by decide) (sX11_ran h hI 2 (by omega)) (fun H2 r3 q4 o5 => ?_)
  obtain ⟨hI6, hf7, rfl, f8, f9⟩ := q4
  clear o5
  have hf10 := fz_fr_tr hf hf7 (show fz_su [(53, 46), (82, 99999)] [(53, 46), (82, 99999)] = true from rfl)
  refine fz_aload_n kX11_tells rfl rfl ?_
  refine fz_iload_n kX11_tells rfl rfl ?_
  refine fz_aload_n kX11_tells rfl rfl ?_
  refine fz_getR (t := 81) kX11_tells rfl rfl ?_
  refine fz_iload_n kX11_tells rfl rfl ?_
  refine fz_ialdV (n := 50) (v := h 81 (b.toNat)) kX11_tells rfl rfl (by omega) (by omega) (hf10 81 _ rfl) ?_
  have b11 : 0 ≤ h 81 (b.toNat) ∧ h 81 (b.toNat) ≤ 7 := hI.1 81 _
  refine fz_eqi (show (h 81 (b.toNat)) = 3 by omega) ?_
  refine fz_iload_n kX11_tells rfl rfl ?_
  have b12 : 0 ≤ H2 53 46 ∧ H2 53 46 ≤ 1000 := hI6.1 53 _
  have e13 : H2 81 b.toNat = h 81 b.toNat := hf10 81 _ rfl
  refine fz_callV (d' := 6) (M' := mX11_says) (As := [fz_i b, fz_i 3, fz_i x]) (st := []) kX11_tells rfl rfl vX11_says rfl rfl rfl rfl (Nat.le_of_ble_eq_true rfl) (Nat.le_of_ble_eq_true rfl) (by decide) (sX11_says_3_3 H2 hI6 b x (by omega) (by omega) (by omega)) (fun H14 r15 q16 o17 => ?_)
  obtain ⟨hI18, hf19, y24, rfl, f20, f21, f22, f23⟩ := q16
  clear o17
  have hf25 := fz_fr_tr hf10 hf19 (show fz_su [(53, 46), (82, 99999)] [(53, 46), (82, 99999)] = true from rfl)
  refine fz_istore (ls' := [(4, fz_i y24), (0, fz_r 53), (1, fz_i b), (2, fz_i 0), (3, fz_i x)]) kX11_tells rfl (by decide) rfl ?_
  refine fz_iload kX11_tells rfl rfl ?_
  refine fz_aload_n kX11_tells rfl rfl ?_
  refine fz_iload_n kX11_tells rfl rfl ?_
  refine fz_aload_n kX11_tells rfl rfl ?_
  refine fz_getR (t := 81) kX11_tells rfl rfl ?_
  refine fz_iload_n kX11_tells rfl rfl ?_
  refine fz_ialdV (n := 50) (v := h 81 (b.toNat)) kX11_tells rfl rfl (by omega) (by omega) (hf25 81 _ rfl) ?_
  refine fz_eqi (show (h 81 (b.toNat)) = 3 by omega) ?_
  refine fz_iconst ⟨by decide, by decide⟩ kX11_tells rfl ?_
  have b26 : 0 ≤ H14 53 46 ∧ H14 53 46 ≤ 1000 := hI18.1 53 _
  have e27 : H14 81 b.toNat = h 81 b.toNat := hf25 81 _ rfl
  refine fz_callV (d' := 3) (M' := mX11_fades) (As := [fz_i b, fz_i 3, fz_i 1]) (st := [fz_i y24]) kX11_tells rfl rfl vX11_fades rfl rfl rfl rfl (Nat.le_of_ble_eq_true rfl) (Nat.le_of_ble_eq_true rfl) (by decide) (sX11_fades_3_3 H14 hI18 b 1 (by omega) (by omega) (by omega)) (fun H28 r29 q30 o31 => ?_)
  obtain ⟨hI32, hf33, y38, rfl, f34, f35, f36, f37⟩ := q30
  clear o31
  have hf39 := fz_fr_tr hf25 hf33 (show fz_su [(53, 46), (82, 99999)] [(53, 46), (82, 99999)] = true from rfl)
  refine fz_isub kX11_tells rfl ?_
  have b40 := fz_w_b (y24 - y38)
  exact fz_iret kX11_tells rfl rfl (fun _ => ⟨hI32, hf39, _, rfl, (by omega), (by first | rfl | (rw [f21, f35]) | (rw [f21]) | (exfalso; omega)), (by simp only [List.length_cons, List.length_nil]; omega), (by first | exact fz_tc2 f9 f23 f37 (by omega) (by simp only [List.length_cons, List.length_nil]; omega) | exact fz_tc1 f9 f23 (by omega) | exact fz_tc0 f9 | exact f23 | (exfalso; omega))⟩)

abbrev qX11_tells_3_2 (h : fz_H) (b x : Int) : fz_H → Option fz_V → Prop := fun h' r0 => fz_Iv h' ∧ fz_fr [(53, 46), (82, 99999)] h h' ∧ ∃ r : Int, r0 = some (fz_i r) ∧ (h' 53 46 = h 53 46 + 7) ∧ (r = fz_w (fz_w (-(fz_w (fz_w (((fz_w (x + 1))) + b) * 2))) - fz_w (fz_xor 1 b * 3))) ∧ (h' 53 46 = h 53 46 + ([2, 41, 30, 10, 1, 40, 11] : List Int).length) ∧ (h' 82 = fz_tr (h 82) (h 53 46) [2, 41, 30, 10, 1, 40, 11])
set_option maxHeartbeats 1000000 in
set_option maxRecDepth 100000 in
theorem sX11_tells_3_2 (h : fz_H) (hI : fz_Iv h) (b x : Int) (hp0 : 0 ≤ b ∧ b ≤ 49) (hp1 : h 53 46 ≤ 893) (hp2 : h 81 b.toNat = 3) : fz_R 8 mX11_tells 0 [(0, fz_r 53), (1, fz_i b), (2, fz_i 2), (3, fz_i x)] [] h (qX11_tells_3_2 h b x) := by
  refine fz_knowl (fun hk => ?_)
  have hr_b : -2147483648 ≤ b ∧ b < 2147483648 := hk _ (List.Mem.tail _ (List.Mem.head _))
  have hr_x : -2147483648 ≤ x ∧ x < 2147483648 := hk _ (List.Mem.tail _ (List.Mem.tail _ (List.Mem.tail _ (List.Mem.head _))))
  clear hk
  have hf : fz_fr [(53, 46), (82, 99999)] h h := fz_fr_rf
  have b1 : 0 ≤ h 53 46 ∧ h 53 46 ≤ 1000 := hI.1 53 _
  refine fz_iload_n kX11_tells rfl rfl ?_
  refine fz_lsw (tgt := 103) kX11_tells rfl (by decide) (show Op.lookupswitch.offset [(0, 35), (5, 70), (7, 86)] 102 2 = 102 from rfl) (by decide) ?_
  refine fz_aload_n kX11_tells rfl rfl ?_
  refine fz_iload_n kX11_tells rfl rfl ?_
  refine fz_iload_n kX11_tells rfl rfl ?_
  refine fz_callS (d' := 0) (M' := mX11_above) (As := [fz_i 2]) (st := [fz_i b, fz_r 53]) kX11_tells rfl rfl vX11_above rfl rfl (Nat.le_of_ble_eq_true rfl) (Nat.le_of_ble_eq_true rfl) (by decide) (sX11_above_2 h hI  ) (fun H2 r3 q4 o5 => ?_)
  obtain ⟨e6, y8, rfl, f7⟩ := q4
  subst H2
  clear o5
  refine fz_eqi (show y8 = 0 by omega) ?_
  refine fz_iload_n kX11_tells rfl rfl ?_
  refine fz_callV (d' := 7) (M' := mX11_tells) (As := [fz_i b, fz_i 0, fz_i x]) (st := []) kX11_tells rfl rfl vX11_tells rfl rfl rfl rfl (Nat.le_of_ble_eq_true rfl) (Nat.le_of_ble_eq_true rfl) (by decide) (sX11_tells_3_0 h hI b x (by omega) (by omega) (by omega)) (fun H9 r10 q11 o12 => ?_)
  obtain ⟨hI13, hf14, y19, rfl, f15, f16, f17, f18⟩ := q11
  clear o12
  have hf20 := fz_fr_tr hf hf14 (show fz_su [(53, 46), (82, 99999)] [(53, 46), (82, 99999)] = true from rfl)
  exact fz_iret kX11_tells rfl rfl (fun _ => ⟨hI13, hf20, _, rfl, (by omega), (by first | rfl | (rw [f16, lost]) | (rw [f16]) | (exfalso; omega)), (by simp only [List.length_cons, List.length_nil]; omega), (by first | exact fz_tc2 lost f18 lost (by omega) (by simp only [List.length_cons, List.length_nil]; omega) | exact fz_tc1 lost f18 (by omega) | exact fz_tc0 lost | exact f18 | (exfalso; omega))⟩)

abbrev qX11_tells_3_3 (h : fz_H) (b x : Int) : fz_H → Option fz_V → Prop := fun h' r0 => fz_Iv h' ∧ fz_fr [(53, 46), (82, 99999)] h h' ∧ ∃ r : Int, r0 = some (fz_i r) ∧ (h' 53 46 = h 53 46 + 7) ∧ (r = fz_w (fz_w (-(fz_w (fz_w (((fz_w (x + 1))) + b) * 2))) - fz_w (fz_xor 1 b * 3))) ∧ (h' 53 46 = h 53 46 + ([2, 41, 30, 10, 1, 40, 11] : List Int).length) ∧ (h' 82 = fz_tr (h 82) (h 53 46) [2, 41, 30, 10, 1, 40, 11])
set_option maxHeartbeats 1000000 in
set_option maxRecDepth 100000 in
theorem sX11_tells_3_3 (h : fz_H) (hI : fz_Iv h) (b x : Int) (hp0 : 0 ≤ b ∧ b ≤ 49) (hp1 : h 53 46 ≤ 893) (hp2 : h 81 b.toNat = 3) : fz_R 9 mX11_tells 0 [(0, fz_r 53), (1, fz_i b), (2, fz_i 3), (3, fz_i x)] [] h (qX11_tells_3_3 h b x) := by
  refine fz_knowl (fun hk => ?_)
  have hr_b : -2147483648 ≤ b ∧ b < 2147483648 := hk _ (List.Mem.tail _ (List.Mem.head _))
  have hr_x : -2147483648 ≤ x ∧ x < 2147483648 := hk _ (List.Mem.tail _ (List.Mem.tail _ (List.Mem.tail _ (List.Mem.head _))))
  clear hk
  have hf : fz_fr [(53, 46), (82, 99999)] h h := fz_fr_rf
  have b1 : 0 ≤ h 53 46 ∧ h 53 46 ≤ 1000 := hI.1 53 _
  refine fz_iload_n kX11_tells rfl rfl ?_
  refine fz_lsw (tgt := 103) kX11_tells rfl (by decide) (show Op.lookupswitch.offset [(0, 35), (5, 70), (7, 86)] 102 3 = 102 from rfl) (by decide) ?_
  refine fz_aload_n kX11_tells rfl rfl ?_
  refine fz_iload_n kX11_tells rfl rfl ?_
  refine fz_iload_n kX11_tells rfl rfl ?_
  refine fz_callS (d' := 0) (M' := mX11_above) (As := [fz_i 3]) (st := [fz_i b, fz_r 53]) kX11_tells rfl rfl vX11_above rfl rfl (Nat.le_of_ble_eq_true rfl) (Nat.le_of_ble_eq_true rfl) (by decide) (sX11_above_3 h hI  ) (fun H2 r3 q4 o5 => ?_)
  obtain ⟨e6, y8, rfl, f7⟩ := q4
  subst H2
  clear o5
  refine fz_eqi (show y8 = 2 by omega) ?_
  refine fz_iload_n kX11_tells rfl rfl ?_
  refine fz_callV (d' := 8) (M' := mX11_tells) (As := [fz_i b, fz_i 2, fz_i x]) (st := []) kX11_tells rfl rfl vX11_tells rfl rfl rfl rfl (Nat.le_of_ble_eq_true rfl) (Nat.le_of_ble_eq_true rfl) (by decide) (sX11_tells_3_2 h hI b x (by omega) (by omega) (by omega)) (fun H9 r10 q11 o12 => ?_)
  obtain ⟨hI13, hf14, y19, rfl, f15, f16, f17, f18⟩ := q11
  clear o12
  have hf20 := fz_fr_tr hf hf14 (show fz_su [(53, 46), (82, 99999)] [(53, 46), (82, 99999)] = true from rfl)
  exact fz_iret kX11_tells rfl rfl (fun _ => ⟨hI13, hf20, _, rfl, (by omega), (by first | rfl | (rw [f16, lost]) | (rw [f16]) | (exfalso; omega)), (by simp only [List.length_cons, List.length_nil]; omega), (by first | exact fz_tc2 lost f18 lost (by omega) (by simp only [List.length_cons, List.length_nil]; omega) | exact fz_tc1 lost f18 (by omega) | exact fz_tc0 lost | exact f18 | (exfalso; omega))⟩)

abbrev qX11_goes_4_0 (h : fz_H) (b x : Int) : fz_H → Option fz_V → Prop := fun h' r0 => fz_Iv h' ∧ fz_fr [(53, 46), (82, 99999)] h h' ∧ ∃ r : Int, r0 = some (fz_i r) ∧ (h' 53 46 = h 53 46 + 1) ∧ (r = fz_w (x + b)) ∧ (h' 53 46 = h 53 46 + ([1] : List Int).length) ∧ (h' 82 = fz_tr (h 82) (h 53 46) [1])
set_option maxHeartbeats 1000000 in
set_option maxRecDepth 100000 in
theorem sX11_goes_4_0 (h : fz_H) (hI : fz_Iv h) (b x : Int) (hp0 : 0 ≤ b ∧ b ≤ 49) (hp1 : h 53 46 ≤ 899) (hp2 : h 81 b.toNat = 4) : fz_R 1 mX11_goes 0 [(0, fz_r 53), (1, fz_i b), (2, fz_i 0), (3, fz_i x)] [] h (qX11_goes_4_0 h b x) := by
  refine fz_knowl (fun hk => ?_)
  have hr_b : -2147483648 ≤ b ∧ b < 2147483648 := hk _ (List.Mem.tail _ (List.Mem.head _))
  have hr_x : -2147483648 ≤ x ∧ x < 2147483648 := hk _ (List.Mem.tail _ (List.Mem.tail _ (List.Mem.tail _ (List.Mem.head _))))
  clear hk
  have hf : fz_fr [(53, 46), (82, 99999)] h h := fz_fr_rf
  have b1 : 0 ≤ h 53 46 ∧ h 53 46 ≤ 1000 := hI.1 53 _
  refine fz_iload_n kX11_goes rfl rfl ?_
  refine fz_lsw (tgt := 36) kX11_goes rfl (by decide) (show Op.lookupswitch.offset [(0, 35), (1, 44), (6, 60)] 76 0 = 35 from rfl) (by decide) ?_
  refine fz_aload_n kX11_goes rfl rfl ?_
  refine fz_iconst ⟨by decide, by decide⟩ kX11_goes rfl ?_
  refine fz_callV (d' := 0) (M' := mX11_ran) (As := [fz_i 1]) (st := []) kX11_goes rfl rfl vX11_ran rfl rfl rfl rfl (Nat.le_of_ble_eq_true rfl) (Nat.le_of_ble_eq_true rfl) (by decide) (sX11_ran h hI 1 (by omega)) (fun H2 r3 q4 o5 => ?_)
  obtain ⟨hI6, hf7, rfl, f8, f9⟩ := q4
  clear o5
  have hf10 := fz_fr_tr hf hf7 (show fz_su [(53, 46), (82, 99999)] [(53, 46), (82, 99999)] = true from rfl)
  refine fz_iload_n kX11_goes rfl rfl ?_
  refine fz_iload_n kX11_goes rfl rfl ?_
  refine fz_iadd kX11_goes rfl ?_
  have b11 := fz_w_b (x + b)
  exact fz_iret kX11_goes rfl rfl (fun _ => ⟨hI6, hf10, _, rfl, (by omega), (by first | rfl | (rw [lost, lost]) | (rw [lost]) | (exfalso; omega)), (by simp only [List.length_cons, List.length_nil]; omega), (by first | exact fz_tc2 f9 lost lost (by omega) (by simp only [List.length_cons, List.length_nil]; omega) | exact fz_tc1 f9 lost (by omega) | exact fz_tc0 f9 | exact lost | (exfalso; omega))⟩)

abbrev qX11_goes_4_1 (h : fz_H) (b x : Int) : fz_H → Option fz_V → Prop := fun h' r0 => fz_Iv h' ∧ fz_fr [(53, 46), (82, 99999)] h h' ∧ ∃ r : Int, r0 = some (fz_i r) ∧ (h' 53 46 = h 53 46 + 2) ∧ (r = fz_w (fz_w (x + b) + 3)) ∧ (h' 53 46 = h 53 46 + ([20, 1] : List Int).length) ∧ (h' 82 = fz_tr (h 82) (h 53 46) [20, 1])
set_option maxHeartbeats 1000000 in
set_option maxRecDepth 100000 in
theorem sX11_goes_4_1 (h : fz_H) (hI : fz_Iv h) (b x : Int) (hp0 : 0 ≤ b ∧ b ≤ 49) (hp1 : h 53 46 ≤ 898) (hp2 : h 81 b.toNat = 4) : fz_R 2 mX11_goes 0 [(0, fz_r 53), (1, fz_i b), (2, fz_i 1), (3, fz_i x)] [] h (qX11_goes_4_1 h b x) := by
  refine fz_knowl (fun hk => ?_)
  have hr_b : -2147483648 ≤ b ∧ b < 2147483648 := hk _ (List.Mem.tail _ (List.Mem.head _))
  have hr_x : -2147483648 ≤ x ∧ x < 2147483648 := hk _ (List.Mem.tail _ (List.Mem.tail _ (List.Mem.tail _ (List.Mem.head _))))
  clear hk
  have hf : fz_fr [(53, 46), (82, 99999)] h h := fz_fr_rf
  have b1 : 0 ≤ h 53 46 ∧ h 53 46 ≤ 1000 := hI.1 53 _
  refine fz_iload_n kX11_goes rfl rfl ?_
  refine fz_lsw (tgt := 45) kX11_goes rfl (by decide) (show Op.lookupswitch.offset [(0, 35), (1, 44), (6, 60)] 76 1 = 44 from rfl) (by decide) ?_
  refine fz_aload_n kX11_goes rfl rfl ?_
  refine fz_bipush ⟨by decide, by decide⟩ kX11_goes rfl ?_
  refine fz_callV (d' := 0) (M' := mX11_ran) (As := [fz_i 20]) (st := []) kX11_goes rfl rfl vX11_ran rfl rfl rfl rfl (Nat.le_of_ble_eq_true rfl) (Nat.le_of_ble_eq_true rfl) (by decide) (sX11_ran h hI 20 (by omega)) (fun H2 r3 q4 o5 => ?_)
  obtain ⟨hI6, hf7, rfl, f8, f9⟩ := q4
  clear o5
  have hf10 := fz_fr_tr hf hf7 (show fz_su [(53, 46), (82, 99999)] [(53, 46), (82, 99999)] = true from rfl)
  refine fz_aload_n kX11_goes rfl rfl ?_
  refine fz_iload_n kX11_goes rfl rfl ?_
  refine fz_iconst ⟨by decide, by decide⟩ kX11_goes rfl ?_
  refine fz_iload_n kX11_goes rfl rfl ?_
  have b11 : 0 ≤ H2 53 46 ∧ H2 53 46 ≤ 1000 := hI6.1 53 _
  have e12 : H2 81 b.toNat = h 81 b.toNat := hf10 81 _ rfl
  refine fz_callV (d' := 1) (M' := mX11_goes) (As := [fz_i b, fz_i 0, fz_i x]) (st := []) kX11_goes rfl rfl vX11_goes rfl rfl rfl rfl (Nat.le_of_ble_eq_true rfl) (Nat.le_of_ble_eq_true rfl) (by decide) (sX11_goes_4_0 H2 hI6 b x (by omega) (by omega) (by omega)) (fun H13 r14 q15 o16 => ?_)
  obtain ⟨hI17, hf18, y23, rfl, f19, f20, f21, f22⟩ := q15
  clear o16
  have hf24 := fz_fr_tr hf10 hf18 (show fz_su [(53, 46), (82, 99999)] [(53, 46), (82, 99999)] = true from rfl)
  refine fz_iconst ⟨by decide, by decide⟩ kX11_goes rfl ?_
  refine fz_iadd kX11_goes rfl ?_
  have b25 := fz_w_b (y23 + 3)
  exact fz_iret kX11_goes rfl rfl (fun _ => ⟨hI17, hf24, _, rfl, (by omega), (by first | rfl | (rw [f20, lost]) | (rw [f20]) | (exfalso; omega)), (by simp only [List.length_cons, List.length_nil]; omega), (by first | exact fz_tc2 f9 f22 lost (by omega) (by simp only [List.length_cons, List.length_nil]; omega) | exact fz_tc1 f9 f22 (by omega) | exact fz_tc0 f9 | exact f22 | (exfalso; omega))⟩)

abbrev qX11_goes_4_4 (h : fz_H) (b x : Int) : fz_H → Option fz_V → Prop := fun h' r0 => fz_Iv h' ∧ fz_fr [(53, 46), (82, 99999)] h h' ∧ ∃ r : Int, r0 = some (fz_i r) ∧ (h' 53 46 = h 53 46 + 2) ∧ (r = fz_w (fz_w (x + b) + 3)) ∧ (h' 53 46 = h 53 46 + ([20, 1] : List Int).length) ∧ (h' 82 = fz_tr (h 82) (h 53 46) [20, 1])
set_option maxHeartbeats 1000000 in
set_option maxRecDepth 100000 in
theorem sX11_goes_4_4 (h : fz_H) (hI : fz_Iv h) (b x : Int) (hp0 : 0 ≤ b ∧ b ≤ 49) (hp1 : h 53 46 ≤ 898) (hp2 : h 81 b.toNat = 4) : fz_R 3 mX11_goes 0 [(0, fz_r 53), (1, fz_i b), (2, fz_i 4), (3, fz_i x)] [] h (qX11_goes_4_4 h b x) := by
  refine fz_knowl (fun hk => ?_)
  have hr_b : -2147483648 ≤ b ∧ b < 2147483648 := hk _ (List.Mem.tail _ (List.Mem.head _))
  have hr_x : -2147483648 ≤ x ∧ x < 2147483648 := hk _ (List.Mem.tail _ (List.Mem.tail _ (List.Mem.tail _ (List.Mem.head _))))
  clear hk
  have hf : fz_fr [(53, 46), (82, 99999)] h h := fz_fr_rf
  have b1 : 0 ≤ h 53 46 ∧ h 53 46 ≤ 1000 := hI.1 53 _
  refine fz_iload_n kX11_goes rfl rfl ?_
  refine fz_lsw (tgt := 77) kX11_goes rfl (by decide) (show Op.lookupswitch.offset [(0, 35), (1, 44), (6, 60)] 76 4 = 76 from rfl) (by decide) ?_
  refine fz_aload_n kX11_goes rfl rfl ?_
  refine fz_iload_n kX11_goes rfl rfl ?_
  refine fz_iload_n kX11_goes rfl rfl ?_
  refine fz_callS (d' := 0) (M' := mX11_above) (As := [fz_i 4]) (st := [fz_i b, fz_r 53]) kX11_goes rfl rfl vX11_above rfl rfl (Nat.le_of_ble_eq_true rfl) (Nat.le_of_ble_eq_true rfl) (by decide) (sX11_above_4 h hI  ) (fun H2 r3 q4 o5 => ?_)
  obtain ⟨e6, y8, rfl, f7⟩ := q4
  subst H2
  clear o5
  refine fz_eqi (show y8 = 1 by omega) ?_
  refine fz_iload_n kX11_goes rfl rfl ?_
  refine fz_callV (d' := 2) (M' := mX11_goes) (As := [fz_i b, fz_i 1, fz_i x]) (st := []) kX11_goes rfl rfl vX11_goes rfl rfl rfl rfl (Nat.le_of_ble_eq_true rfl) (Nat.le_of_ble_eq_true rfl) (by decide) (sX11_goes_4_1 h hI b x (by omega) (by omega) (by omega)) (fun H9 r10 q11 o12 => ?_)
  obtain ⟨hI13, hf14, y19, rfl, f15, f16, f17, f18⟩ := q11
  clear o12
  have hf20 := fz_fr_tr hf hf14 (show fz_su [(53, 46), (82, 99999)] [(53, 46), (82, 99999)] = true from rfl)
  exact fz_iret kX11_goes rfl rfl (fun _ => ⟨hI13, hf20, _, rfl, (by omega), (by first | rfl | (rw [f16, lost]) | (rw [f16]) | (exfalso; omega)), (by simp only [List.length_cons, List.length_nil]; omega), (by first | exact fz_tc2 lost f18 lost (by omega) (by simp only [List.length_cons, List.length_nil]; omega) | exact fz_tc1 lost f18 (by omega) | exact fz_tc0 lost | exact f18 | (exfalso; omega))⟩)

abbrev qX11_says_4_0 (h : fz_H) (b x : Int) : fz_H → Option fz_V → Prop := fun h' r0 => fz_Iv h' ∧ fz_fr [(53, 46), (82, 99999)] h h' ∧ ∃ r : Int, r0 = some (fz_i r) ∧ (h' 53 46 = h 53 46 + 3) ∧ (r = fz_w (fz_w (fz_w (x + b) + 3) * 2)) ∧ (h' 53 46 = h 53 46 + ([10, 20, 1] : List Int).length) ∧ (h' 82 = fz_tr (h 82) (h 53 46) [10, 20, 1])
set_option maxHeartbeats 1000000 in
set_option maxRecDepth 100000 in
theorem sX11_says_4_0 (h : fz_H) (hI : fz_Iv h) (b x : Int) (hp0 : 0 ≤ b ∧ b ≤ 49) (hp1 : h 53 46 ≤ 897) (hp2 : h 81 b.toNat = 4) : fz_R 4 mX11_says 0 [(0, fz_r 53), (1, fz_i b), (2, fz_i 0), (3, fz_i x)] [] h (qX11_says_4_0 h b x) := by
  refine fz_knowl (fun hk => ?_)
  have hr_b : -2147483648 ≤ b ∧ b < 2147483648 := hk _ (List.Mem.tail _ (List.Mem.head _))
  have hr_x : -2147483648 ≤ x ∧ x < 2147483648 := hk _ (List.Mem.tail _ (List.Mem.tail _ (List.Mem.tail _ (List.Mem.head _))))
  clear hk
  have hf : fz_fr [(53, 46), (82, 99999)] h h := fz_fr_rf
  have b1 : 0 ≤ h 53 46 ∧ h 53 46 ≤ 1000 := hI.1 53 _
  refine fz_iload_n kX11_says rfl rfl ?_
  refine fz_tswC (j := 0) (tgt := 48) kX11_says rfl rfl (by decide) (by decide) rfl (by decide) ?_
  refine fz_aload_n kX11_says rfl rfl ?_
  refine fz_bipush ⟨by decide, by decide⟩ kX11_says rfl ?_
  refine fz_callV (d' := 0) (M' := mX11_ran) (As := [fz_i 10]) (st := []) kX11_says rfl rfl vX11_ran rfl rfl rfl rfl (Nat.le_of_ble_eq_true rfl) (Nat.le_of_ble_eq_true rfl) (by decide) (sX11_ran h hI 10 (by omega)) (fun H2 r3 q4 o5 => ?_)
  obtain ⟨hI6, hf7, rfl, f8, f9⟩ := q4
  clear o5
  have hf10 := fz_fr_tr hf hf7 (show fz_su [(53, 46), (82, 99999)] [(53, 46), (82, 99999)] = true from rfl)
  refine fz_aload_n kX11_says rfl rfl ?_
  refine fz_iload_n kX11_says rfl rfl ?_
  refine fz_aload_n kX11_says rfl rfl ?_
  refine fz_getR (t := 81) kX11_says rfl rfl ?_
  refine fz_iload_n kX11_says rfl rfl ?_
  refine fz_ialdV (n := 50) (v := h 81 (b.toNat)) kX11_says rfl rfl (by omega) (by omega) (hf10 81 _ rfl) ?_
  have b11 : 0 ≤ h 81 (b.toNat) ∧ h 81 (b.toNat) ≤ 7 := hI.1 81 _
  refine fz_eqi (show (h 81 (b.toNat)) = 4 by omega) ?_
  refine fz_iload_n kX11_says rfl rfl ?_
  have b12 : 0 ≤ H2 53 46 ∧ H2 53 46 ≤ 1000 := hI6.1 53 _
  have e13 : H2 81 b.toNat = h 81 b.toNat := hf10 81 _ rfl
  refine fz_callV (d' := 3) (M' := mX11_goes) (As := [fz_i b, fz_i 4, fz_i x]) (st := []) kX11_says rfl rfl vX11_goes rfl rfl rfl rfl (Nat.le_of_ble_eq_true rfl) (Nat.le_of_ble_eq_true rfl) (by decide) (sX11_goes_4_4 H2 hI6 b x (by omega) (by omega) (by omega)) (fun H14 r15 q16 o17 => ?_)
  obtain ⟨hI18, hf19, y24, rfl, f20, f21, f22, f23⟩ := q16
  clear o17
  have hf25 := fz_fr_tr hf10 hf19 (show fz_su [(53, 46), (82, 99999)] [(53, 46), (82, 99999)] = true from rfl)
  refine fz_iconst ⟨by decide, by decide⟩ kX11_says rfl ?_
  refine fz_imul kX11_says rfl ?_
  have b26 := fz_w_b (y24 * 2)
  exact fz_iret kX11_says rfl rfl (fun _ => ⟨hI18, hf25, _, rfl, (by omega), (by first | rfl | (rw [f21, lost]) | (rw [f21]) | (exfalso; omega)), (by simp only [List.length_cons, List.length_nil]; omega), (by first | exact fz_tc2 f9 f23 lost (by omega) (by simp only [List.length_cons, List.length_nil]; omega) | exact fz_tc1 f9 f23 (by omega) | exact fz_tc0 f9 | exact f23 | (exfalso; omega))⟩)

abbrev qX11_says_4_1 (h : fz_H) (b x : Int) : fz_H → Option fz_V → Prop := fun h' r0 => fz_Iv h' ∧ fz_fr [(53, 46), (82, 99999)] h h' ∧ ∃ r : Int, r0 = some (fz_i r) ∧ (h' 53 46 = h 53 46 + 3) ∧ (r = fz_w (fz_w (fz_w (x + b) + 3) * 2)) ∧ (h' 53 46 = h 53 46 + ([10, 20, 1] : List Int).length) ∧ (h' 82 = fz_tr (h 82) (h 53 46) [10, 20, 1])
set_option maxHeartbeats 1000000 in
set_option maxRecDepth 100000 in
theorem sX11_says_4_1 (h : fz_H) (hI : fz_Iv h) (b x : Int) (hp0 : 0 ≤ b ∧ b ≤ 49) (hp1 : h 53 46 ≤ 897) (hp2 : h 81 b.toNat = 4) : fz_R 5 mX11_says 0 [(0, fz_r 53), (1, fz_i b), (2, fz_i 1), (3, fz_i x)] [] h (qX11_says_4_1 h b x) := by
  refine fz_knowl (fun hk => ?_)
  have hr_b : -2147483648 ≤ b ∧ b < 2147483648 := hk _ (List.Mem.tail _ (List.Mem.head _))
  have hr_x : -2147483648 ≤ x ∧ x < 2147483648 := hk _ (List.Mem.tail _ (List.Mem.tail _ (List.Mem.tail _ (List.Mem.head _))))
  clear hk
  have hf : fz_fr [(53, 46), (82, 99999)] h h := fz_fr_rf
  have b1 : 0 ≤ h 53 46 ∧ h 53 46 ≤ 1000 := hI.1 53 _
  refine fz_iload_n kX11_says rfl rfl ?_
  refine fz_tswC (j := 1) (tgt := 131) kX11_says rfl rfl (by decide) (by decide) rfl (by decide) ?_
  refine fz_aload_n kX11_says rfl rfl ?_
  refine fz_iload_n kX11_says rfl rfl ?_
  refine fz_iload_n kX11_says rfl rfl ?_
  refine fz_callS (d' := 0) (M' := mX11_above) (As := [fz_i 1]) (st := [fz_i b, fz_r 53]) kX11_says rfl rfl vX11_above rfl rfl (Nat.le_of_ble_eq_true rfl) (Nat.le_of_ble_eq_true rfl) (by decide) (sX11_above_1 h hI  ) (fun H2 r3 q4 o5 => ?_)
  obtain ⟨e6, y8, rfl, f7⟩ := q4
  subst H2
  clear o5
  refine fz_eqi (show y8 = 0 by omega) ?_
  refine fz_iload_n kX11_says rfl rfl ?_
  refine fz_callV (d' := 4) (M' := mX11_says) (As := [fz_i b, fz_i 0, fz_i x]) (st := []) kX11_says rfl rfl vX11_says rfl rfl rfl rfl (Nat.le_of_ble_eq_true rfl) (Nat.le_of_ble_eq_true rfl) (by decide) (sX11_says_4_0 h hI b x (by omega) (by omega) (by omega)) (fun H9 r10 q11 o12 => ?_)
  obtain ⟨hI13, hf14, y19, rfl, f15, f16, f17, f18⟩ := q11
  clear o12
  have hf20 := fz_fr_tr hf hf14 (show fz_su [(53, 46), (82, 99999)] [(53, 46), (82, 99999)] = true from rfl)
  exact fz_iret kX11_says rfl rfl (fun _ => ⟨hI13, hf20, _, rfl, (by omega), (by first | rfl | (rw [f16, lost]) | (rw [f16]) | (exfalso; omega)), (by simp only [List.length_cons, List.length_nil]; omega), (by first | exact fz_tc2 lost f18 lost (by omega) (by simp only [List.length_cons, List.length_nil]; omega) | exact fz_tc1 lost f18 (by omega) | exact fz_tc0 lost | exact f18 | (exfalso; omega))⟩)

abbrev qX11_says_4_4 (h : fz_H) (b x : Int) : fz_H → Option fz_V → Prop := fun h' r0 => fz_Iv h' ∧ fz_fr [(53, 46), (82, 99999)] h h' ∧ ∃ r : Int, r0 = some (fz_i r) ∧ (h' 53 46 = h 53 46 + 3) ∧ (r = fz_w (fz_w (fz_w (x + b) + 3) * 2)) ∧ (h' 53 46 = h 53 46 + ([10, 20, 1] : List Int).length) ∧ (h' 82 = fz_tr (h 82) (h 53 46) [10, 20, 1])
set_option maxHeartbeats 1000000 in
set_option maxRecDepth 100000 in
theorem sX11_says_4_4 (h : fz_H) (hI : fz_Iv h) (b x : Int) (hp0 : 0 ≤ b ∧ b ≤ 49) (hp1 : h 53 46 ≤ 897) (hp2 : h 81 b.toNat = 4) : fz_R 6 mX11_says 0 [(0, fz_r 53), (1, fz_i b), (2, fz_i 4), (3, fz_i x)] [] h (qX11_says_4_4 h b x) := by
  refine fz_knowl (fun hk => ?_)
  have hr_b : -2147483648 ≤ b ∧ b < 2147483648 := hk _ (List.Mem.tail _ (List.Mem.head _))
  have hr_x : -2147483648 ≤ x ∧ x < 2147483648 := hk _ (List.Mem.tail _ (List.Mem.tail _ (List.Mem.tail _ (List.Mem.head _))))
  clear hk
  have hf : fz_fr [(53, 46), (82, 99999)] h h := fz_fr_rf
  have b1 : 0 ≤ h 53 46 ∧ h 53 46 ≤ 1000 := hI.1 53 _
  refine fz_iload_n kX11_says rfl rfl ?_
  refine fz_tswC (j := 4) (tgt := 131) kX11_says rfl rfl (by decide) (by decide) rfl (by decide) ?_
  refine fz_aload_n kX11_says rfl rfl ?_
  refine fz_iload_n kX11_says rfl rfl ?_
  refine fz_iload_n kX11_says rfl rfl ?_
  refine fz_callS (d' := 0) (M' := mX11_above) (As := [fz_i 4]) (st := [fz_i b, fz_r 53]) kX11_says rfl rfl vX11_above rfl rfl (Nat.le_of_ble_eq_true rfl) (Nat.le_of_ble_eq_true rfl) (by decide) (sX11_above_4 h hI  ) (fun H2 r3 q4 o5 => ?_)
  obtain ⟨e6, y8, rfl, f7⟩ := q4
  subst H2
  clear o5
  refine fz_eqi (show y8 = 1 by omega) ?_
  refine fz_iload_n kX11_says rfl rfl ?_
  refine fz_callV (d' := 5) (M' := mX11_says) (As := [fz_i b, fz_i 1, fz_i x]) (st := []) kX11_says rfl rfl vX11_says rfl rfl rfl rfl (Nat.le_of_ble_eq_true rfl) (Nat.le_of_ble_eq_true rfl) (by decide) (sX11_says_4_1 h hI b x (by omega) (by omega) (by omega)) (fun H9 r10 q11 o12 => ?_)
  obtain ⟨hI13, hf14, y19, rfl, f15, f16, f17, f18⟩ := q11
  clear o12
  have hf20 := fz_fr_tr hf hf14 (show fz_su [(53, 46), (82, 99999)] [(53, 46), (82, 99999)] = true from rfl)
  exact fz_iret kX11_says rfl rfl (fun _ => ⟨hI13, hf20, _, rfl, (by omega), (by first | rfl | (rw [f16, lost]) | (rw [f16]) | (exfalso; omega)), (by simp only [List.length_cons, List.length_nil]; omega), (by first | exact fz_tc2 lost f18 lost (by omega) (by simp only [List.length_cons, List.length_nil]; omega) | exact fz_tc1 lost f18 (by omega) | exact fz_tc0 lost | exact f18 | (exfalso; omega))⟩)

abbrev qX11_fades_4_0 (h : fz_H) (b x : Int) : fz_H → Option fz_V → Prop := fun h' r0 => fz_Iv h' ∧ fz_fr [(53, 46), (82, 99999)] h h' ∧ ∃ r : Int, r0 = some (fz_i r) ∧ (h' 53 46 = h 53 46 + 1) ∧ (r = fz_xor x b) ∧ (h' 53 46 = h 53 46 + ([11] : List Int).length) ∧ (h' 82 = fz_tr (h 82) (h 53 46) [11])
set_option maxHeartbeats 1000000 in
set_option maxRecDepth 100000 in
theorem sX11_fades_4_0 (h : fz_H) (hI : fz_Iv h) (b x : Int) (hp0 : 0 ≤ b ∧ b ≤ 49) (hp1 : h 53 46 ≤ 899) (hp2 : h 81 b.toNat = 4) : fz_R 1 mX11_fades 0 [(0, fz_r 53), (1, fz_i b), (2, fz_i 0), (3, fz_i x)] [] h (qX11_fades_4_0 h b x) := by
  refine fz_knowl (fun hk => ?_)
  have hr_b : -2147483648 ≤ b ∧ b < 2147483648 := hk _ (List.Mem.tail _ (List.Mem.head _))
  have hr_x : -2147483648 ≤ x ∧ x < 2147483648 := hk _ (List.Mem.tail _ (List.Mem.tail _ (List.Mem.tail _ (List.Mem.head _))))
  clear hk
  have hf : fz_fr [(53, 46), (82, 99999)] h h := fz_fr_rf
  have b1 : 0 ≤ h 53 46 ∧ h 53 46 ≤ 1000 := hI.1 53 _
  refine fz_iload_n kX11_fades rfl rfl ?_
  refine fz_tswC (j := 0) (tgt := 36) kX11_fades rfl rfl (by decide) (by decide) rfl (by decide) ?_
  refine fz_aload_n kX11_fades rfl rfl ?_
  refine fz_bipush ⟨by decide, by decide⟩ kX11_fades rfl ?_
  refine fz_callV (d' := 0) (M' := mX11_ran) (As := [fz_i 11]) (st := []) kX11_fades rfl rfl vX11_ran rfl rfl rfl rfl (Nat.le_of_ble_eq_true rfl) (Nat.le_of_ble_eq_true rfl) (by decide) (sX11_ran h hI 11 (by omega)) (fun H2 r3 q4 o5 => ?_)
  obtain ⟨hI6, hf7, rfl, f8, f9⟩ := q4
  clear o5
  have hf10 := fz_fr_tr hf hf7 (show fz_su [(53, 46), (82, 99999)] [(53, 46), (82, 99999)] = true from rfl)
  refine fz_iload_n kX11_fades rfl rfl ?_
  refine fz_iload_n kX11_fades rfl rfl ?_
  refine fz_ixor kX11_fades rfl ?_
  have b11 : -2147483648 ≤ (fz_xor x b) ∧ (fz_xor x b) < 2147483648 := fz_b32 _
  exact fz_iret kX11_fades rfl rfl (fun _ => ⟨hI6, hf10, _, rfl, (by omega), (by first | rfl | (rw [lost, lost]) | (rw [lost]) | (exfalso; omega)), (by simp only [List.length_cons, List.length_nil]; omega), (by first | exact fz_tc2 f9 lost lost (by omega) (by simp only [List.length_cons, List.length_nil]; omega) | exact fz_tc1 f9 lost (by omega) | exact fz_tc0 f9 | exact lost | (exfalso; omega))⟩)

abbrev qX11_fades_4_1 (h : fz_H) (b x : Int) : fz_H → Option fz_V → Prop := fun h' r0 => fz_Iv h' ∧ fz_fr [(53, 46), (82, 99999)] h h' ∧ ∃ r : Int, r0 = some (fz_i r) ∧ (h' 53 46 = h 53 46 + 1) ∧ (r = fz_xor x b) ∧ (h' 53 46 = h 53 46 + ([11] : List Int).length) ∧ (h' 82 = fz_tr (h 82) (h 53 46) [11])
set_option maxHeartbeats 1000000 in
set_option maxRecDepth 100000 in
theorem sX11_fades_4_1 (h : fz_H) (hI : fz_Iv h) (b x : Int) (hp0 : 0 ≤ b ∧ b ≤ 49) (hp1 : h 53 46 ≤ 899) (hp2 : h 81 b.toNat = 4) : fz_R 2 mX11_fades 0 [(0, fz_r 53), (1, fz_i b), (2, fz_i 1), (3, fz_i x)] [] h (qX11_fades_4_1 h b x) := by
  refine fz_knowl (fun hk => ?_)
  have hr_b : -2147483648 ≤ b ∧ b < 2147483648 := hk _ (List.Mem.tail _ (List.Mem.head _))
  have hr_x : -2147483648 ≤ x ∧ x < 2147483648 := hk _ (List.Mem.tail _ (List.Mem.tail _ (List.Mem.tail _ (List.Mem.head _))))
  clear hk
  have hf : fz_fr [(53, 46), (82, 99999)] h h := fz_fr_rf
  have b1 : 0 ≤ h 53 46 ∧ h 53 46 ≤ 1000 := hI.1 53 _
  refine fz_iload_n kX11_fades rfl rfl ?_
  refine fz_tswC (j := 1) (tgt := 93) kX11_fades rfl rfl (by decide) (by decide) rfl (by decide) ?_
  refine fz_aload_n kX11_fades rfl rfl ?_
  refine fz_iload_n kX11_fades rfl rfl ?_
  refine fz_iload_n kX11_fades rfl rfl ?_
  refine fz_callS (d' := 0) (M' := mX11_above) (As := [fz_i 1]) (st := [fz_i b, fz_r 53]) kX11_fades rfl rfl vX11_above rfl rfl (Nat.le_of_ble_eq_true rfl) (Nat.le_of_ble_eq_true rfl) (by decide) (sX11_above_1 h hI  ) (fun H2 r3 q4 o5 => ?_)
  obtain ⟨e6, y8, rfl, f7⟩ := q4
  subst H2
  clear o5
  refine fz_eqi (show y8 = 0 by omega) ?_
  refine fz_iload_n kX11_fades rfl rfl ?_
  refine fz_callV (d' := 1) (M' := mX11_fades) (As := [fz_i b, fz_i 0, fz_i x]) (st := []) kX11_fades rfl rfl vX11_fades rfl rfl rfl rfl (Nat.le_of_ble_eq_true rfl) (Nat.le_of_ble_eq_true rfl) (by decide) (sX11_fades_4_0 h hI b x (by omega) (by omega) (by omega)) (fun H9 r10 q11 o12 => ?_)
  obtain ⟨hI13, hf14, y19, rfl, f15, f16, f17, f18⟩ := q11
  clear o12
  have hf20 := fz_fr_tr hf hf14 (show fz_su [(53, 46), (82, 99999)] [(53, 46), (82, 99999)] = true from rfl)
  exact fz_iret kX11_fades rfl rfl (fun _ => ⟨hI13, hf20, _, rfl, (by omega), (by first | rfl | (rw [f16, lost]) | (rw [f16]) | (exfalso; omega)), (by simp only [List.length_cons, List.length_nil]; omega), (by first | exact fz_tc2 lost f18 lost (by omega) (by simp only [List.length_cons, List.length_nil]; omega) | exact fz_tc1 lost f18 (by omega) | exact fz_tc0 lost | exact f18 | (exfalso; omega))⟩)

abbrev qX11_fades_4_4 (h : fz_H) (b x : Int) : fz_H → Option fz_V → Prop := fun h' r0 => fz_Iv h' ∧ fz_fr [(53, 46), (82, 99999)] h h' ∧ ∃ r : Int, r0 = some (fz_i r) ∧ (h' 53 46 = h 53 46 + 4) ∧ (r = fz_w (fz_xor x b - fz_w (fz_w (2 + b) + 3))) ∧ (h' 53 46 = h 53 46 + ([50, 11, 20, 1] : List Int).length) ∧ (h' 82 = fz_tr (h 82) (h 53 46) [50, 11, 20, 1])
set_option maxHeartbeats 1000000 in
set_option maxRecDepth 100000 in
theorem sX11_fades_4_4 (h : fz_H) (hI : fz_Iv h) (b x : Int) (hp0 : 0 ≤ b ∧ b ≤ 49) (hp1 : h 53 46 ≤ 896) (hp2 : h 81 b.toNat = 4) : fz_R 4 mX11_fades 0 [(0, fz_r 53), (1, fz_i b), (2, fz_i 4), (3, fz_i x)] [] h (qX11_fades_4_4 h b x) := by
  refine fz_knowl (fun hk => ?_)
  have hr_b : -2147483648 ≤ b ∧ b < 2147483648 := hk _ (List.Mem.tail _ (List.Mem.head _))
  have hr_x : -2147483648 ≤ x ∧ x < 2147483648 := hk _ (List.Mem.tail _ (List.Mem.tail _ (List.Mem.tail _ (List.Mem.head _))))
  clear hk
  have hf : fz_fr [(53, 46), (82, 99999)] h h := fz_fr_rf
  have b1 : 0 ≤ h 53 46 ∧ h 53 46 ≤ 1000 := hI.1 53 _
  refine fz_iload_n kX11_fades rfl rfl ?_
  refine fz_tswC (j := 4) (tgt := 62) kX11_fades rfl rfl (by decide) (by decide) rfl (by decide) ?_
  refine fz_aload_n kX11_fades rfl rfl ?_
  refine fz_bipush ⟨by decide, by decide⟩ kX11_fades rfl ?_
  refine fz_callV (d' := 0) (M' := mX11_ran) (As := [fz_i 50]) (st := []) kX11_fades rfl rfl vX11_ran rfl rfl rfl rfl (Nat.le_of_ble_eq_true rfl) (Nat.le_of_ble_eq_true rfl) (by decide) (sX11_ran h hI 50 (by omega)) (fun H2 r3 q4 o5 => ?_)
  obtain ⟨hI6, hf7, rfl, f8, f9⟩ := q4
  clear o5
  have hf10 := fz_fr_tr hf hf7 (show fz_su [(53, 46), (82, 99999)] [(53, 46), (82, 99999)] = true from rfl)
  refine fz_aload_n kX11_fades rfl rfl ?_
  refine fz_iload_n kX11_fades rfl rfl ?_
  refine fz_iconst ⟨by decide, by decide⟩ kX11_fades rfl ?_
  refine fz_iload_n kX11_fades rfl rfl ?_
  have b11 : 0 ≤ H2 53 46 ∧ H2 53 46 ≤ 1000 := hI6.1 53 _
  have e12 : H2 81 b.toNat = h 81 b.toNat := hf10 81 _ rfl
  refine fz_callV (d' := 2) (M' := mX11_fades) (As := [fz_i b, fz_i 1, fz_i x]) (st := []) kX11_fades rfl rfl vX11_fades rfl rfl rfl rfl (Nat.le_of_ble_eq_true rfl) (Nat.le_of_ble_eq_true rfl) (by decide) (sX11_fades_4_1 H2 hI6 b x (by omega) (by omega) (by omega)) (fun H13 r14 q15 o16 => ?_)
  obtain ⟨hI17, hf18, y23, rfl, f19, f20, f21, f22⟩ := q15
  clear o16
  have hf24 := fz_fr_tr hf10 hf18 (show fz_su [(53, 46), (82, 99999)] [(53, 46), (82, 99999)] = true from rfl)
  refine fz_istore (ls' := [(4, fz_i y23), (0, fz_r 53), (1, fz_i b), (2, fz_i 4), (3, fz_i x)]) kX11_fades rfl (by decide) rfl ?_
  refine fz_iload kX11_fades rfl rfl ?_
  refine fz_aload_n kX11_fades rfl rfl ?_
  refine fz_iload_n kX11_fades rfl rfl ?_
  refine fz_aload_n kX11_fades rfl rfl ?_
  refine fz_getR (t := 81) kX11_fades rfl rfl ?_
  refine fz_iload_n kX11_fades rfl rfl ?_
  refine fz_ialdV (n := 50) (v := h 81 (b.toNat)) kX11_fades rfl rfl (by omega) (by omega) (hf24 81 _ rfl) ?_
  have b25 : 0 ≤ h 81 (b.toNat) ∧ h 81 (b.toNat) ≤ 7 := hI.1 81 _
  refine fz_eqi (show (h 81 (b.toNat)) = 4 by omega) ?_
  refine fz_iconst ⟨by decide, by decide⟩ kX11_fades rfl ?_
  have b26 : 0 ≤ H13 53 46 ∧ H13 53 46 ≤ 1000 := hI17.1 53 _
  have e27 : H13 81 b.toNat = h 81 b.toNat := hf24 81 _ rfl
  refine fz_callV (d' := 3) (M' := mX11_goes) (As := [fz_i b, fz_i 4, fz_i 2]) (st := [fz_i y23]) kX11_fades rfl rfl vX11_goes rfl rfl rfl rfl (Nat.le_of_ble_eq_true rfl) (Nat.le_of_ble_eq_true rfl) (by decide) (sX11_goes_4_4 H13 hI17 b 2 (by omega) (by omega) (by omega)) (fun H28 r29 q30 o31 => ?_)
  obtain ⟨hI32, hf33, y38, rfl, f34, f35, f36, f37⟩ := q30
  clear o31
  have hf39 := fz_fr_tr hf24 hf33 (show fz_su [(53, 46), (82, 99999)] [(53, 46), (82, 99999)] = true from rfl)
  refine fz_isub kX11_fades rfl ?_
  have b40 := fz_w_b (y23 - y38)
  exact fz_iret kX11_fades rfl rfl (fun _ => ⟨hI32, hf39, _, rfl, (by omega), (by first | rfl | (rw [f20, f35]) | (rw [f20]) | (exfalso; omega)), (by simp only [List.length_cons, List.length_nil]; omega), (by first | exact fz_tc2 f9 f22 f37 (by omega) (by simp only [List.length_cons, List.length_nil]; omega) | exact fz_tc1 f9 f22 (by omega) | exact fz_tc0 f9 | exact f22 | (exfalso; omega))⟩)

abbrev qX11_tells_4_0 (h : fz_H) (b x : Int) : fz_H → Option fz_V → Prop := fun h' r0 => fz_Iv h' ∧ fz_fr [(53, 46), (82, 99999)] h h' ∧ ∃ r : Int, r0 = some (fz_i r) ∧ (h' 53 46 = h 53 46 + 8) ∧ (r = fz_w (fz_w (fz_w (fz_w (x + b) + 3) * 2) - fz_w (fz_xor 1 b - fz_w (fz_w (2 + b) + 3)))) ∧ (h' 53 46 = h 53 46 + ([2, 10, 20, 1, 50, 11, 20, 1] : List Int).length) ∧ (h' 82 = fz_tr (h 82) (h 53 46) [2, 10, 20, 1, 50, 11, 20, 1])
set_option maxHeartbeats 1000000 in
set_option maxRecDepth 100000 in
theorem sX11_tells_4_0 (h : fz_H) (hI : fz_Iv h) (b x : Int) (hp0 : 0 ≤ b ∧ b ≤ 49) (hp1 : h 53 46 ≤ 892) (hp2 : h 81 b.toNat = 4) : fz_R 7 mX11_tells 0 [(0, fz_r 53), (1, fz_i b), (2, fz_i 0), (3, fz_i x)] [] h (qX11_tells_4_0 h b x) := by
  refine fz_knowl (fun hk => ?_)
  have hr_b : -2147483648 ≤ b ∧ b < 2147483648 := hk _ (List.Mem.tail _ (List.Mem.head _))
  have hr_x : -2147483648 ≤ x ∧ x < 2147483648 := hk _ (List.Mem.tail _ (List.Mem.tail _ (List.Mem.tail _ (List.Mem.head _))))
  clear hk
  have hf : fz_fr [(53, 46), (82, 99999)] h h := fz_fr_rf
  have b1 : 0 ≤ h 53 46 ∧ h 53 46 ≤ 1000 := hI.1 53 _
  refine fz_iload_n kX11_tells rfl rfl ?_
  refine fz_lsw (tgt := 36) kX11_tells rfl (by decide) (show Op.lookupswitch.offset [(0, 35), (5, 70), (7, 86)] 102 0 = 35 from rfl) (by decide) ?_
  refine fz_aload_n kX11_tells rfl rfl ?_
  refine fz_iconst ⟨by decide, by decide⟩ kX11_tells rfl ?_
  refine fz_callV (d' := 0) (M' := mX11_ran) (As := [fz_i 2]) (st := []) kX11_tells rfl rfl vX11_ran rfl rfl rfl rfl (Nat.le_of_ble_eq_true rfl) (Nat.le_of_ble_eq_true rfl) (by decide) (sX11_ran h hI 2 (by omega)) (fun H2 r3 q4 o5 => ?_)
  obtain ⟨hI6, hf7, rfl, f8, f9⟩ := q4
  clear o5
  have hf10 := fz_fr_tr hf hf7 (show fz_su [(53, 46), (82, 99999)] [(53, 46), (82, 99999)] = true from rfl)
  refine fz_aload_n kX11_tells rfl rfl ?_
  refine fz_iload_n kX11_tells rfl rfl ?_
  refine fz_aload_n kX11_tells rfl rfl ?_
  refine fz_getR (t := 81) kX11_tells rfl rfl ?_
  refine fz_iload_n kX11_tells rfl rfl ?_
  refine fz_ialdV (n := 50) (v := h 81 (b.toNat)) kX11_tells rfl rfl (by omega) (by omega) (hf10 81 _ rfl) ?_
  have b11 : 0 ≤ h 81 (b.toNat) ∧ h 81 (b.toNat) ≤ 7 := hI.1 81 _
  refine fz_eqi (show (h 81 (b.toNat)) = 4 by omega) ?_
  refine fz_iload_n kX11_tells rfl rfl ?_
  have b12 : 0 ≤ H2 53 46 ∧ H2 53 46 ≤ 1000 := hI6.1 53 _
  have e13 : H2 81 b.toNat = h 81 b.toNat := hf10 81 _ rfl
  refine fz_callV (d' := 6) (M' := mX11_says) (As := [fz_i b, fz_i 4, fz_i x]) (st := []) kX11_tells rfl rfl vX11_says rfl rfl rfl rfl (Nat.le_of_ble_eq_true rfl) (Nat.le_of_ble_eq_true rfl) (by decide) (sX11_says_4_4 H2 hI6 b x (by omega) (by omega) (by omega)) (fun H14 r15 q16 o17 => ?_)
  obtain ⟨hI18, hf19, y24, rfl, f20, f21, f22, f23⟩ := q16
  clear o17
  have hf25 := fz_fr_tr hf10 hf19 (show fz_su [(53, 46), (82, 99999)] [(53, 46), (82, 99999)] = true from rfl)
  refine fz_istore (ls' := [(4, fz_i y24), (0, fz_r 53), (1, fz_i b), (2, fz_i 0), (3, fz_i x)]) kX11_tells rfl (by decide) rfl ?_
  refine fz_iload kX11_tells rfl rfl ?_
  refine fz_aload_n kX11_tells rfl rfl ?_
  refine fz_iload_n kX11_tells rfl rfl ?_
  refine fz_aload_n kX11_tells rfl rfl ?_
  refine fz_getR (t := 81) kX11_tells rfl rfl ?_
  refine fz_iload_n kX11_tells rfl rfl ?_
  refine fz_ialdV (n := 50) (v := h 81 (b.toNat)) kX11_tells rfl rfl (by omega) (by omega) (hf25 81 _ rfl) ?_
  refine fz_eqi (show (h 81 (b.toNat)) = 4 by omega) ?_
  refine fz_iconst ⟨by decide, by decide⟩ kX11_tells rfl ?_
  have b26 : 0 ≤ H14 53 46 ∧ H14 53 46 ≤ 1000 := hI18.1 53 _
  have e27 : H14 81 b.toNat = h 81 b.toNat := hf25 81 _ rfl
  refine fz_callV (d' := 4) (M' := mX11_fades) (As := [fz_i b, fz_i 4, fz_i 1]) (st := [fz_i y24]) kX11_tells rfl rfl vX11_fades rfl rfl rfl rfl (Nat.le_of_ble_eq_true rfl) (Nat.le_of_ble_eq_true rfl) (by decide) (sX11_fades_4_4 H14 hI18 b 1 (by omega) (by omega) (by omega)) (fun H28 r29 q30 o31 => ?_)
  obtain ⟨hI32, hf33, y38, rfl, f34, f35, f36, f37⟩ := q30
  clear o31
  have hf39 := fz_fr_tr hf25 hf33 (show fz_su [(53, 46), (82, 99999)] [(53, 46), (82, 99999)] = true from rfl)
  refine fz_isub kX11_tells rfl ?_
  have b40 := fz_w_b (y24 - y38)
  exact fz_iret kX11_tells rfl rfl (fun _ => ⟨hI32, hf39, _, rfl, (by omega), (by first | rfl | (rw [f21, f35]) | (rw [f21]) | (exfalso; omega)), (by simp only [List.length_cons, List.length_nil]; omega), (by first | exact fz_tc2 f9 f23 f37 (by omega) (by simp only [List.length_cons, List.length_nil]; omega) | exact fz_tc1 f9 f23 (by omega) | exact fz_tc0 f9 | exact f23 | (exfalso; omega))⟩)

abbrev qX11_tells_4_1 (h : fz_H) (b x : Int) : fz_H → Option fz_V → Prop := fun h' r0 => fz_Iv h' ∧ fz_fr [(53, 46), (82, 99999)] h h' ∧ ∃ r : Int, r0 = some (fz_i r) ∧ (h' 53 46 = h 53 46 + 8) ∧ (r = fz_w (fz_w (fz_w (fz_w (x + b) + 3) * 2) - fz_w (fz_xor 1 b - fz_w (fz_w (2 + b) + 3)))) ∧ (h' 53 46 = h 53 46 + ([2, 10, 20, 1, 50, 11, 20, 1] : List Int).length) ∧ (h' 82 = fz_tr (h 82) (h 53 46) [2, 10, 20, 1, 50, 11, 20, 1])
set_option maxHeartbeats 1000000 in
set_option maxRecDepth 100000 in
theorem sX11_tells_4_1 (h : fz_H) (hI : fz_Iv h) (b x : Int) (hp0 : 0 ≤ b ∧ b ≤ 49) (hp1 : h 53 46 ≤ 892) (hp2 : h 81 b.toNat = 4) : fz_R 8 mX11_tells 0 [(0, fz_r 53), (1, fz_i b), (2, fz_i 1), (3, fz_i x)] [] h (qX11_tells_4_1 h b x) := by
  refine fz_knowl (fun hk => ?_)
  have hr_b : -2147483648 ≤ b ∧ b < 2147483648 := hk _ (List.Mem.tail _ (List.Mem.head _))
  have hr_x : -2147483648 ≤ x ∧ x < 2147483648 := hk _ (List.Mem.tail _ (List.Mem.tail _ (List.Mem.tail _ (List.Mem.head _))))
  clear hk
  have hf : fz_fr [(53, 46), (82, 99999)] h h := fz_fr_rf
  have b1 : 0 ≤ h 53 46 ∧ h 53 46 ≤ 1000 := hI.1 53 _
  refine fz_iload_n kX11_tells rfl rfl ?_
  refine fz_lsw (tgt := 103) kX11_tells rfl (by decide) (show Op.lookupswitch.offset [(0, 35), (5, 70), (7, 86)] 102 1 = 102 from rfl) (by decide) ?_
  refine fz_aload_n kX11_tells rfl rfl ?_
  refine fz_iload_n kX11_tells rfl rfl ?_
  refine fz_iload_n kX11_tells rfl rfl ?_
  refine fz_callS (d' := 0) (M' := mX11_above) (As := [fz_i 1]) (st := [fz_i b, fz_r 53]) kX11_tells rfl rfl vX11_above rfl rfl (Nat.le_of_ble_eq_true rfl) (Nat.le_of_ble_eq_true rfl) (by decide) (sX11_above_1 h hI  ) (fun H2 r3 q4 o5 => ?_)
  obtain ⟨e6, y8, rfl, f7⟩ := q4
  subst H2
  clear o5
  refine fz_eqi (show y8 = 0 by omega) ?_
  refine fz_iload_n kX11_tells rfl rfl ?_
  refine fz_callV (d' := 7) (M' := mX11_tells) (As := [fz_i b, fz_i 0, fz_i x]) (st := []) kX11_tells rfl rfl vX11_tells rfl rfl rfl rfl (Nat.le_of_ble_eq_true rfl) (Nat.le_of_ble_eq_true rfl) (by decide) (sX11_tells_4_0 h hI b x (by omega) (by omega) (by omega)) (fun H9 r10 q11 o12 => ?_)
  obtain ⟨hI13, hf14, y19, rfl, f15, f16, f17, f18⟩ := q11
  clear o12
  have hf20 := fz_fr_tr hf hf14 (show fz_su [(53, 46), (82, 99999)] [(53, 46), (82, 99999)] = true from rfl)
  exact fz_iret kX11_tells rfl rfl (fun _ => ⟨hI13, hf20, _, rfl, (by omega), (by first | rfl | (rw [f16, lost]) | (rw [f16]) | (exfalso; omega)), (by simp only [List.length_cons, List.length_nil]; omega), (by first | exact fz_tc2 lost f18 lost (by omega) (by simp only [List.length_cons, List.length_nil]; omega) | exact fz_tc1 lost f18 (by omega) | exact fz_tc0 lost | exact f18 | (exfalso; omega))⟩)

abbrev qX11_tells_4_4 (h : fz_H) (b x : Int) : fz_H → Option fz_V → Prop := fun h' r0 => fz_Iv h' ∧ fz_fr [(53, 46), (82, 99999)] h h' ∧ ∃ r : Int, r0 = some (fz_i r) ∧ (h' 53 46 = h 53 46 + 8) ∧ (r = fz_w (fz_w (fz_w (fz_w (x + b) + 3) * 2) - fz_w (fz_xor 1 b - fz_w (fz_w (2 + b) + 3)))) ∧ (h' 53 46 = h 53 46 + ([2, 10, 20, 1, 50, 11, 20, 1] : List Int).length) ∧ (h' 82 = fz_tr (h 82) (h 53 46) [2, 10, 20, 1, 50, 11, 20, 1])
set_option maxHeartbeats 1000000 in
set_option maxRecDepth 100000 in
theorem sX11_tells_4_4 (h : fz_H) (hI : fz_Iv h) (b x : Int) (hp0 : 0 ≤ b ∧ b ≤ 49) (hp1 : h 53 46 ≤ 892) (hp2 : h 81 b.toNat = 4) : fz_R 9 mX11_tells 0 [(0, fz_r 53), (1, fz_i b), (2, fz_i 4), (3, fz_i x)] [] h (qX11_tells_4_4 h b x) := by
  refine fz_knowl (fun hk => ?_)
  have hr_b : -2147483648 ≤ b ∧ b < 2147483648 := hk _ (List.Mem.tail _ (List.Mem.head _))
  have hr_x : -2147483648 ≤ x ∧ x < 2147483648 := hk _ (List.Mem.tail _ (List.Mem.tail _ (List.Mem.tail _ (List.Mem.head _))))
  clear hk
  have hf : fz_fr [(53, 46), (82, 99999)] h h := fz_fr_rf
  have b1 : 0 ≤ h 53 46 ∧ h 53 46 ≤ 1000 := hI.1 53 _
  refine fz_iload_n kX11_tells rfl rfl ?_
  refine fz_lsw (tgt := 103) kX11_tells rfl (by decide) (show Op.lookupswitch.offset [(0, 35), (5, 70), (7, 86)] 102 4 = 102 from rfl) (by decide) ?_
  refine fz_aload_n kX11_tells rfl rfl ?_
  refine fz_iload_n kX11_tells rfl rfl ?_
  refine fz_iload_n kX11_tells rfl rfl ?_
  refine fz_callS (d' := 0) (M' := mX11_above) (As := [fz_i 4]) (st := [fz_i b, fz_r 53]) kX11_tells rfl rfl vX11_above rfl rfl (Nat.le_of_ble_eq_true rfl) (Nat.le_of_ble_eq_true rfl) (by decide) (sX11_above_4 h hI  ) (fun H2 r3 q4 o5 => ?_)
  obtain ⟨e6, y8, rfl, f7⟩ := q4
  subst H2
  clear o5
  refine fz_eqi (show y8 = 1 by omega) ?_
  refine fz_iload_n kX11_tells rfl rfl ?_
  refine fz_callV (d' := 8) (M' := mX11_tells) (As := [fz_i b, fz_i 1, fz_i x]) (st := []) kX11_tells rfl rfl vX11_tells rfl rfl rfl rfl (Nat.le_of_ble_eq_true rfl) (Nat.le_of_ble_eq_true rfl) (by decide) (sX11_tells_4_1 h hI b x (by omega) (by omega) (by omega)) (fun H9 r10 q11 o12 => ?_)
  obtain ⟨hI13, hf14, y19, rfl, f15, f16, f17, f18⟩ := q11
  clear o12
  have hf20 := fz_fr_tr hf hf14 (show fz_su [(53, 46), (82, 99999)] [(53, 46), (82, 99999)] = true from rfl)
  exact fz_iret kX11_tells rfl rfl (fun _ => ⟨hI13, hf20, _, rfl, (by omega), (by first | rfl | (rw [f16, lost]) | (rw [f16]) | (exfalso; omega)), (by simp only [List.length_cons, List.length_nil]; omega), (by first | exact fz_tc2 lost f18 lost (by omega) (by simp only [List.length_cons, List.length_nil]; omega) | exact fz_tc1 lost f18 (by omega) | exact fz_tc0 lost | exact f18 | (exfalso; omega))⟩)

abbrev qX11_goes_5_0 (h : fz_H) (b x : Int) : fz_H → Option fz_V → Prop := fun h' r0 => fz_Iv h' ∧ fz_fr [(53, 46), (82, 99999)] h h' ∧ ∃ r : Int, r0 = some (fz_i r) ∧ (h' 53 46 = h 53 46 + 1) ∧ (r = fz_w (x + b)) ∧ (h' 53 46 = h 53 46 + ([1] : List Int).length) ∧ (h' 82 = fz_tr (h 82) (h 53 46) [1])
set_option maxHeartbeats 1000000 in
set_option maxRecDepth 100000 in
theorem sX11_goes_5_0 (h : fz_H) (hI : fz_Iv h) (b x : Int) (hp0 : 0 ≤ b ∧ b ≤ 49) (hp1 : h 53 46 ≤ 899) (hp2 : h 81 b.toNat = 5) : fz_R 1 mX11_goes 0 [(0, fz_r 53), (1, fz_i b), (2, fz_i 0), (3, fz_i x)] [] h (qX11_goes_5_0 h b x) := by
  refine fz_knowl (fun hk => ?_)
  have hr_b : -2147483648 ≤ b ∧ b < 2147483648 := hk _ (List.Mem.tail _ (List.Mem.head _))
  have hr_x : -2147483648 ≤ x ∧ x < 2147483648 := hk _ (List.Mem.tail _ (List.Mem.tail _ (List.Mem.tail _ (List.Mem.head _))))
  clear hk
  have hf : fz_fr [(53, 46), (82, 99999)] h h := fz_fr_rf
  have b1 : 0 ≤ h 53 46 ∧ h 53 46 ≤ 1000 := hI.1 53 _
  refine fz_iload_n kX11_goes rfl rfl ?_
  refine fz_lsw (tgt := 36) kX11_goes rfl (by decide) (show Op.lookupswitch.offset [(0, 35), (1, 44), (6, 60)] 76 0 = 35 from rfl) (by decide) ?_
  refine fz_aload_n kX11_goes rfl rfl ?_
  refine fz_iconst ⟨by decide, by decide⟩ kX11_goes rfl ?_
  refine fz_callV (d' := 0) (M' := mX11_ran) (As := [fz_i 1]) (st := []) kX11_goes rfl rfl vX11_ran rfl rfl rfl rfl (Nat.le_of_ble_eq_true rfl) (Nat.le_of_ble_eq_true rfl) (by decide) (sX11_ran h hI 1 (by omega)) (fun H2 r3 q4 o5 => ?_)
  obtain ⟨hI6, hf7, rfl, f8, f9⟩ := q4
  clear o5
  have hf10 := fz_fr_tr hf hf7 (show fz_su [(53, 46), (82, 99999)] [(53, 46), (82, 99999)] = true from rfl)
  refine fz_iload_n kX11_goes rfl rfl ?_
  refine fz_iload_n kX11_goes rfl rfl ?_
  refine fz_iadd kX11_goes rfl ?_
  have b11 := fz_w_b (x + b)
  exact fz_iret kX11_goes rfl rfl (fun _ => ⟨hI6, hf10, _, rfl, (by omega), (by first | rfl | (rw [lost, lost]) | (rw [lost]) | (exfalso; omega)), (by simp only [List.length_cons, List.length_nil]; omega), (by first | exact fz_tc2 f9 lost lost (by omega) (by simp only [List.length_cons, List.length_nil]; omega) | exact fz_tc1 f9 lost (by omega) | exact fz_tc0 f9 | exact lost | (exfalso; omega))⟩)

abbrev qX11_goes_5_2 (h : fz_H) (b x : Int) : fz_H → Option fz_V → Prop := fun h' r0 => fz_Iv h' ∧ fz_fr [(53, 46), (82, 99999)] h h' ∧ ∃ r : Int, r0 = some (fz_i r) ∧ (h' 53 46 = h 53 46 + 1) ∧ (r = fz_w (x + b)) ∧ (h' 53 46 = h 53 46 + ([1] : List Int).length) ∧ (h' 82 = fz_tr (h 82) (h 53 46) [1])
set_option maxHeartbeats 1000000 in
set_option maxRecDepth 100000 in
theorem sX11_goes_5_2 (h : fz_H) (hI : fz_Iv h) (b x : Int) (hp0 : 0 ≤ b ∧ b ≤ 49) (hp1 : h 53 46 ≤ 899) (hp2 : h 81 b.toNat = 5) : fz_R 2 mX11_goes 0 [(0, fz_r 53), (1, fz_i b), (2, fz_i 2), (3, fz_i x)] [] h (qX11_goes_5_2 h b x) := by
  refine fz_knowl (fun hk => ?_)
  have hr_b : -2147483648 ≤ b ∧ b < 2147483648 := hk _ (List.Mem.tail _ (List.Mem.head _))
  have hr_x : -2147483648 ≤ x ∧ x < 2147483648 := hk _ (List.Mem.tail _ (List.Mem.tail _ (List.Mem.tail _ (List.Mem.head _))))
  clear hk
  have hf : fz_fr [(53, 46), (82, 99999)] h h := fz_fr_rf
  have b1 : 0 ≤ h 53 46 ∧ h 53 46 ≤ 1000 := hI.1 53 _
  refine fz_iload_n kX11_goes rfl rfl ?_
  refine fz_lsw (tgt := 77) kX11_goes rfl (by decide) (show Op.lookupswitch.offset [(0, 35), (1, 44), (6, 60)] 76 2 = 76 from rfl) (by decide) ?_
  refine fz_aload_n kX11_goes rfl rfl ?_
  refine fz_iload_n kX11_goes rfl rfl ?_
  refine fz_iload_n kX11_goes rfl rfl ?_
  refine fz_callS (d' := 0) (M' := mX11_above) (As := [fz_i 2]) (st := [fz_i b, fz_r 53]) kX11_goes rfl rfl vX11_above rfl rfl (Nat.le_of_ble_eq_true rfl) (Nat.le_of_ble_eq_true rfl) (by decide) (sX11_above_2 h hI  ) (fun H2 r3 q4 o5 => ?_)
  obtain ⟨e6, y8, rfl, f7⟩ := q4
  subst H2
  clear o5
  refine fz_eqi (show y8 = 0 by omega) ?_
  refine fz_iload_n kX11_goes rfl rfl ?_
  refine fz_callV (d' := 1) (M' := mX11_goes) (As := [fz_i b, fz_i 0, fz_i x]) (st := []) kX11_goes rfl rfl vX11_goes rfl rfl rfl rfl (Nat.le_of_ble_eq_true rfl) (Nat.le_of_ble_eq_true rfl) (by decide) (sX11_goes_5_0 h hI b x (by omega) (by omega) (by omega)) (fun H9 r10 q11 o12 => ?_)
  obtain ⟨hI13, hf14, y19, rfl, f15, f16, f17, f18⟩ := q11
  clear o12
  have hf20 := fz_fr_tr hf hf14 (show fz_su [(53, 46), (82, 99999)] [(53, 46), (82, 99999)] = true from rfl)
  exact fz_iret kX11_goes rfl rfl (fun _ => ⟨hI13, hf20, _, rfl, (by omega), (by first | rfl | (rw [f16, lost]) | (rw [f16]) | (exfalso; omega)), (by simp only [List.length_cons, List.length_nil]; omega), (by first | exact fz_tc2 lost f18 lost (by omega) (by simp only [List.length_cons, List.length_nil]; omega) | exact fz_tc1 lost f18 (by omega) | exact fz_tc0 lost | exact f18 | (exfalso; omega))⟩)

abbrev qX11_goes_5_3 (h : fz_H) (b x : Int) : fz_H → Option fz_V → Prop := fun h' r0 => fz_Iv h' ∧ fz_fr [(53, 46), (82, 99999)] h h' ∧ ∃ r : Int, r0 = some (fz_i r) ∧ (h' 53 46 = h 53 46 + 1) ∧ (r = fz_w (x + b)) ∧ (h' 53 46 = h 53 46 + ([1] : List Int).length) ∧ (h' 82 = fz_tr (h 82) (h 53 46) [1])
set_option maxHeartbeats 1000000 in
set_option maxRecDepth 100000 in
theorem sX11_goes_5_3 (h : fz_H) (hI : fz_Iv h) (b x : Int) (hp0 : 0 ≤ b ∧ b ≤ 49) (hp1 : h 53 46 ≤ 899) (hp2 : h 81 b.toNat = 5) : fz_R 3 mX11_goes 0 [(0, fz_r 53), (1, fz_i b), (2, fz_i 3), (3, fz_i x)] [] h (qX11_goes_5_3 h b x) := by
  refine fz_knowl (fun hk => ?_)
  have hr_b : -2147483648 ≤ b ∧ b < 2147483648 := hk _ (List.Mem.tail _ (List.Mem.head _))
  have hr_x : -2147483648 ≤ x ∧ x < 2147483648 := hk _ (List.Mem.tail _ (List.Mem.tail _ (List.Mem.tail _ (List.Mem.head _))))
  clear hk
  have hf : fz_fr [(53, 46), (82, 99999)] h h := fz_fr_rf
  have b1 : 0 ≤ h 53 46 ∧ h 53 46 ≤ 1000 := hI.1 53 _
  refine fz_iload_n kX11_goes rfl rfl ?_
  refine fz_lsw (tgt := 77) kX11_goes rfl (by decide) (show Op.lookupswitch.offset [(0, 35), (1, 44), (6, 60)] 76 3 = 76 from rfl) (by decide) ?_
  refine fz_aload_n kX11_goes rfl rfl ?_
  refine fz_iload_n kX11_goes rfl rfl ?_
  refine fz_iload_n kX11_goes rfl rfl ?_
  refine fz_callS (d' := 0) (M' := mX11_above) (As := [fz_i 3]) (st := [fz_i b, fz_r 53]) kX11_goes rfl rfl vX11_above rfl rfl (Nat.le_of_ble_eq_true rfl) (Nat.le_of_ble_eq_true rfl) (by decide) (sX11_above_3 h hI  ) (fun H2 r3 q4 o5 => ?_)
  obtain ⟨e6, y8, rfl, f7⟩ := q4
  subst H2
  clear o5
  refine fz_eqi (show y8 = 2 by omega) ?_
  refine fz_iload_n kX11_goes rfl rfl ?_
  refine fz_callV (d' := 2) (M' := mX11_goes) (As := [fz_i b, fz_i 2, fz_i x]) (st := []) kX11_goes rfl rfl vX11_goes rfl rfl rfl rfl (Nat.le_of_ble_eq_true rfl) (Nat.le_of_ble_eq_true rfl) (by decide) (sX11_goes_5_2 h hI b x (by omega) (by omega) (by omega)) (fun H9 r10 q11 o12 => ?_)
  obtain ⟨hI13, hf14, y19, rfl, f15, f16, f17, f18⟩ := q11
  clear o12
  have hf20 := fz_fr_tr hf hf14 (show fz_su [(53, 46), (82, 99999)] [(53, 46), (82, 99999)] = true from rfl)
  exact fz_iret kX11_goes rfl rfl (fun _ => ⟨hI13, hf20, _, rfl, (by omega), (by first | rfl | (rw [f16, lost]) | (rw [f16]) | (exfalso; omega)), (by simp only [List.length_cons, List.length_nil]; omega), (by first | exact fz_tc2 lost f18 lost (by omega) (by simp only [List.length_cons, List.length_nil]; omega) | exact fz_tc1 lost f18 (by omega) | exact fz_tc0 lost | exact f18 | (exfalso; omega))⟩)

abbrev qX11_goes_5_5 (h : fz_H) (b x : Int) : fz_H → Option fz_V → Prop := fun h' r0 => fz_Iv h' ∧ fz_fr [(53, 46), (82, 99999)] h h' ∧ ∃ r : Int, r0 = some (fz_i r) ∧ (h' 53 46 = h 53 46 + 1) ∧ (r = fz_w (x + b)) ∧ (h' 53 46 = h 53 46 + ([1] : List Int).length) ∧ (h' 82 = fz_tr (h 82) (h 53 46) [1])
set_option maxHeartbeats 1000000 in
set_option maxRecDepth 100000 in
theorem sX11_goes_5_5 (h : fz_H) (hI : fz_Iv h) (b x : Int) (hp0 : 0 ≤ b ∧ b ≤ 49) (hp1 : h 53 46 ≤ 899) (hp2 : h 81 b.toNat = 5) : fz_R 4 mX11_goes 0 [(0, fz_r 53), (1, fz_i b), (2, fz_i 5), (3, fz_i x)] [] h (qX11_goes_5_5 h b x) := by
  refine fz_knowl (fun hk => ?_)
  have hr_b : -2147483648 ≤ b ∧ b < 2147483648 := hk _ (List.Mem.tail _ (List.Mem.head _))
  have hr_x : -2147483648 ≤ x ∧ x < 2147483648 := hk _ (List.Mem.tail _ (List.Mem.tail _ (List.Mem.tail _ (List.Mem.head _))))
  clear hk
  have hf : fz_fr [(53, 46), (82, 99999)] h h := fz_fr_rf
  have b1 : 0 ≤ h 53 46 ∧ h 53 46 ≤ 1000 := hI.1 53 _
  refine fz_iload_n kX11_goes rfl rfl ?_
  refine fz_lsw (tgt := 77) kX11_goes rfl (by decide) (show Op.lookupswitch.offset [(0, 35), (1, 44), (6, 60)] 76 5 = 76 from rfl) (by decide) ?_
  refine fz_aload_n kX11_goes rfl rfl ?_
  refine fz_iload_n kX11_goes rfl rfl ?_
  refine fz_iload_n kX11_goes rfl rfl ?_
  refine fz_callS (d' := 0) (M' := mX11_above) (As := [fz_i 5]) (st := [fz_i b, fz_r 53]) kX11_goes rfl rfl vX11_above rfl rfl (Nat.le_of_ble_eq_true rfl) (Nat.le_of_ble_eq_true rfl) (by decide) (sX11_above_5 h hI  ) (fun H2 r3 q4 o5 => ?_)
  obtain ⟨e6, y8, rfl, f7⟩ := q4
  subst H2
  clear o5
  refine fz_eqi (show y8 = 3 by omega) ?_
  refine fz_iload_n kX11_goes rfl rfl ?_
  refine fz_callV (d' := 3) (M' := mX11_goes) (As := [fz_i b, fz_i 3, fz_i x]) (st := []) kX11_goes rfl rfl vX11_goes rfl rfl rfl rfl (Nat.le_of_ble_eq_true rfl) (Nat.le_of_ble_eq_true rfl) (by decide) (sX11_goes_5_3 h hI b x (by omega) (by omega) (by omega)) (fun H9 r10 q11 o12 => ?_)
  obtain ⟨hI13, hf14, y19, rfl, f15, f16, f17, f18⟩ := q11
  clear o12
  have hf20 := fz_fr_tr hf hf14 (show fz_su [(53, 46), (82, 99999)] [(53, 46), (82, 99999)] = true from rfl)
  exact fz_iret kX11_goes rfl rfl (fun _ => ⟨hI13, hf20, _, rfl, (by omega), (by first | rfl | (rw [f16, lost]) | (rw [f16]) | (exfalso; omega)), (by simp only [List.length_cons, List.length_nil]; omega), (by first | exact fz_tc2 lost f18 lost (by omega) (by simp only [List.length_cons, List.length_nil]; omega) | exact fz_tc1 lost f18 (by omega) | exact fz_tc0 lost | exact f18 | (exfalso; omega))⟩)

abbrev qX11_says_5_0 (h : fz_H) (b x : Int) : fz_H → Option fz_V → Prop := fun h' r0 => fz_Iv h' ∧ fz_fr [(53, 46), (82, 99999)] h h' ∧ ∃ r : Int, r0 = some (fz_i r) ∧ (h' 53 46 = h 53 46 + 2) ∧ (r = fz_w (fz_w (x + b) * 2)) ∧ (h' 53 46 = h 53 46 + ([10, 1] : List Int).length) ∧ (h' 82 = fz_tr (h 82) (h 53 46) [10, 1])
set_option maxHeartbeats 1000000 in
set_option maxRecDepth 100000 in
theorem sX11_says_5_0 (h : fz_H) (hI : fz_Iv h) (b x : Int) (hp0 : 0 ≤ b ∧ b ≤ 49) (hp1 : h 53 46 ≤ 898) (hp2 : h 81 b.toNat = 5) : fz_R 5 mX11_says 0 [(0, fz_r 53), (1, fz_i b), (2, fz_i 0), (3, fz_i x)] [] h (qX11_says_5_0 h b x) := by
  refine fz_knowl (fun hk => ?_)
  have hr_b : -2147483648 ≤ b ∧ b < 2147483648 := hk _ (List.Mem.tail _ (List.Mem.head _))
  have hr_x : -2147483648 ≤ x ∧ x < 2147483648 := hk _ (List.Mem.tail _ (List.Mem.tail _ (List.Mem.tail _ (List.Mem.head _))))
  clear hk
  have hf : fz_fr [(53, 46), (82, 99999)] h h := fz_fr_rf
  have b1 : 0 ≤ h 53 46 ∧ h 53 46 ≤ 1000 := hI.1 53 _
  refine fz_iload_n kX11_says rfl rfl ?_
  refine fz_tswC (j := 0) (tgt := 48) kX11_says rfl rfl (by decide) (by decide) rfl (by decide) ?_
  refine fz_aload_n kX11_says rfl rfl ?_
  refine fz_bipush ⟨by decide, by decide⟩ kX11_says rfl ?_
  refine fz_callV (d' := 0) (M' := mX11_ran) (As := [fz_i 10]) (st := []) kX11_says rfl rfl vX11_ran rfl rfl rfl rfl (Nat.le_of_ble_eq_true rfl) (Nat.le_of_ble_eq_true rfl) (by decide) (sX11_ran h hI 10 (by omega)) (fun H2 r3 q4 o5 => ?_)
  obtain ⟨hI6, hf7, rfl, f8, f9⟩ := q4
  clear o5
  have hf10 := fz_fr_tr hf hf7 (show fz_su [(53, 46), (82, 99999)] [(53, 46), (82, 99999)] = true from rfl)
  refine fz_aload_n kX11_says rfl rfl ?_
  refine fz_iload_n kX11_says rfl rfl ?_
  refine fz_aload_n kX11_says rfl rfl ?_
  refine fz_getR (t := 81) kX11_says rfl rfl ?_
  refine fz_iload_n kX11_says rfl rfl ?_
  refine fz_ialdV (n := 50) (v := h 81 (b.toNat)) kX11_says rfl rfl (by omega) (by omega) (hf10 81 _ rfl) ?_
  have b11 : 0 ≤ h 81 (b.toNat) ∧ h 81 (b.toNat) ≤ 7 := hI.1 81 _
  refine fz_eqi (show (h 81 (b.toNat)) = 5 by omega) ?_
  refine fz_iload_n kX11_says rfl rfl ?_
  have b12 : 0 ≤ H2 53 46 ∧ H2 53 46 ≤ 1000 := hI6.1 53 _
  have e13 : H2 81 b.toNat = h 81 b.toNat := hf10 81 _ rfl
  refine fz_callV (d' := 4) (M' := mX11_goes) (As := [fz_i b, fz_i 5, fz_i x]) (st := []) kX11_says rfl rfl vX11_goes rfl rfl rfl rfl (Nat.le_of_ble_eq_true rfl) (Nat.le_of_ble_eq_true rfl) (by decide) (sX11_goes_5_5 H2 hI6 b x (by omega) (by omega) (by omega)) (fun H14 r15 q16 o17 => ?_)
  obtain ⟨hI18, hf19, y24, rfl, f20, f21, f22, f23⟩ := q16
  clear o17
  have hf25 := fz_fr_tr hf10 hf19 (show fz_su [(53, 46), (82, 99999)] [(53, 46), (82, 99999)] = true from rfl)
  refine fz_iconst ⟨by decide, by decide⟩ kX11_says rfl ?_
  refine fz_imul kX11_says rfl ?_
  have b26 := fz_w_b (y24 * 2)
  exact fz_iret kX11_says rfl rfl (fun _ => ⟨hI18, hf25, _, rfl, (by omega), (by first | rfl | (rw [f21, lost]) | (rw [f21]) | (exfalso; omega)), (by simp only [List.length_cons, List.length_nil]; omega), (by first | exact fz_tc2 f9 f23 lost (by omega) (by simp only [List.length_cons, List.length_nil]; omega) | exact fz_tc1 f9 f23 (by omega) | exact fz_tc0 f9 | exact f23 | (exfalso; omega))⟩)

abbrev qX11_says_5_2 (h : fz_H) (b x : Int) : fz_H → Option fz_V → Prop := fun h' r0 => fz_Iv h' ∧ fz_fr [(53, 46), (82, 99999)] h h' ∧ ∃ r : Int, r0 = some (fz_i r) ∧ (h' 53 46 = h 53 46 + 3) ∧ (r = fz_w (-(fz_w (fz_w (x + b) * 2)))) ∧ (h' 53 46 = h 53 46 + ([30, 10, 1] : List Int).length) ∧ (h' 82 = fz_tr (h 82) (h 53 46) [30, 10, 1])
set_option maxHeartbeats 1000000 in
set_option maxRecDepth 100000 in
theorem sX11_says_5_2 (h : fz_H) (hI : fz_Iv h) (b x : Int) (hp0 : 0 ≤ b ∧ b ≤ 49) (hp1 : h 53 46 ≤ 897) (hp2 : h 81 b.toNat = 5) : fz_R 6 mX11_says 0 [(0, fz_r 53), (1, fz_i b), (2, fz_i 2), (3, fz_i x)] [] h (qX11_says_5_2 h b x) := by
  refine fz_knowl (fun hk => ?_)
  have hr_b : -2147483648 ≤ b ∧ b < 2147483648 := hk _ (List.Mem.tail _ (List.Mem.head _))
  have hr_x : -2147483648 ≤ x ∧ x < 2147483648 := hk _ (List.Mem.tail _ (List.Mem.tail _ (List.Mem.tail _ (List.Mem.head _))))
  clear hk
  have hf : fz_fr [(53, 46), (82, 99999)] h h := fz_fr_rf
  have b1 : 0 ≤ h 53 46 ∧ h 53 46 ≤ 1000 := hI.1 53 _
  refine fz_iload_n kX11_says rfl rfl ?_
  refine fz_tswC (j := 2) (tgt := 69) kX11_says rfl rfl (by decide) (by decide) rfl (by decide) ?_
  refine fz_aload_n kX11_says rfl rfl ?_
  refine fz_bipush ⟨by decide, by decide⟩ kX11_says rfl ?_
  refine fz_callV (d' := 0) (M' := mX11_ran) (As := [fz_i 30]) (st := []) kX11_says rfl rfl vX11_ran rfl rfl rfl rfl (Nat.le_of_ble_eq_true rfl) (Nat.le_of_ble_eq_true rfl) (by decide) (sX11_ran h hI 30 (by omega)) (fun H2 r3 q4 o5 => ?_)
  obtain ⟨hI6, hf7, rfl, f8, f9⟩ := q4
  clear o5
  have hf10 := fz_fr_tr hf hf7 (show fz_su [(53, 46), (82, 99999)] [(53, 46), (82, 99999)] = true from rfl)
  refine fz_aload_n kX11_says rfl rfl ?_
  refine fz_iload_n kX11_says rfl rfl ?_
  refine fz_iconst ⟨by decide, by decide⟩ kX11_says rfl ?_
  refine fz_iload_n kX11_says rfl rfl ?_
  have b11 : 0 ≤ H2 53 46 ∧ H2 53 46 ≤ 1000 := hI6.1 53 _
  have e12 : H2 81 b.toNat = h 81 b.toNat := hf10 81 _ rfl
  refine fz_callV (d' := 5) (M' := mX11_says) (As := [fz_i b, fz_i 0, fz_i x]) (st := []) kX11_says rfl rfl vX11_says rfl rfl rfl rfl (Nat.le_of_ble_eq_true rfl) (Nat.le_of_ble_eq_true rfl) (by decide) (sX11_says_5_0 H2 hI6 b x (by omega) (by omega) (by omega)) (fun H13 r14 q15 o16 => ?_)
  obtain ⟨hI17, hf18, y23, rfl, f19, f20, f21, f22⟩ := q15
  clear o16
  have hf24 := fz_fr_tr hf10 hf18 (show fz_su [(53, 46), (82, 99999)] [(53, 46), (82, 99999)] = true from rfl)
  refine fz_ineg kX11_says rfl ?_
  have b25 := fz_w_b (-y23)
  exact fz_iret kX11_says rfl rfl (fun _ => ⟨hI17, hf24, _, rfl, (by omega), (by first | rfl | (rw [f20, lost]) | (rw [f20]) | (exfalso; omega)), (by simp only [List.length_cons, List.length_nil]; omega), (by first | exact fz_tc2 f9 f22 lost (by omega) (by simp only [List.length_cons, List.length_nil]; omega) | exact fz_tc1 f9 f22 (by omega) | exact fz_tc0 f9 | exact f22 | (exfalso; omega))⟩)

abbrev qX11_says_5_3 (h : fz_H) (b x : Int) : fz_H → Option fz_V → Prop := fun h' r0 => fz_Iv h' ∧ fz_fr [(53, 46), (82, 99999)] h h' ∧ ∃ r : Int, r0 = some (fz_i r) ∧ (h' 53 46 = h 53 46 + 4) ∧ (r = fz_w (-(fz_w (fz_w (((fz_w (x + 1))) + b) * 2)))) ∧ (h' 53 46 = h 53 46 + ([41, 30, 10, 1] : List Int).length) ∧ (h' 82 = fz_tr (h 82) (h 53 46) [41, 30, 10, 1])
set_option maxHeartbeats 1000000 in
set_option maxRecDepth 100000 in
theorem sX11_says_5_3 (h : fz_H) (hI : fz_Iv h) (b x : Int) (hp0 : 0 ≤ b ∧ b ≤ 49) (hp1 : h 53 46 ≤ 896) (hp2 : h 81 b.toNat = 5) : fz_R 7 mX11_says 0 [(0, fz_r 53), (1, fz_i b), (2, fz_i 3), (3, fz_i x)] [] h (qX11_says_5_3 h b x) := by
  refine fz_knowl (fun hk => ?_)
  have hr_b : -2147483648 ≤ b ∧ b < 2147483648 := hk _ (List.Mem.tail _ (List.Mem.head _))
  have hr_x : -2147483648 ≤ x ∧ x < 2147483648 := hk _ (List.Mem.tail _ (List.Mem.tail _ (List.Mem.tail _ (List.Mem.head _))))
  clear hk
  have hf : fz_fr [(53, 46), (82, 99999)] h h := fz_fr_rf
  have b1 : 0 ≤ h 53 46 ∧ h 53 46 ≤ 1000 := hI.1 53 _
  refine fz_iload_n kX11_says rfl rfl ?_
  refine fz_tswC (j := 3) (tgt := 84) kX11_says rfl rfl (by decide) (by decide) rfl (by decide) ?_
  refine fz_aload_n kX11_says rfl rfl ?_
  refine fz_bipush ⟨by decide, by decide⟩ kX11_says rfl ?_
  refine fz_callV (d' := 0) (M' := mX11_ran) (As := [fz_i 41]) (st := []) kX11_says rfl rfl vX11_ran rfl rfl rfl rfl (Nat.le_of_ble_eq_true rfl) (Nat.le_of_ble_eq_true rfl) (by decide) (sX11_ran h hI 41 (by omega)) (fun H2 r3 q4 o5 => ?_)
  obtain ⟨hI6, hf7, rfl, f8, f9⟩ := q4
  clear o5
  have hf10 := fz_fr_tr hf hf7 (show fz_su [(53, 46), (82, 99999)] [(53, 46), (82, 99999)] = true from rfl)
  refine fz_aload_n kX11_says rfl rfl ?_
  refine fz_iload_n kX11_says rfl rfl ?_
  refine fz_iconst ⟨by decide, by decide⟩ kX11_says rfl ?_
  refine fz_iload_n kX11_says rfl rfl ?_
  refine fz_iconst ⟨by decide, by decide⟩ kX11_says rfl ?_
  refine fz_iadd kX11_says rfl ?_
  have b11 := fz_w_b (x + 1)
  have b12 : 0 ≤ H2 53 46 ∧ H2 53 46 ≤ 1000 := hI6.1 53 _
  have e13 : H2 81 b.toNat = h 81 b.toNat := hf10 81 _ rfl
  refine fz_callV (d' := 6) (M' := mX11_says) (As := [fz_i b, fz_i 2, fz_i (fz_w (x + 1))]) (st := []) kX11_says rfl rfl vX11_says rfl rfl rfl rfl (Nat.le_of_ble_eq_true rfl) (Nat.le_of_ble_eq_true rfl) (by decide) (sX11_says_5_2 H2 hI6 b (fz_w (x + 1)) (by omega) (by omega) (by omega)) (fun H14 r15 q16 o17 => ?_)
  obtain ⟨hI18, hf19, y24, rfl, f20, f21, f22, f23⟩ := q16
  clear o17
  have hf25 := fz_fr_tr hf10 hf19 (show fz_su [(53, 46), (82, 99999)] [(53, 46), (82, 99999)] = true from rfl)
  exact fz_iret kX11_says rfl rfl (fun _ => ⟨hI18, hf25, _, rfl, (by omega), (by first | rfl | (rw [f21, lost]) | (rw [f21]) | (exfalso; omega)), (by simp only [List.length_cons, List.length_nil]; omega), (by first | exact fz_tc2 f9 f23 lost (by omega) (by simp only [List.length_cons, List.length_nil]; omega) | exact fz_tc1 f9 f23 (by omega) | exact fz_tc0 f9 | exact f23 | (exfalso; omega))⟩)

abbrev qX11_says_5_5 (h : fz_H) (b x : Int) : fz_H → Option fz_V → Prop := fun h' r0 => fz_Iv h' ∧ fz_fr [(53, 46), (82, 99999)] h h' ∧ ∃ r : Int, r0 = some (fz_i r) ∧ (h' 53 46 = h 53 46 + 4) ∧ (r = fz_w (-(fz_w (fz_w (((fz_w (x + 1))) + b) * 2)))) ∧ (h' 53 46 = h 53 46 + ([41, 30, 10, 1] : List Int).length) ∧ (h' 82 = fz_tr (h 82) (h 53 46) [41, 30, 10, 1])
set_option maxHeartbeats 1000000 in
set_option maxRecDepth 100000 in
theorem sX11_says_5_5 (h : fz_H) (hI : fz_Iv h) (b x : Int) (hp0 : 0 ≤ b ∧ b ≤ 49) (hp1 : h 53 46 ≤ 896) (hp2 : h 81 b.toNat = 5) : fz_R 8 mX11_says 0 [(0, fz_r 53), (1, fz_i b), (2, fz_i 5), (3, fz_i x)] [] h (qX11_says_5_5 h b x) := by
  refine fz_knowl (fun hk => ?_)
  have hr_b : -2147483648 ≤ b ∧ b < 2147483648 := hk _ (List.Mem.tail _ (List.Mem.head _))
  have hr_x : -2147483648 ≤ x ∧ x < 2147483648 := hk _ (List.Mem.tail _ (List.Mem.tail _ (List.Mem.tail _ (List.Mem.head _))))
  clear hk
  have hf : fz_fr [(53, 46), (82, 99999)] h h := fz_fr_rf
  have b1 : 0 ≤ h 53 46 ∧ h 53 46 ≤ 1000 := hI.1 53 _
  refine fz_iload_n kX11_says rfl rfl ?_
  refine fz_tswC (j := 5) (tgt := 131) kX11_says rfl rfl (by decide) (by decide) rfl (by decide) ?_
  refine fz_aload_n kX11_says rfl rfl ?_
  refine fz_iload_n kX11_says rfl rfl ?_
  refine fz_iload_n kX11_says rfl rfl ?_
  refine fz_callS (d' := 0) (M' := mX11_above) (As := [fz_i 5]) (st := [fz_i b, fz_r 53]) kX11_says rfl rfl vX11_above rfl rfl (Nat.le_of_ble_eq_true rfl) (Nat.le_of_ble_eq_true rfl) (by decide) (sX11_above_5 h hI  ) (fun H2 r3 q4 o5 => ?_)
  obtain ⟨e6, y8, rfl, f7⟩ := q4
  subst H2
  clear o5
  refine fz_eqi (show y8 = 3 by omega) ?_
  refine fz_iload_n kX11_says rfl rfl ?_
  refine fz_callV (d' := 7) (M' := mX11_says) (As := [fz_i b, fz_i 3, fz_i x]) (st := []) kX11_says rfl rfl vX11_says rfl rfl rfl rfl (Nat.le_of_ble_eq_true rfl) (Nat.le_of_ble_eq_true rfl) (by decide) (sX11_says_5_3 h hI b x (by omega) (by omega) (by omega)) (fun H9 r10 q11 o12 => ?_)
  obtain ⟨hI13, hf14, y19, rfl, f15, f16, f17, f18⟩ := q11
  clear o12
  have hf20 := fz_fr_tr hf hf14 (show fz_su [(53, 46), (82, 99999)] [(53, 46), (82, 99999)] = true from rfl)
  exact fz_iret kX11_says rfl rfl (fun _ => ⟨hI13, hf20, _, rfl, (by omega), (by first | rfl | (rw [f16, lost]) | (rw [f16]) | (exfalso; omega)), (by simp only [List.length_cons, List.length_nil]; omega), (by first | exact fz_tc2 lost f18 lost (by omega) (by simp only [List.length_cons, List.length_nil]; omega) | exact fz_tc1 lost f18 (by omega) | exact fz_tc0 lost | exact f18 | (exfalso; omega))⟩)

abbrev qX11_fades_5_0 (h : fz_H) (b x : Int) : fz_H → Option fz_V → Prop := fun h' r0 => fz_Iv h' ∧ fz_fr [(53, 46), (82, 99999)] h h' ∧ ∃ r : Int, r0 = some (fz_i r) ∧ (h' 53 46 = h 53 46 + 1) ∧ (r = fz_xor x b) ∧ (h' 53 46 = h 53 46 + ([11] : List Int).length) ∧ (h' 82 = fz_tr (h 82) (h 53 46) [11])
set_option maxHeartbeats 1000000 in
set_option maxRecDepth 100000 in
theorem sX11_fades_5_0 (h : fz_H) (hI : fz_Iv h) (b x : Int) (hp0 : 0 ≤ b ∧ b ≤ 49) (hp1 : h 53 46 ≤ 899) (hp2 : h 81 b.toNat = 5) : fz_R 1 mX11_fades 0 [(0, fz_r 53), (1, fz_i b), (2, fz_i 0), (3, fz_i x)] [] h (qX11_fades_5_0 h b x) := by
  refine fz_knowl (fun hk => ?_)
  have hr_b : -2147483648 ≤ b ∧ b < 2147483648 := hk _ (List.Mem.tail _ (List.Mem.head _))
  have hr_x : -2147483648 ≤ x ∧ x < 2147483648 := hk _ (List.Mem.tail _ (List.Mem.tail _ (List.Mem.tail _ (List.Mem.head _))))
  clear hk
  have hf : fz_fr [(53, 46), (82, 99999)] h h := fz_fr_rf
  have b1 : 0 ≤ h 53 46 ∧ h 53 46 ≤ 1000 := hI.1 53 _
  refine fz_iload_n kX11_fades rfl rfl ?_
  refine fz_tswC (j := 0) (tgt := 36) kX11_fades rfl rfl (by decide) (by decide) rfl (by decide) ?_
  refine fz_aload_n kX11_fades rfl rfl ?_
  refine fz_bipush ⟨by decide, by decide⟩ kX11_fades rfl ?_
  refine fz_callV (d' := 0) (M' := mX11_ran) (As := [fz_i 11]) (st := []) kX11_fades rfl rfl vX11_ran rfl rfl rfl rfl (Nat.le_of_ble_eq_true rfl) (Nat.le_of_ble_eq_true rfl) (by decide) (sX11_ran h hI 11 (by omega)) (fun H2 r3 q4 o5 => ?_)
  obtain ⟨hI6, hf7, rfl, f8, f9⟩ := q4
  clear o5
  have hf10 := fz_fr_tr hf hf7 (show fz_su [(53, 46), (82, 99999)] [(53, 46), (82, 99999)] = true from rfl)
  refine fz_iload_n kX11_fades rfl rfl ?_
  refine fz_iload_n kX11_fades rfl rfl ?_
  refine fz_ixor kX11_fades rfl ?_
  have b11 : -2147483648 ≤ (fz_xor x b) ∧ (fz_xor x b) < 2147483648 := fz_b32 _
  exact fz_iret kX11_fades rfl rfl (fun _ => ⟨hI6, hf10, _, rfl, (by omega), (by first | rfl | (rw [lost, lost]) | (rw [lost]) | (exfalso; omega)), (by simp only [List.length_cons, List.length_nil]; omega), (by first | exact fz_tc2 f9 lost lost (by omega) (by simp only [List.length_cons, List.length_nil]; omega) | exact fz_tc1 f9 lost (by omega) | exact fz_tc0 f9 | exact lost | (exfalso; omega))⟩)

abbrev qX11_fades_5_2 (h : fz_H) (b x : Int) : fz_H → Option fz_V → Prop := fun h' r0 => fz_Iv h' ∧ fz_fr [(53, 46), (82, 99999)] h h' ∧ ∃ r : Int, r0 = some (fz_i r) ∧ (h' 53 46 = h 53 46 + 1) ∧ (r = fz_xor x b) ∧ (h' 53 46 = h 53 46 + ([11] : List Int).length) ∧ (h' 82 = fz_tr (h 82) (h 53 46) [11])
set_option maxHeartbeats 1000000 in
set_option maxRecDepth 100000 in
theorem sX11_fades_5_2 (h : fz_H) (hI : fz_Iv h) (b x : Int) (hp0 : 0 ≤ b ∧ b ≤ 49) (hp1 : h 53 46 ≤ 899) (hp2 : h 81 b.toNat = 5) : fz_R 2 mX11_fades 0 [(0, fz_r 53), (1, fz_i b), (2, fz_i 2), (3, fz_i x)] [] h (qX11_fades_5_2 h b x) := by
  refine fz_knowl (fun hk => ?_)
  have hr_b : -2147483648 ≤ b ∧ b < 2147483648 := hk _ (List.Mem.tail _ (List.Mem.head _))
  have hr_x : -2147483648 ≤ x ∧ x < 2147483648 := hk _ (List.Mem.tail _ (List.Mem.tail _ (List.Mem.tail _ (List.Mem.head _))))
  clear hk
  have hf : fz_fr [(53, 46), (82, 99999)] h h := fz_fr_rf
  have b1 : 0 ≤ h 53 46 ∧ h 53 46 ≤ 1000 := hI.1 53 _
  refine fz_iload_n kX11_fades rfl rfl ?_
  refine fz_tswC (j := 2) (tgt := 93) kX11_fades rfl rfl (by decide) (by decide) rfl (by decide) ?_
  refine fz_aload_n kX11_fades rfl rfl ?_
  refine fz_iload_n kX11_fades rfl rfl ?_
  refine fz_iload_n kX11_fades rfl rfl ?_
  refine fz_callS (d' := 0) (M' := mX11_above) (As := [fz_i 2]) (st := [fz_i b, fz_r 53]) kX11_fades rfl rfl vX11_above rfl rfl (Nat.le_of_ble_eq_true rfl) (Nat.le_of_ble_eq_true rfl) (by decide) (sX11_above_2 h hI  ) (fun H2 r3 q4 o5 => ?_)
  obtain ⟨e6, y8, rfl, f7⟩ := q4
  subst H2
  clear o5
  refine fz_eqi (show y8 = 0 by omega) ?_
  refine fz_iload_n kX11_fades rfl rfl ?_
  refine fz_callV (d' := 1) (M' := mX11_fades) (As := [fz_i b, fz_i 0, fz_i x]) (st := []) kX11_fades rfl rfl vX11_fades rfl rfl rfl rfl (Nat.le_of_ble_eq_true rfl) (Nat.le_of_ble_eq_true rfl) (by decide) (sX11_fades_5_0 h hI b x (by omega) (by omega) (by omega)) (fun H9 r10 q11 o12 => ?_)
  obtain ⟨hI13, hf14, y19, rfl, f15, f16, f17, f18⟩ := q11
  clear o12
  have hf20 := fz_fr_tr hf hf14 (show fz_su [(53, 46), (82, 99999)] [(53, 46), (82, 99999)] = true from rfl)
  exact fz_iret kX11_fades rfl rfl (fun _ => ⟨hI13, hf20, _, rfl, (by omega), (by first | rfl | (rw [f16, lost]) | (rw [f16]) | (exfalso; omega)), (by simp only [List.length_cons, List.length_nil]; omega), (by first | exact fz_tc2 lost f18 lost (by omega) (by simp only [List.length_cons, List.length_nil]; omega) | exact fz_tc1 lost f18 (by omega) | exact fz_tc0 lost | exact f18 | (exfalso; omega))⟩)

abbrev qX11_fades_5_3 (h : fz_H) (b x : Int) : fz_H → Option fz_V → Prop := fun h' r0 => fz_Iv h' ∧ fz_fr [(53, 46), (82, 99999)] h h' ∧ ∃ r : Int, r0 = some (fz_i r) ∧ (h' 53 46 = h 53 46 + 2) ∧ (r = fz_w (fz_xor x b * 3)) ∧ (h' 53 46 = h 53 46 + ([40, 11] : List Int).length) ∧ (h' 82 = fz_tr (h 82) (h 53 46) [40, 11])
set_option maxHeartbeats 1000000 in
set_option maxRecDepth 100000 in
theorem sX11_fades_5_3 (h : fz_H) (hI : fz_Iv h) (b x : Int) (hp0 : 0 ≤ b ∧ b ≤ 49) (hp1 : h 53 46 ≤ 898) (hp2 : h 81 b.toNat = 5) : fz_R 3 mX11_fades 0 [(0, fz_r 53), (1, fz_i b), (2, fz_i 3), (3, fz_i x)] [] h (qX11_fades_5_3 h b x) := by
  refine fz_knowl (fun hk => ?_)
  have hr_b : -2147483648 ≤ b ∧ b < 2147483648 := hk _ (List.Mem.tail _ (List.Mem.head _))
  have hr_x : -2147483648 ≤ x ∧ x < 2147483648 := hk _ (List.Mem.tail _ (List.Mem.tail _ (List.Mem.tail _ (List.Mem.head _))))
  clear hk
  have hf : fz_fr [(53, 46), (82, 99999)] h h := fz_fr_rf
  have b1 : 0 ≤ h 53 46 ∧ h 53 46 ≤ 1000 := hI.1 53 _
  refine fz_iload_n kX11_fades rfl rfl ?_
  refine fz_tswC (j := 3) (tgt := 46) kX11_fades rfl rfl (by decide) (by decide) rfl (by decide) ?_
  refine fz_aload_n kX11_fades rfl rfl ?_
  refine fz_bipush ⟨by decide, by decide⟩ kX11_fades rfl ?_
  refine fz_callV (d' := 0) (M' := mX11_ran) (As := [fz_i 40]) (st := []) kX11_fades rfl rfl vX11_ran rfl rfl rfl rfl (Nat.le_of_ble_eq_true rfl) (Nat.le_of_ble_eq_true rfl) (by decide) (sX11_ran h hI 40 (by omega)) (fun H2 r3 q4 o5 => ?_)
  obtain ⟨hI6, hf7, rfl, f8, f9⟩ := q4
  clear o5
  have hf10 := fz_fr_tr hf hf7 (show fz_su [(53, 46), (82, 99999)] [(53, 46), (82, 99999)] = true from rfl)
  refine fz_aload_n kX11_fades rfl rfl ?_
  refine fz_iload_n kX11_fades rfl rfl ?_
  refine fz_iconst ⟨by decide, by decide⟩ kX11_fades rfl ?_
  refine fz_iload_n kX11_fades rfl rfl ?_
  have b11 : 0 ≤ H2 53 46 ∧ H2 53 46 ≤ 1000 := hI6.1 53 _
  have e12 : H2 81 b.toNat = h 81 b.toNat := hf10 81 _ rfl
  refine fz_callV (d' := 2) (M' := mX11_fades) (As := [fz_i b, fz_i 2, fz_i x]) (st := []) kX11_fades rfl rfl vX11_fades rfl rfl rfl rfl (Nat.le_of_ble_eq_true rfl) (Nat.le_of_ble_eq_true rfl) (by decide) (sX11_fades_5_2 H2 hI6 b x (by omega) (by omega) (by omega)) (fun H13 r14 q15 o16 => ?_)
  obtain ⟨hI17, hf18, y23, rfl, f19, f20, f21, f22⟩ := q15
  clear o16
  have hf24 := fz_fr_tr hf10 hf18 (show fz_su [(53, 46), (82, 99999)] [(53, 46), (82, 99999)] = true from rfl)
  refine fz_iconst ⟨by decide, by decide⟩ kX11_fades rfl ?_
  refine fz_imul kX11_fades rfl ?_
  have b25 := fz_w_b (y23 * 3)
  exact fz_iret kX11_fades rfl rfl (fun _ => ⟨hI17, hf24, _, rfl, (by omega), (by first | rfl | (rw [f20, lost]) | (rw [f20]) | (exfalso; omega)), (by simp only [List.length_cons, List.length_nil]; omega), (by first | exact fz_tc2 f9 f22 lost (by omega) (by simp only [List.length_cons, List.length_nil]; omega) | exact fz_tc1 f9 f22 (by omega) | exact fz_tc0 f9 | exact f22 | (exfalso; omega))⟩)

abbrev qX11_fades_5_5 (h : fz_H) (b x : Int) : fz_H → Option fz_V → Prop := fun h' r0 => fz_Iv h' ∧ fz_fr [(53, 46), (82, 99999)] h h' ∧ ∃ r : Int, r0 = some (fz_i r) ∧ (h' 53 46 = h 53 46 + 2) ∧ (r = fz_w (fz_xor x b * 3)) ∧ (h' 53 46 = h 53 46 + ([40, 11] : List Int).length) ∧ (h' 82 = fz_tr (h 82) (h 53 46) [40, 11])
set_option maxHeartbeats 1000000 in
set_option maxRecDepth 100000 in
theorem sX11_fades_5_5 (h : fz_H) (hI : fz_Iv h) (b x : Int) (hp0 : 0 ≤ b ∧ b ≤ 49) (hp1 : h 53 46 ≤ 898) (hp2 : h 81 b.toNat = 5) : fz_R 4 mX11_fades 0 [(0, fz_r 53), (1, fz_i b), (2, fz_i 5), (3, fz_i x)] [] h (qX11_fades_5_5 h b x) := by
  refine fz_knowl (fun hk => ?_)
  have hr_b : -2147483648 ≤ b ∧ b < 2147483648 := hk _ (List.Mem.tail _ (List.Mem.head _))
  have hr_x : -2147483648 ≤ x ∧ x < 2147483648 := hk _ (List.Mem.tail _ (List.Mem.tail _ (List.Mem.tail _ (List.Mem.head _))))
  clear hk
  have hf : fz_fr [(53, 46), (82, 99999)] h h := fz_fr_rf
  have b1 : 0 ≤ h 53 46 ∧ h 53 46 ≤ 1000 := hI.1 53 _
  refine fz_iload_n kX11_fades rfl rfl ?_
  have c2 : ((5 : Int) < 0 ∨ 4 < (5 : Int)) := by omega
  · refine fz_tswO (tgt := 93) kX11_fades rfl c2 (by decide) ?_
    refine fz_aload_n kX11_fades rfl rfl ?_
    refine fz_iload_n kX11_fades rfl rfl ?_
    refine fz_iload_n kX11_fades rfl rfl ?_
    refine fz_callS (d' := 0) (M' := mX11_above) (As := [fz_i 5]) (st := [fz_i b, fz_r 53]) kX11_fades rfl rfl vX11_above rfl rfl (Nat.le_of_ble_eq_true rfl) (Nat.le_of_ble_eq_true rfl) (by decide) (sX11_above_5 h hI  ) (fun H3 r4 q5 o6 => ?_)
    obtain ⟨e7, y9, rfl, f8⟩ := q5
    subst H3
    clear o6
    refine fz_eqi (show y9 = 3 by omega) ?_
    refine fz_iload_n kX11_fades rfl rfl ?_
    refine fz_callV (d' := 3) (M' := mX11_fades) (As := [fz_i b, fz_i 3, fz_i x]) (st := []) kX11_fades rfl rfl vX11_fades rfl rfl rfl rfl (Nat.le_of_ble_eq_true rfl) (Nat.le_of_ble_eq_true rfl) (by decide) (sX11_fades_5_3 h hI b x (by omega) (by omega) (by omega)) (fun H10 r11 q12 o13 => ?_)
    obtain ⟨hI14, hf15, y20, rfl, f16, f17, f18, f19⟩ := q12
    clear o13
    have hf21 := fz_fr_tr hf hf15 (show fz_su [(53, 46), (82, 99999)] [(53, 46), (82, 99999)] = true from rfl)
    exact fz_iret kX11_fades rfl rfl (fun _ => ⟨hI14, hf21, _, rfl, (by omega), (by first | rfl | (rw [f17, lost]) | (rw [f17]) | (exfalso; omega)), (by simp only [List.length_cons, List.length_nil]; omega), (by first | exact fz_tc2 lost f19 lost (by omega) (by simp only [List.length_cons, List.length_nil]; omega) | exact fz_tc1 lost f19 (by omega) | exact fz_tc0 lost | exact f19 | (exfalso; omega))⟩)

abbrev qX11_tells_5_0 (h : fz_H) (b x : Int) : fz_H → Option fz_V → Prop := fun h' r0 => fz_Iv h' ∧ fz_fr [(53, 46), (82, 99999)] h h' ∧ ∃ r : Int, r0 = some (fz_i r) ∧ (h' 53 46 = h 53 46 + 7) ∧ (r = fz_w (fz_w (-(fz_w (fz_w (((fz_w (x + 1))) + b) * 2))) - fz_w (fz_xor 1 b * 3))) ∧ (h' 53 46 = h 53 46 + ([2, 41, 30, 10, 1, 40, 11] : List Int).length) ∧ (h' 82 = fz_tr (h 82) (h 53 46) [2, 41, 30, 10, 1, 40, 11])
set_option maxHeartbeats 1000000 in
set_option maxRecDepth 100000 in
theorem sX11_tells_5_0 (h : fz_H) (hI : fz_Iv h) (b x : Int) (hp0 : 0 ≤ b ∧ b ≤ 49) (hp1 : h 53 46 ≤ 893) (hp2 : h 81 b.toNat = 5) : fz_R 9 mX11_tells 0 [(0, fz_r 53), (1, fz_i b), (2, fz_i 0), (3, fz_i x)] [] h (qX11_tells_5_0 h b x) := by
  refine fz_knowl (fun hk => ?_)
  have hr_b : -2147483648 ≤ b ∧ b < 2147483648 := hk _ (List.Mem.tail _ (List.Mem.head _))
  have hr_x : -2147483648 ≤ x ∧ x < 2147483648 := hk _ (List.Mem.tail _ (List.Mem.tail _ (List.Mem.tail _ (List.Mem.head _))))
  clear hk
  have hf : fz_fr [(53, 46), (82, 99999)] h h := fz_fr_rf
  have b1 : 0 ≤ h 53 46 ∧ h 53 46 ≤ 1000 := hI.1 53 _
  refine fz_iload_n kX11_tells rfl rfl ?_
  refine fz_lsw (tgt := 36) kX11_tells rfl (by decide) (show Op.lookupswitch.offset [(0, 35), (5, 70), (7, 86)] 102 0 = 35 from rfl) (by decide) ?_
  refine fz_aload_n kX11_tells rfl rfl ?_
  refine fz_iconst ⟨by decide, by decide⟩ kX11_tells rfl ?_
  refine fz_callV (d' := 0) (M' := mX11_ran) (As := [fz_i 2]) (st := []) kX11_tells rfl rfl vX11_ran rfl rfl rfl rfl (Nat.le_of_ble_eq_true rfl) (Nat.le_of_ble_eq_true rfl) (by decide) (sX11_ran h hI 2 (by omega)) (fun H2 r3 q4 o5 => ?_)
  obtain ⟨hI6, hf7, rfl, f8, f9⟩ := q4
  clear o5
  have hf10 := fz_fr_tr hf hf7 (show fz_su [(53, 46), (82, 99999)] [(53, 46), (82, 99999)] = true from rfl)
  refine fz_aload_n kX11_tells rfl rfl ?_
  refine fz_iload_n kX11_tells rfl rfl ?_
  refine fz_aload_n kX11_tells rfl rfl ?_
  refine fz_getR (t := 81) kX11_tells rfl rfl ?_
  refine fz_iload_n kX11_tells rfl rfl ?_
  refine fz_ialdV (n := 50) (v := h 81 (b.toNat)) kX11_tells rfl rfl (by omega) (by omega) (hf10 81 _ rfl) ?_
  have b11 : 0 ≤ h 81 (b.toNat) ∧ h 81 (b.toNat) ≤ 7 := hI.1 81 _
  refine fz_eqi (show (h 81 (b.toNat)) = 5 by omega) ?_
  refine fz_iload_n kX11_tells rfl rfl ?_
  have b12 : 0 ≤ H2 53 46 ∧ H2 53 46 ≤ 1000 := hI6.1 53 _
  have e13 : H2 81 b.toNat = h 81 b.toNat := hf10 81 _ rfl
  refine fz_callV (d' := 8) (M' := mX11_says) (As := [fz_i b, fz_i 5, fz_i x]) (st := []) kX11_tells rfl rfl vX11_says rfl rfl rfl rfl (Nat.le_of_ble_eq_true rfl) (Nat.le_of_ble_eq_true rfl) (by decide) (sX11_says_5_5 H2 hI6 b x (by omega) (by omega) (by omega)) (fun H14 r15 q16 o17 => ?_)
  obtain ⟨hI18, hf19, y24, rfl, f20, f21, f22, f23⟩ := q16
  clear o17
  have hf25 := fz_fr_tr hf10 hf19 (show fz_su [(53, 46), (82, 99999)] [(53, 46), (82, 99999)] = true from rfl)
  refine fz_istore (ls' := [(4, fz_i y24), (0, fz_r 53), (1, fz_i b), (2, fz_i 0), (3, fz_i x)]) kX11_tells rfl (by decide) rfl ?_
  refine fz_iload kX11_tells rfl rfl ?_
  refine fz_aload_n kX11_tells rfl rfl ?_
  refine fz_iload_n kX11_tells rfl rfl ?_
  refine fz_aload_n kX11_tells rfl rfl ?_
  refine fz_getR (t := 81) kX11_tells rfl rfl ?_
  refine fz_iload_n kX11_tells rfl rfl ?_
  refine fz_ialdV (n := 50) (v := h 81 (b.toNat)) kX11_tells rfl rfl (by omega) (by omega) (hf25 81 _ rfl) ?_
  refine fz_eqi (show (h 81 (b.toNat)) = 5 by omega) ?_
  refine fz_iconst ⟨by decide, by decide⟩ kX11_tells rfl ?_
  have b26 : 0 ≤ H14 53 46 ∧ H14 53 46 ≤ 1000 := hI18.1 53 _
  have e27 : H14 81 b.toNat = h 81 b.toNat := hf25 81 _ rfl
  refine fz_callV (d' := 4) (M' := mX11_fades) (As := [fz_i b, fz_i 5, fz_i 1]) (st := [fz_i y24]) kX11_tells rfl rfl vX11_fades rfl rfl rfl rfl (Nat.le_of_ble_eq_true rfl) (Nat.le_of_ble_eq_true rfl) (by decide) (sX11_fades_5_5 H14 hI18 b 1 (by omega) (by omega) (by omega)) (fun H28 r29 q30 o31 => ?_)
  obtain ⟨hI32, hf33, y38, rfl, f34, f35, f36, f37⟩ := q30
  clear o31
  have hf39 := fz_fr_tr hf25 hf33 (show fz_su [(53, 46), (82, 99999)] [(53, 46), (82, 99999)] = true from rfl)
  refine fz_isub kX11_tells rfl ?_
  have b40 := fz_w_b (y24 - y38)
  exact fz_iret kX11_tells rfl rfl (fun _ => ⟨hI32, hf39, _, rfl, (by omega), (by first | rfl | (rw [f21, f35]) | (rw [f21]) | (exfalso; omega)), (by simp only [List.length_cons, List.length_nil]; omega), (by first | exact fz_tc2 f9 f23 f37 (by omega) (by simp only [List.length_cons, List.length_nil]; omega) | exact fz_tc1 f9 f23 (by omega) | exact fz_tc0 f9 | exact f23 | (exfalso; omega))⟩)

abbrev qX11_tells_5_2 (h : fz_H) (b x : Int) : fz_H → Option fz_V → Prop := fun h' r0 => fz_Iv h' ∧ fz_fr [(53, 46), (82, 99999)] h h' ∧ ∃ r : Int, r0 = some (fz_i r) ∧ (h' 53 46 = h 53 46 + 7) ∧ (r = fz_w (fz_w (-(fz_w (fz_w (((fz_w (x + 1))) + b) * 2))) - fz_w (fz_xor 1 b * 3))) ∧ (h' 53 46 = h 53 46 + ([2, 41, 30, 10, 1, 40, 11] : List Int).length) ∧ (h' 82 = fz_tr (h 82) (h 53 46) [2, 41, 30, 10, 1, 40, 11])
set_option maxHeartbeats 1000000 in
set_option maxRecDepth 100000 in
theorem sX11_tells_5_2 (h : fz_H) (hI : fz_Iv h) (b x : Int) (hp0 : 0 ≤ b ∧ b ≤ 49) (hp1 : h 53 46 ≤ 893) (hp2 : h 81 b.toNat = 5) : fz_R 10 mX11_tells 0 [(0, fz_r 53), (1, fz_i b), (2, fz_i 2), (3, fz_i x)] [] h (qX11_tells_5_2 h b x) := by
  refine fz_knowl (fun hk => ?_)
  have hr_b : -2147483648 ≤ b ∧ b < 2147483648 := hk _ (List.Mem.tail _ (List.Mem.head _))
  have hr_x : -2147483648 ≤ x ∧ x < 2147483648 := hk _ (List.Mem.tail _ (List.Mem.tail _ (List.Mem.tail _ (List.Mem.head _))))
  clear hk
  have hf : fz_fr [(53, 46), (82, 99999)] h h := fz_fr_rf
  have b1 : 0 ≤ h 53 46 ∧ h 53 46 ≤ 1000 := hI.1 53 _
  refine fz_iload_n kX11_tells rfl rfl ?_
  refine fz_lsw (tgt := 103) kX11_tells rfl (by decide) (show Op.lookupswitch.offset [(0, 35), (5, 70), (7, 86)] 102 2 = 102 from rfl) (by decide) ?_
  refine fz_aload_n kX11_tells rfl rfl ?_
  refine fz_iload_n kX11_tells rfl rfl ?_
  refine fz_iload_n kX11_tells rfl rfl ?_
  refine fz_callS (d' := 0) (M' := mX11_above) (As := [fz_i 2]) (st := [fz_i b, fz_r 53]) kX11_tells rfl rfl vX11_above rfl rfl (Nat.le_of_ble_eq_true rfl) (Nat.le_of_ble_eq_true rfl) (by decide) (sX11_above_2 h hI  ) (fun H2 r3 q4 o5 => ?_)
  obtain ⟨e6, y8, rfl, f7⟩ := q4
  subst H2
  clear o5
  refine fz_eqi (show y8 = 0 by omega) ?_
  refine fz_iload_n kX11_tells rfl rfl ?_
  refine fz_callV (d' := 9) (M' := mX11_tells) (As := [fz_i b, fz_i 0, fz_i x]) (st := []) kX11_tells rfl rfl vX11_tells rfl rfl rfl rfl (Nat.le_of_ble_eq_true rfl) (Nat.le_of_ble_eq_true rfl) (by decide) (sX11_tells_5_0 h hI b x (by omega) (by omega) (by omega)) (fun H9 r10 q11 o12 => ?_)
  obtain ⟨hI13, hf14, y19, rfl, f15, f16, f17, f18⟩ := q11
  clear o12
  have hf20 := fz_fr_tr hf hf14 (show fz_su [(53, 46), (82, 99999)] [(53, 46), (82, 99999)] = true from rfl)
  exact fz_iret kX11_tells rfl rfl (fun _ => ⟨hI13, hf20, _, rfl, (by omega), (by first | rfl | (rw [f16, lost]) | (rw [f16]) | (exfalso; omega)), (by simp only [List.length_cons, List.length_nil]; omega), (by first | exact fz_tc2 lost f18 lost (by omega) (by simp only [List.length_cons, List.length_nil]; omega) | exact fz_tc1 lost f18 (by omega) | exact fz_tc0 lost | exact f18 | (exfalso; omega))⟩)

abbrev qX11_tells_5_3 (h : fz_H) (b x : Int) : fz_H → Option fz_V → Prop := fun h' r0 => fz_Iv h' ∧ fz_fr [(53, 46), (82, 99999)] h h' ∧ ∃ r : Int, r0 = some (fz_i r) ∧ (h' 53 46 = h 53 46 + 7) ∧ (r = fz_w (fz_w (-(fz_w (fz_w (((fz_w (x + 1))) + b) * 2))) - fz_w (fz_xor 1 b * 3))) ∧ (h' 53 46 = h 53 46 + ([2, 41, 30, 10, 1, 40, 11] : List Int).length) ∧ (h' 82 = fz_tr (h 82) (h 53 46) [2, 41, 30, 10, 1, 40, 11])
set_option maxHeartbeats 1000000 in
set_option maxRecDepth 100000 in
theorem sX11_tells_5_3 (h : fz_H) (hI : fz_Iv h) (b x : Int) (hp0 : 0 ≤ b ∧ b ≤ 49) (hp1 : h 53 46 ≤ 893) (hp2 : h 81 b.toNat = 5) : fz_R 11 mX11_tells 0 [(0, fz_r 53), (1, fz_i b), (2, fz_i 3), (3, fz_i x)] [] h (qX11_tells_5_3 h b x) := by
  refine fz_knowl (fun hk => ?_)
  have hr_b : -2147483648 ≤ b ∧ b < 2147483648 := hk _ (List.Mem.tail _ (List.Mem.head _))
  have hr_x : -2147483648 ≤ x ∧ x < 2147483648 := hk _ (List.Mem.tail _ (List.Mem.tail _ (List.Mem.tail _ (List.Mem.head _))))
  clear hk
  have hf : fz_fr [(53, 46), (82, 99999)] h h := fz_fr_rf
  have b1 : 0 ≤ h 53 46 ∧ h 53 46 ≤ 1000 := hI.1 53 _
  refine fz_iload_n kX11_tells rfl rfl ?_
  refine fz_lsw (tgt := 103) kX11_tells rfl (by decide) (show Op.lookupswitch.offset [(0, 35), (5, 70), (7, 86)] 102 3 = 102 from rfl) (by decide) ?_
  refine fz_aload_n kX11_tells rfl rfl ?_
  refine fz_iload_n kX11_tells rfl rfl ?_
  refine fz_iload_n kX11_tells rfl rfl ?_
  refine fz_callS (d' := 0) (M' := mX11_above) (As := [fz_i 3]) (st := [fz_i b, fz_r 53]) kX11_tells rfl rfl vX11_above rfl rfl (Nat.le_of_ble_eq_true rfl) (Nat.le_of_ble_eq_true rfl) (by decide) (sX11_above_3 h hI  ) (fun H2 r3 q4 o5 => ?_)
  obtain ⟨e6, y8, rfl, f7⟩ := q4
  subst H2
  clear o5
  refine fz_eqi (show y8 = 2 by omega) ?_
  refine fz_iload_n kX11_tells rfl rfl ?_
  refine fz_callV (d' := 10) (M' := mX11_tells) (As := [fz_i b, fz_i 2, fz_i x]) (st := []) kX11_tells rfl rfl vX11_tells rfl rfl rfl rfl (Nat.le_of_ble_eq_true rfl) (Nat.le_of_ble_eq_true rfl) (by decide) (sX11_tells_5_2 h hI b x (by omega) (by omega) (by omega)) (fun H9 r10 q11 o12 => ?_)
  obtain ⟨hI13, hf14, y19, rfl, f15, f16, f17, f18⟩ := q11
  clear o12
  have hf20 := fz_fr_tr hf hf14 (show fz_su [(53, 46), (82, 99999)] [(53, 46), (82, 99999)] = true from rfl)
  exact fz_iret kX11_tells rfl rfl (fun _ => ⟨hI13, hf20, _, rfl, (by omega), (by first | rfl | (rw [f16, lost]) | (rw [f16]) | (exfalso; omega)), (by simp only [List.length_cons, List.length_nil]; omega), (by first | exact fz_tc2 lost f18 lost (by omega) (by simp only [List.length_cons, List.length_nil]; omega) | exact fz_tc1 lost f18 (by omega) | exact fz_tc0 lost | exact f18 | (exfalso; omega))⟩)

abbrev qX11_tells_5_5 (h : fz_H) (b x : Int) : fz_H → Option fz_V → Prop := fun h' r0 => fz_Iv h' ∧ fz_fr [(53, 46), (82, 99999)] h h' ∧ ∃ r : Int, r0 = some (fz_i r) ∧ (h' 53 46 = h 53 46 + 8) ∧ (r = fz_xor (fz_w (fz_w (-(fz_w (fz_w (((fz_w (x + 1))) + b) * 2))) - fz_w (fz_xor 1 b * 3))) 5) ∧ (h' 53 46 = h 53 46 + ([60, 2, 41, 30, 10, 1, 40, 11] : List Int).length) ∧ (h' 82 = fz_tr (h 82) (h 53 46) [60, 2, 41, 30, 10, 1, 40, 11])
set_option maxHeartbeats 1000000 in
set_option maxRecDepth 100000 in
theorem sX11_tells_5_5 (h : fz_H) (hI : fz_Iv h) (b x : Int) (hp0 : 0 ≤ b ∧ b ≤ 49) (hp1 : h 53 46 ≤ 892) (hp2 : h 81 b.toNat = 5) : fz_R 12 mX11_tells 0 [(0, fz_r 53), (1, fz_i b), (2, fz_i 5), (3, fz_i x)] [] h (qX11_tells_5_5 h b x) := by
  refine fz_knowl (fun hk => ?_)
  have hr_b : -2147483648 ≤ b ∧ b < 2147483648 := hk _ (List.Mem.tail _ (List.Mem.head _))
  have hr_x : -2147483648 ≤ x ∧ x < 2147483648 := hk _ (List.Mem.tail _ (List.Mem.tail _ (List.Mem.tail _ (List.Mem.head _))))
  clear hk
  have hf : fz_fr [(53, 46), (82, 99999)] h h := fz_fr_rf
  have b1 : 0 ≤ h 53 46 ∧ h 53 46 ≤ 1000 := hI.1 53 _
  refine fz_iload_n kX11_tells rfl rfl ?_
  refine fz_lsw (tgt := 71) kX11_tells rfl (by decide) (show Op.lookupswitch.offset [(0, 35), (5, 70), (7, 86)] 102 5 = 70 from rfl) (by decide) ?_
  refine fz_aload_n kX11_tells rfl rfl ?_
  refine fz_bipush ⟨by decide, by decide⟩ kX11_tells rfl ?_
  refine fz_callV (d' := 0) (M' := mX11_ran) (As := [fz_i 60]) (st := []) kX11_tells rfl rfl vX11_ran rfl rfl rfl rfl (Nat.le_of_ble_eq_true rfl) (Nat.le_of_ble_eq_true rfl) (by decide) (sX11_ran h hI 60 (by omega)) (fun H2 r3 q4 o5 => ?_)
  obtain ⟨hI6, hf7, rfl, f8, f9⟩ := q4
  clear o5
  have hf10 := fz_fr_tr hf hf7 (show fz_su [(53, 46), (82, 99999)] [(53, 46), (82, 99999)] = true from rfl)
  refine fz_aload_n kX11_tells rfl rfl ?_
  refine fz_iload_n kX11_tells rfl rfl ?_
  refine fz_iconst ⟨by decide, by decide⟩ kX11_tells rfl ?_
  refine fz_iload_n kX11_tells rfl rfl ?_
  have b11 : 0 ≤ H2 53 46 ∧ H2 53 46 ≤ 1000 := hI6.1 53 _
  have e12 : H2 81 b.toNat = h 81 b.toNat := hf10 81 _ rfl
  refine fz_callV (d' := 11) (M' := mX11_tells) (As := [fz_i b, fz_i 3, fz_i x]) (st := []) kX11_tells rfl rfl vX11_tells rfl rfl rfl rfl (Nat.le_of_ble_eq_true rfl) (Nat.le_of_ble_eq_true rfl) (by decide) (sX11_tells_5_3 H2 hI6 b x (by omega) (by omega) (by omega)) (fun H13 r14 q15 o16 => ?_)
  obtain ⟨hI17, hf18, y23, rfl, f19, f20, f21, f22⟩ := q15
  clear o16
  have hf24 := fz_fr_tr hf10 hf18 (show fz_su [(53, 46), (82, 99999)] [(53, 46), (82, 99999)] = true from rfl)
  refine fz_iconst ⟨by decide, by decide⟩ kX11_tells rfl ?_
  refine fz_ixor kX11_tells rfl ?_
  have b25 : -2147483648 ≤ (fz_xor y23 5) ∧ (fz_xor y23 5) < 2147483648 := fz_b32 _
  exact fz_iret kX11_tells rfl rfl (fun _ => ⟨hI17, hf24, _, rfl, (by omega), (by first | rfl | (rw [f20, lost]) | (rw [f20]) | (exfalso; omega)), (by simp only [List.length_cons, List.length_nil]; omega), (by first | exact fz_tc2 f9 f22 lost (by omega) (by simp only [List.length_cons, List.length_nil]; omega) | exact fz_tc1 f9 f22 (by omega) | exact fz_tc0 f9 | exact f22 | (exfalso; omega))⟩)

abbrev qX11_goes_6_0 (h : fz_H) (b x : Int) : fz_H → Option fz_V → Prop := fun h' r0 => fz_Iv h' ∧ fz_fr [(53, 46), (82, 99999)] h h' ∧ ∃ r : Int, r0 = some (fz_i r) ∧ (h' 53 46 = h 53 46 + 1) ∧ (r = fz_w (x + b)) ∧ (h' 53 46 = h 53 46 + ([1] : List Int).length) ∧ (h' 82 = fz_tr (h 82) (h 53 46) [1])
set_option maxHeartbeats 1000000 in
set_option maxRecDepth 100000 in
theorem sX11_goes_6_0 (h : fz_H) (hI : fz_Iv h) (b x : Int) (hp0 : 0 ≤ b ∧ b ≤ 49) (hp1 : h 53 46 ≤ 899) (hp2 : h 81 b.toNat = 6) : fz_R 1 mX11_goes 0 [(0, fz_r 53), (1, fz_i b), (2, fz_i 0), (3, fz_i x)] [] h (qX11_goes_6_0 h b x) := by
  refine fz_knowl (fun hk => ?_)
  have hr_b : -2147483648 ≤ b ∧ b < 2147483648 := hk _ (List.Mem.tail _ (List.Mem.head _))
  have hr_x : -2147483648 ≤ x ∧ x < 2147483648 := hk _ (List.Mem.tail _ (List.Mem.tail _ (List.Mem.tail _ (List.Mem.head _))))
  clear hk
  have hf : fz_fr [(53, 46), (82, 99999)] h h := fz_fr_rf
  have b1 : 0 ≤ h 53 46 ∧ h 53 46 ≤ 1000 := hI.1 53 _
  refine fz_iload_n kX11_goes rfl rfl ?_
  refine fz_lsw (tgt := 36) kX11_goes rfl (by decide) (show Op.lookupswitch.offset [(0, 35), (1, 44), (6, 60)] 76 0 = 35 from rfl) (by decide) ?_
  refine fz_aload_n kX11_goes rfl rfl ?_
  refine fz_iconst ⟨by decide, by decide⟩ kX11_goes rfl ?_
  refine fz_callV (d' := 0) (M' := mX11_ran) (As := [fz_i 1]) (st := []) kX11_goes rfl rfl vX11_ran rfl rfl rfl rfl (Nat.le_of_ble_eq_true rfl) (Nat.le_of_ble_eq_true rfl) (by decide) (sX11_ran h hI 1 (by omega)) (fun H2 r3 q4 o5 => ?_)
  obtain ⟨hI6, hf7, rfl, f8, f9⟩ := q4
  clear o5
  have hf10 := fz_fr_tr hf hf7 (show fz_su [(53, 46), (82, 99999)] [(53, 46), (82, 99999)] = true from rfl)
  refine fz_iload_n kX11_goes rfl rfl ?_
  refine fz_iload_n kX11_goes rfl rfl ?_
  refine fz_iadd kX11_goes rfl ?_
  have b11 := fz_w_b (x + b)
  exact fz_iret kX11_goes rfl rfl (fun _ => ⟨hI6, hf10, _, rfl, (by omega), (by first | rfl | (rw [lost, lost]) | (rw [lost]) | (exfalso; omega)), (by simp only [List.length_cons, List.length_nil]; omega), (by first | exact fz_tc2 f9 lost lost (by omega) (by simp only [List.length_cons, List.length_nil]; omega) | exact fz_tc1 f9 lost (by omega) | exact fz_tc0 f9 | exact lost | (exfalso; omega))⟩)

abbrev qX11_goes_6_6 (h : fz_H) (b x : Int) : fz_H → Option fz_V → Prop := fun h' r0 => fz_Iv h' ∧ fz_fr [(53, 46), (82, 99999)] h h' ∧ ∃ r : Int, r0 = some (fz_i r) ∧ (h' 53 46 = h 53 46 + 2) ∧ (r = fz_w (fz_w (x + b) * 2)) ∧ (h' 53 46 = h 53 46 + ([70, 1] : List Int).length) ∧ (h' 82 = fz_tr (h 82) (h 53 46) [70, 1])
set_option maxHeartbeats 1000000 in
set_option maxRecDepth 100000 in
theorem sX11_goes_6_6 (h : fz_H) (hI : fz_Iv h) (b x : Int) (hp0 : 0 ≤ b ∧ b ≤ 49) (hp1 : h 53 46 ≤ 898) (hp2 : h 81 b.toNat = 6) : fz_R 2 mX11_goes 0 [(0, fz_r 53), (1, fz_i b), (2, fz_i 6), (3, fz_i x)] [] h (qX11_goes_6_6 h b x) := by
  refine fz_knowl (fun hk => ?_)
  have hr_b : -2147483648 ≤ b ∧ b < 2147483648 := hk _ (List.Mem.tail _ (List.Mem.head _))
  have hr_x : -2147483648 ≤ x ∧ x < 2147483648 := hk _ (List.Mem.tail _ (List.Mem.tail _ (List.Mem.tail _ (List.Mem.head _))))
  clear hk
  have hf : fz_fr [(53, 46), (82, 99999)] h h := fz_fr_rf
  have b1 : 0 ≤ h 53 46 ∧ h 53 46 ≤ 1000 := hI.1 53 _
  refine fz_iload_n kX11_goes rfl rfl ?_
  refine fz_lsw (tgt := 61) kX11_goes rfl (by decide) (show Op.lookupswitch.offset [(0, 35), (1, 44), (6, 60)] 76 6 = 60 from rfl) (by decide) ?_
  refine fz_aload_n kX11_goes rfl rfl ?_
  refine fz_bipush ⟨by decide, by decide⟩ kX11_goes rfl ?_
  refine fz_callV (d' := 0) (M' := mX11_ran) (As := [fz_i 70]) (st := []) kX11_goes rfl rfl vX11_ran rfl rfl rfl rfl (Nat.le_of_ble_eq_true rfl) (Nat.le_of_ble_eq_true rfl) (by decide) (sX11_ran h hI 70 (by omega)) (fun H2 r3 q4 o5 => ?_)
  obtain ⟨hI6, hf7, rfl, f8, f9⟩ := q4
  clear o5
  have hf10 := fz_fr_tr hf hf7 (show fz_su [(53, 46), (82, 99999)] [(53, 46), (82, 99999)] = true from rfl)
  refine fz_aload_n kX11_goes rfl rfl ?_
  refine fz_iload_n kX11_goes rfl rfl ?_
  refine fz_iconst ⟨by decide, by decide⟩ kX11_goes rfl ?_
  refine fz_iload_n kX11_goes rfl rfl ?_
  have b11 : 0 ≤ H2 53 46 ∧ H2 53 46 ≤ 1000 := hI6.1 53 _
  have e12 : H2 81 b.toNat = h 81 b.toNat := hf10 81 _ rfl
  refine fz_callV (d' := 1) (M' := mX11_goes) (As := [fz_i b, fz_i 0, fz_i x]) (st := []) kX11_goes rfl rfl vX11_goes rfl rfl rfl rfl (Nat.le_of_ble_eq_true rfl) (Nat.le_of_ble_eq_true rfl) (by decide) (sX11_goes_6_0 H2 hI6 b x (by omega) (by omega) (by omega)) (fun H13 r14 q15 o16 => ?_)
  obtain ⟨hI17, hf18, y23, rfl, f19, f20, f21, f22⟩ := q15
  clear o16
  have hf24 := fz_fr_tr hf10 hf18 (show fz_su [(53, 46), (82, 99999)] [(53, 46), (82, 99999)] = true from rfl)
  refine fz_iconst ⟨by decide, by decide⟩ kX11_goes rfl ?_
  refine fz_imul kX11_goes rfl ?_
  have b25 := fz_w_b (y23 * 2)
  exact fz_iret kX11_goes rfl rfl (fun _ => ⟨hI17, hf24, _, rfl, (by omega), (by first | rfl | (rw [f20, lost]) | (rw [f20]) | (exfalso; omega)), (by simp only [List.length_cons, List.length_nil]; omega), (by first | exact fz_tc2 f9 f22 lost (by omega) (by simp only [List.length_cons, List.length_nil]; omega) | exact fz_tc1 f9 f22 (by omega) | exact fz_tc0 f9 | exact f22 | (exfalso; omega))⟩)

abbrev qX11_says_6_0 (h : fz_H) (b x : Int) : fz_H → Option fz_V → Prop := fun h' r0 => fz_Iv h' ∧ fz_fr [(53, 46), (82, 99999)] h h' ∧ ∃ r : Int, r0 = some (fz_i r) ∧ (h' 53 46 = h 53 46 + 3) ∧ (r = fz_w (fz_w (fz_w (x + b) * 2) * 2)) ∧ (h' 53 46 = h 53 46 + ([10, 70, 1] : List Int).length) ∧ (h' 82 = fz_tr (h 82) (h 53 46) [10, 70, 1])
set_option maxHeartbeats 1000000 in
set_option maxRecDepth 100000 in
theorem sX11_says_6_0 (h : fz_H) (hI : fz_Iv h) (b x : Int) (hp0 : 0 ≤ b ∧ b ≤ 49) (hp1 : h 53 46 ≤ 897) (hp2 : h 81 b.toNat = 6) : fz_R 3 mX11_says 0 [(0, fz_r 53), (1, fz_i b), (2, fz_i 0), (3, fz_i x)] [] h (qX11_says_6_0 h b x) := by
  refine fz_knowl (fun hk => ?_)
  have hr_b : -2147483648 ≤ b ∧ b < 2147483648 := hk _ (List.Mem.tail _ (List.Mem.head _))
  have hr_x : -2147483648 ≤ x ∧ x < 2147483648 := hk _ (List.Mem.tail _ (List.Mem.tail _ (List.Mem.tail _ (List.Mem.head _))))
  clear hk
  have hf : fz_fr [(53, 46), (82, 99999)] h h := fz_fr_rf
  have b1 : 0 ≤ h 53 46 ∧ h 53 46 ≤ 1000 := hI.1 53 _
  refine fz_iload_n kX11_says rfl rfl ?_
  refine fz_tswC (j := 0) (tgt := 48) kX11_says rfl rfl (by decide) (by decide) rfl (by decide) ?_
  refine fz_aload_n kX11_says rfl rfl ?_
  refine fz_bipush ⟨by decide, by decide⟩ kX11_says rfl ?_
  refine fz_callV (d' := 0) (M' := mX11_ran) (As := [fz_i 10]) (st := []) kX11_says rfl rfl vX11_ran rfl rfl rfl rfl (Nat.le_of_ble_eq_true rfl) (Nat.le_of_ble_eq_true rfl) (by decide) (sX11_ran h hI 10 (by omega)) (fun H2 r3 q4 o5 => ?_)
  obtain ⟨hI6, hf7, rfl, f8, f9⟩ := q4
  clear o5
  have hf10 := fz_fr_tr hf hf7 (show fz_su [(53, 46), (82, 99999)] [(53, 46), (82, 99999)] = true from rfl)
  refine fz_aload_n kX11_says rfl rfl ?_
  refine fz_iload_n kX11_says rfl rfl ?_
  refine fz_aload_n kX11_says rfl rfl ?_
  refine fz_getR (t := 81) kX11_says rfl rfl ?_
  refine fz_iload_n kX11_says rfl rfl ?_
  refine fz_ialdV (n := 50) (v := h 81 (b.toNat)) kX11_says rfl rfl (by omega) (by omega) (hf10 81 _ rfl) ?_
  have b11 : 0 ≤ h 81 (b.toNat) ∧ h 81 (b.toNat) ≤ 7 := hI.1 81 _
  refine fz_eqi (show (h 81 (b.toNat)) = 6 by omega) ?_
  refine fz_iload_n kX11_says rfl rfl ?_
  have b12 : 0 ≤ H2 53 46 ∧ H2 53 46 ≤ 1000 := hI6.1 53 _
  have e13 : H2 81 b.toNat = h 81 b.toNat := hf10 81 _ rfl
  refine fz_callV (d' := 2) (M' := mX11_goes) (As := [fz_i b, fz_i 6, fz_i x]) (st := []) kX11_says rfl rfl vX11_goes rfl rfl rfl rfl (Nat.le_of_ble_eq_true rfl) (Nat.le_of_ble_eq_true rfl) (by decide) (sX11_goes_6_6 H2 hI6 b x (by omega) (by omega) (by omega)) (fun H14 r15 q16 o17 => ?_)
  obtain ⟨hI18, hf19, y24, rfl, f20, f21, f22, f23⟩ := q16
  clear o17
  have hf25 := fz_fr_tr hf10 hf19 (show fz_su [(53, 46), (82, 99999)] [(53, 46), (82, 99999)] = true from rfl)
  refine fz_iconst ⟨by decide, by decide⟩ kX11_says rfl ?_
  refine fz_imul kX11_says rfl ?_
  have b26 := fz_w_b (y24 * 2)
  exact fz_iret kX11_says rfl rfl (fun _ => ⟨hI18, hf25, _, rfl, (by omega), (by first | rfl | (rw [f21, lost]) | (rw [f21]) | (exfalso; omega)), (by simp only [List.length_cons, List.length_nil]; omega), (by first | exact fz_tc2 f9 f23 lost (by omega) (by simp only [List.length_cons, List.length_nil]; omega) | exact fz_tc1 f9 f23 (by omega) | exact fz_tc0 f9 | exact f23 | (exfalso; omega))⟩)

abbrev qX11_says_6_6 (h : fz_H) (b x : Int) : fz_H → Option fz_V → Prop := fun h' r0 => fz_Iv h' ∧ fz_fr [(53, 46), (82, 99999)] h h' ∧ ∃ r : Int, r0 = some (fz_i r) ∧ (h' 53 46 = h 53 46 + 3) ∧ (r = fz_w (fz_w (fz_w (x + b) * 2) * 2)) ∧ (h' 53 46 = h 53 46 + ([10, 70, 1] : List Int).length) ∧ (h' 82 = fz_tr (h 82) (h 53 46) [10, 70, 1])
set_option maxHeartbeats 1000000 in
set_option maxRecDepth 100000 in
theorem sX11_says_6_6 (h : fz_H) (hI : fz_Iv h) (b x : Int) (hp0 : 0 ≤ b ∧ b ≤ 49) (hp1 : h 53 46 ≤ 897) (hp2 : h 81 b.toNat = 6) : fz_R 4 mX11_says 0 [(0, fz_r 53), (1, fz_i b), (2, fz_i 6), (3, fz_i x)] [] h (qX11_says_6_6 h b x) := by
  refine fz_knowl (fun hk => ?_)
  have hr_b : -2147483648 ≤ b ∧ b < 2147483648 := hk _ (List.Mem.tail _ (List.Mem.head _))
  have hr_x : -2147483648 ≤ x ∧ x < 2147483648 := hk _ (List.Mem.tail _ (List.Mem.tail _ (List.Mem.tail _ (List.Mem.head _))))
  clear hk
  have hf : fz_fr [(53, 46), (82, 99999)] h h := fz_fr_rf
  have b1 : 0 ≤ h 53 46 ∧ h 53 46 ≤ 1000 := hI.1 53 _
  refine fz_iload_n kX11_says rfl rfl ?_
  refine fz_tswC (j := 6) (tgt := 131) kX11_says rfl rfl (by decide) (by decide) rfl (by decide) ?_
  refine fz_aload_n kX11_says rfl rfl ?_
  refine fz_iload_n kX11_says rfl rfl ?_
  refine fz_iload_n kX11_says rfl rfl ?_
  refine fz_callS (d' := 0) (M' := mX11_above) (As := [fz_i 6]) (st := [fz_i b, fz_r 53]) kX11_says rfl rfl vX11_above rfl rfl (Nat.le_of_ble_eq_true rfl) (Nat.le_of_ble_eq_true rfl) (by decide) (sX11_above_6 h hI  ) (fun H2 r3 q4 o5 => ?_)
  obtain ⟨e6, y8, rfl, f7⟩ := q4
  subst H2
  clear o5
  refine fz_eqi (show y8 = 0 by omega) ?_
  refine fz_iload_n kX11_says rfl rfl ?_
  refine fz_callV (d' := 3) (M' := mX11_says) (As := [fz_i b, fz_i 0, fz_i x]) (st := []) kX11_says rfl rfl vX11_says rfl rfl rfl rfl (Nat.le_of_ble_eq_true rfl) (Nat.le_of_ble_eq_true rfl) (by decide) (sX11_says_6_0 h hI b x (by omega) (by omega) (by omega)) (fun H9 r10 q11 o12 => ?_)
  obtain ⟨hI13, hf14, y19, rfl, f15, f16, f17, f18⟩ := q11
  clear o12
  have hf20 := fz_fr_tr hf hf14 (show fz_su [(53, 46), (82, 99999)] [(53, 46), (82, 99999)] = true from rfl)
  exact fz_iret kX11_says rfl rfl (fun _ => ⟨hI13, hf20, _, rfl, (by omega), (by first | rfl | (rw [f16, lost]) | (rw [f16]) | (exfalso; omega)), (by simp only [List.length_cons, List.length_nil]; omega), (by first | exact fz_tc2 lost f18 lost (by omega) (by simp only [List.length_cons, List.length_nil]; omega) | exact fz_tc1 lost f18 (by omega) | exact fz_tc0 lost | exact f18 | (exfalso; omega))⟩)

abbrev qX11_fades_6_0 (h : fz_H) (b x : Int) : fz_H → Option fz_V → Prop := fun h' r0 => fz_Iv h' ∧ fz_fr [(53, 46), (82, 99999)] h h' ∧ ∃ r : Int, r0 = some (fz_i r) ∧ (h' 53 46 = h 53 46 + 1) ∧ (r = fz_xor x b) ∧ (h' 53 46 = h 53 46 + ([11] : List Int).length) ∧ (h' 82 = fz_tr (h 82) (h 53 46) [11])
set_option maxHeartbeats 1000000 in
set_option maxRecDepth 100000 in
theorem sX11_fades_6_0 (h : fz_H) (hI : fz_Iv h) (b x : Int) (hp0 : 0 ≤ b ∧ b ≤ 49) (hp1 : h 53 46 ≤ 899) (hp2 : h 81 b.toNat = 6) : fz_R 1 mX11_fades 0 [(0, fz_r 53), (1, fz_i b), (2, fz_i 0), (3, fz_i x)] [] h (qX11_fades_6_0 h b x) := by
  refine fz_knowl (fun hk => ?_)
  have hr_b : -2147483648 ≤ b ∧ b < 2147483648 := hk _ (List.Mem.tail _ (List.Mem.head _))
  have hr_x : -2147483648 ≤ x ∧ x < 2147483648 := hk _ (List.Mem.tail _ (List.Mem.tail _ (List.Mem.tail _ (List.Mem.head _))))
  clear hk
  have hf : fz_fr [(53, 46), (82, 99999)] h h := fz_fr_rf
  have b1 : 0 ≤ h 53 46 ∧ h 53 46 ≤ 1000 := hI.1 53 _
  refine fz_iload_n kX11_fades rfl rfl ?_
  refine fz_tswC (j := 0) (tgt := 36) kX11_fades rfl rfl (by decide) (by decide) rfl (by decide) ?_
  refine fz_aload_n kX11_fades rfl rfl ?_
  refine fz_bipush ⟨by decide, by decide⟩ kX11_fades rfl ?_
  refine fz_callV (d' := 0) (M' := mX11_ran) (As := [fz_i 11]) (st := []) kX11_fades rfl rfl vX11_ran rfl rfl rfl rfl (Nat.le_of_ble_eq_true rfl) (Nat.le_of_ble_eq_true rfl) (by decide) (sX11_ran h hI 11 (by omega)) (fun H2 r3 q4 o5 => ?_)
  obtain ⟨hI6, hf7, rfl, f8, f9⟩ := q4
  clear o5
  have hf10 := fz_fr_tr hf hf7 (show fz_su [(53, 46), (82, 99999)] [(53, 46), (82, 99999)] = true from rfl)
  refine fz_iload_n kX11_fades rfl rfl ?_
  refine fz_iload_n kX11_fades rfl rfl ?_
  refine fz_ixor kX11_fades rfl ?_
  have b11 : -2147483648 ≤ (fz_xor x b) ∧ (fz_xor x b) < 2147483648 := fz_b32 _
  exact fz_iret kX11_fades rfl rfl (fun _ => ⟨hI6, hf10, _, rfl, (by omega), (by first | rfl | (rw [lost, lost]) | (rw [lost]) | (exfalso; omega)), (by simp only [List.length_cons, List.length_nil]; omega), (by first | exact fz_tc2 f9 lost lost (by omega) (by simp only [List.length_cons, List.length_nil]; omega) | exact fz_tc1 f9 lost (by omega) | exact fz_tc0 f9 | exact lost | (exfalso; omega))⟩)

abbrev qX11_fades_6_6 (h : fz_H) (b x : Int) : fz_H → Option fz_V → Prop := fun h' r0 => fz_Iv h' ∧ fz_fr [(53, 46), (82, 99999)] h h' ∧ ∃ r : Int, r0 = some (fz_i r) ∧ (h' 53 46 = h 53 46 + 1) ∧ (r = fz_xor x b) ∧ (h' 53 46 = h 53 46 + ([11] : List Int).length) ∧ (h' 82 = fz_tr (h 82) (h 53 46) [11])
set_option maxHeartbeats 1000000 in
set_option maxRecDepth 100000 in
theorem sX11_fades_6_6 (h : fz_H) (hI : fz_Iv h) (b x : Int) (hp0 : 0 ≤ b ∧ b ≤ 49) (hp1 : h 53 46 ≤ 899) (hp2 : h 81 b.toNat = 6) : fz_R 2 mX11_fades 0 [(0, fz_r 53), (1, fz_i b), (2, fz_i 6), (3, fz_i x)] [] h (qX11_fades_6_6 h b x) := by
  refine fz_knowl (fun hk => ?_)
  have hr_b : -2147483648 ≤ b ∧ b < 2147483648 := hk _ (List.Mem.tail _ (List.Mem.head _))
  have hr_x : -2147483648 ≤ x ∧ x < 2147483648 := hk _ (List.Mem.tail _ (List.Mem.tail _ (List.Mem.tail _ (List.Mem.head _))))
  clear hk
  have hf : fz_fr [(53, 46), (82, 99999)] h h := fz_fr_rf
  have b1 : 0 ≤ h 53 46 ∧ h 53 46 ≤ 1000 := hI.1 53 _
  refine fz_iload_n kX11_fades rfl rfl ?_
  have c2 : ((6 : Int) < 0 ∨ 4 < (6 : Int)) := by omega
  · refine fz_tswO (tgt := 93) kX11_fades rfl c2 (by decide) ?_
    refine fz_aload_n kX11_fades rfl rfl ?_
    refine fz_iload_n kX11_fades rfl rfl ?_
    refine fz_iload_n kX11_fades rfl rfl ?_
    refine fz_callS (d' := 0) (M' := mX11_above) (As := [fz_i 6]) (st := [fz_i b, fz_r 53]) kX11_fades rfl rfl vX11_above rfl rfl (Nat.le_of_ble_eq_true rfl) (Nat.le_of_ble_eq_true rfl) (by decide) (sX11_above_6 h hI  ) (fun H3 r4 q5 o6 => ?_)
    obtain ⟨e7, y9, rfl, f8⟩ := q5
    subst H3
    clear o6
    refine fz_eqi (show y9 = 0 by omega) ?_
    refine fz_iload_n kX11_fades rfl rfl ?_
    refine fz_callV (d' := 1) (M' := mX11_fades) (As := [fz_i b, fz_i 0, fz_i x]) (st := []) kX11_fades rfl rfl vX11_fades rfl rfl rfl rfl (Nat.le_of_ble_eq_true rfl) (Nat.le_of_ble_eq_true rfl) (by decide) (sX11_fades_6_0 h hI b x (by omega) (by omega) (by omega)) (fun H10 r11 q12 o13 => ?_)
    obtain ⟨hI14, hf15, y20, rfl, f16, f17, f18, f19⟩ := q12
    clear o13
    have hf21 := fz_fr_tr hf hf15 (show fz_su [(53, 46), (82, 99999)] [(53, 46), (82, 99999)] = true from rfl)
    exact fz_iret kX11_fades rfl rfl (fun _ => ⟨hI14, hf21, _, rfl, (by omega), (by first | rfl | (rw [f17, lost]) | (rw [f17]) | (exfalso; omega)), (by simp only [List.length_cons, List.length_nil]; omega), (by first | exact fz_tc2 lost f19 lost (by omega) (by simp only [List.length_cons, List.length_nil]; omega) | exact fz_tc1 lost f19 (by omega) | exact fz_tc0 lost | exact f19 | (exfalso; omega))⟩)

abbrev qX11_tells_6_0 (h : fz_H) (b x : Int) : fz_H → Option fz_V → Prop := fun h' r0 => fz_Iv h' ∧ fz_fr [(53, 46), (82, 99999)] h h' ∧ ∃ r : Int, r0 = some (fz_i r) ∧ (h' 53 46 = h 53 46 + 5) ∧ (r = fz_w (fz_w (fz_w (fz_w (x + b) * 2) * 2) - fz_xor 1 b)) ∧ (h' 53 46 = h 53 46 + ([2, 10, 70, 1, 11] : List Int).length) ∧ (h' 82 = fz_tr (h 82) (h 53 46) [2, 10, 70, 1, 11])
set_option maxHeartbeats 1000000 in
set_option maxRecDepth 100000 in
theorem sX11_tells_6_0 (h : fz_H) (hI : fz_Iv h) (b x : Int) (hp0 : 0 ≤ b ∧ b ≤ 49) (hp1 : h 53 46 ≤ 895) (hp2 : h 81 b.toNat = 6) : fz_R 5 mX11_tells 0 [(0, fz_r 53), (1, fz_i b), (2, fz_i 0), (3, fz_i x)] [] h (qX11_tells_6_0 h b x) := by
  refine fz_knowl (fun hk => ?_)
  have hr_b : -2147483648 ≤ b ∧ b < 2147483648 := hk _ (List.Mem.tail _ (List.Mem.head _))
  have hr_x : -2147483648 ≤ x ∧ x < 2147483648 := hk _ (List.Mem.tail _ (List.Mem.tail _ (List.Mem.tail _ (List.Mem.head _))))
  clear hk
  have hf : fz_fr [(53, 46), (82, 99999)] h h := fz_fr_rf
  have b1 : 0 ≤ h 53 46 ∧ h 53 46 ≤ 1000 := hI.1 53 _
  refine fz_iload_n kX11_tells rfl rfl ?_
  refine fz_lsw (tgt := 36) kX11_tells rfl (by decide) (show Op.lookupswitch.offset [(0, 35), (5, 70), (7, 86)] 102 0 = 35 from rfl) (by decide) ?_
  refine fz_aload_n kX11_tells rfl rfl ?_
  refine fz_iconst ⟨by decide, by decide⟩ kX11_tells rfl ?_
  refine fz_callV (d' := 0) (M' := mX11_ran) (As := [fz_i 2]) (st := []) kX11_tells rfl rfl vX11_ran rfl rfl rfl rfl (Nat.le_of_ble_eq_true rfl) (Nat.le_of_ble_eq_true rfl) (by decide) (sX11_ran h hI 2 (by omega)) (fun H2 r3 q4 o5 => ?_)
  obtain ⟨hI6, hf7, rfl, f8, f9⟩ := q4
  clear o5
  have hf10 := fz_fr_tr hf hf7 (show fz_su [(53, 46), (82, 99999)] [(53, 46), (82, 99999)] = true from rfl)
  refine fz_aload_n kX11_tells rfl rfl ?_
  refine fz_iload_n kX11_tells rfl rfl ?_
  refine fz_aload_n kX11_tells rfl rfl ?_
  refine fz_getR (t := 81) kX11_tells rfl rfl ?_
  refine fz_iload_n kX11_tells rfl rfl ?_
  refine fz_ialdV (n := 50) (v := h 81 (b.toNat)) kX11_tells rfl rfl (by omega) (by omega) (hf10 81 _ rfl) ?_
  have b11 : 0 ≤ h 81 (b.toNat) ∧ h 81 (b.toNat) ≤ 7 := hI.1 81 _
  refine fz_eqi (show (h 81 (b.toNat)) = 6 by omega) ?_
  refine fz_iload_n kX11_tells rfl rfl ?_
  have b12 : 0 ≤ H2 53 46 ∧ H2 53 46 ≤ 1000 := hI6.1 53 _
  have e13 : H2 81 b.toNat = h 81 b.toNat := hf10 81 _ rfl
  refine fz_callV (d' := 4) (M' := mX11_says) (As := [fz_i b, fz_i 6, fz_i x]) (st := []) kX11_tells rfl rfl vX11_says rfl rfl rfl rfl (Nat.le_of_ble_eq_true rfl) (Nat.le_of_ble_eq_true rfl) (by decide) (sX11_says_6_6 H2 hI6 b x (by omega) (by omega) (by omega)) (fun H14 r15 q16 o17 => ?_)
  obtain ⟨hI18, hf19, y24, rfl, f20, f21, f22, f23⟩ := q16
  clear o17
  have hf25 := fz_fr_tr hf10 hf19 (show fz_su [(53, 46), (82, 99999)] [(53, 46), (82, 99999)] = true from rfl)
  refine fz_istore (ls' := [(4, fz_i y24), (0, fz_r 53), (1, fz_i b), (2, fz_i 0), (3, fz_i x)]) kX11_tells rfl (by decide) rfl ?_
  refine fz_iload kX11_tells rfl rfl ?_
  refine fz_aload_n kX11_tells rfl rfl ?_
  refine fz_iload_n kX11_tells rfl rfl ?_
  refine fz_aload_n kX11_tells rfl rfl ?_
  refine fz_getR (t := 81) kX11_tells rfl rfl ?_
  refine fz_iload_n kX11_tells rfl rfl ?_
  refine fz_ialdV (n := 50) (v := h 81 (b.toNat)) kX11_tells rfl rfl (by omega) (by omega) (hf25 81 _ rfl) ?_
  refine fz_eqi (show (h 81 (b.toNat)) = 6 by omega) ?_
  refine fz_iconst ⟨by decide, by decide⟩ kX11_tells rfl ?_
  have b26 : 0 ≤ H14 53 46 ∧ H14 53 46 ≤ 1000 := hI18.1 53 _
  have e27 : H14 81 b.toNat = h 81 b.toNat := hf25 81 _ rfl
  refine fz_callV (d' := 2) (M' := mX11_fades) (As := [fz_i b, fz_i 6, fz_i 1]) (st := [fz_i y24]) kX11_tells rfl rfl vX11_fades rfl rfl rfl rfl (Nat.le_of_ble_eq_true rfl) (Nat.le_of_ble_eq_true rfl) (by decide) (sX11_fades_6_6 H14 hI18 b 1 (by omega) (by omega) (by omega)) (fun H28 r29 q30 o31 => ?_)
  obtain ⟨hI32, hf33, y38, rfl, f34, f35, f36, f37⟩ := q30
  clear o31
  have hf39 := fz_fr_tr hf25 hf33 (show fz_su [(53, 46), (82, 99999)] [(53, 46), (82, 99999)] = true from rfl)
  refine fz_isub kX11_tells rfl ?_
  have b40 := fz_w_b (y24 - y38)
  exact fz_iret kX11_tells rfl rfl (fun _ => ⟨hI32, hf39, _, rfl, (by omega), (by first | rfl | (rw [f21, f35]) | (rw [f21]) | (exfalso; omega)), (by simp only [List.length_cons, List.length_nil]; omega), (by first | exact fz_tc2 f9 f23 f37 (by omega) (by simp only [List.length_cons, List.length_nil]; omega) | exact fz_tc1 f9 f23 (by omega) | exact fz_tc0 f9 | exact f23 | (exfalso; omega))⟩)

abbrev qX11_tells_6_6 (h : fz_H) (b x : Int) : fz_H → Option fz_V → Prop := fun h' r0 => fz_Iv h' ∧ fz_fr [(53, 46), (82, 99999)] h h' ∧ ∃ r : Int, r0 = some (fz_i r) ∧ (h' 53 46 = h 53 46 + 5) ∧ (r = fz_w (fz_w (fz_w (fz_w (x + b) * 2) * 2) - fz_xor 1 b)) ∧ (h' 53 46 = h 53 46 + ([2, 10, 70, 1, 11] : List Int).length) ∧ (h' 82 = fz_tr (h 82) (h 53 46) [2, 10, 70, 1, 11])
set_option maxHeartbeats 1000000 in
set_option maxRecDepth 100000 in
theorem sX11_tells_6_6 (h : fz_H) (hI : fz_Iv h) (b x : Int) (hp0 : 0 ≤ b ∧ b ≤ 49) (hp1 : h 53 46 ≤ 895) (hp2 : h 81 b.toNat = 6) : fz_R 6 mX11_tells 0 [(0, fz_r 53), (1, fz_i b), (2, fz_i 6), (3, fz_i x)] [] h (qX11_tells_6_6 h b x) := by
  refine fz_knowl (fun hk => ?_)
  have hr_b : -2147483648 ≤ b ∧ b < 2147483648 := hk _ (List.Mem.tail _ (List.Mem.head _))
  have hr_x : -2147483648 ≤ x ∧ x < 2147483648 := hk _ (List.Mem.tail _ (List.Mem.tail _ (List.Mem.tail _ (List.Mem.head _))))
  clear hk
  have hf : fz_fr [(53, 46), (82, 99999)] h h := fz_fr_rf
  have b1 : 0 ≤ h 53 46 ∧ h 53 46 ≤ 1000 := hI.1 53 _
  refine fz_iload_n kX11_tells rfl rfl ?_
  refine fz_lsw (tgt := 103) kX11_tells rfl (by decide) (show Op.lookupswitch.offset [(0, 35), (5, 70), (7, 86)] 102 6 = 102 from rfl) (by decide) ?_
  refine fz_aload_n kX11_tells rfl rfl ?_
  refine fz_iload_n kX11_tells rfl rfl ?_
  refine fz_iload_n kX11_tells rfl rfl ?_
  refine fz_callS (d' := 0) (M' := mX11_above) (As := [fz_i 6]) (st := [fz_i b, fz_r 53]) kX11_tells rfl rfl vX11_above rfl rfl (Nat.le_of_ble_eq_true rfl) (Nat.le_of_ble_eq_true rfl) (by decide) (sX11_above_6 h hI  ) (fun H2 r3 q4 o5 => ?_)
  obtain ⟨e6, y8, rfl, f7⟩ := q4
  subst H2
  clear o5
  refine fz_eqi (show y8 = 0 by omega) ?_
  refine fz_iload_n kX11_tells rfl rfl ?_
  refine fz_callV (d' := 5) (M' := mX11_tells) (As := [fz_i b, fz_i 0, fz_i x]) (st := []) kX11_tells rfl rfl vX11_tells rfl rfl rfl rfl (Nat.le_of_ble_eq_true rfl) (Nat.le_of_ble_eq_true rfl) (by decide) (sX11_tells_6_0 h hI b x (by omega) (by omega) (by omega)) (fun H9 r10 q11 o12 => ?_)
  obtain ⟨hI13, hf14, y19, rfl, f15, f16, f17, f18⟩ := q11
  clear o12
  have hf20 := fz_fr_tr hf hf14 (show fz_su [(53, 46), (82, 99999)] [(53, 46), (82, 99999)] = true from rfl)
  exact fz_iret kX11_tells rfl rfl (fun _ => ⟨hI13, hf20, _, rfl, (by omega), (by first | rfl | (rw [f16, lost]) | (rw [f16]) | (exfalso; omega)), (by simp only [List.length_cons, List.length_nil]; omega), (by first | exact fz_tc2 lost f18 lost (by omega) (by simp only [List.length_cons, List.length_nil]; omega) | exact fz_tc1 lost f18 (by omega) | exact fz_tc0 lost | exact f18 | (exfalso; omega))⟩)

abbrev qX11_goes_7_0 (h : fz_H) (b x : Int) : fz_H → Option fz_V → Prop := fun h' r0 => fz_Iv h' ∧ fz_fr [(53, 46), (82, 99999)] h h' ∧ ∃ r : Int, r0 = some (fz_i r) ∧ (h' 53 46 = h 53 46 + 1) ∧ (r = fz_w (x + b)) ∧ (h' 53 46 = h 53 46 + ([1] : List Int).length) ∧ (h' 82 = fz_tr (h 82) (h 53 46) [1])
set_option maxHeartbeats 1000000 in
set_option maxRecDepth 100000 in
theorem sX11_goes_7_0 (h : fz_H) (hI : fz_Iv h) (b x : Int) (hp0 : 0 ≤ b ∧ b ≤ 49) (hp1 : h 53 46 ≤ 899) (hp2 : h 81 b.toNat = 7) : fz_R 1 mX11_goes 0 [(0, fz_r 53), (1, fz_i b), (2, fz_i 0), (3, fz_i x)] [] h (qX11_goes_7_0 h b x) := by
  refine fz_knowl (fun hk => ?_)
  have hr_b : -2147483648 ≤ b ∧ b < 2147483648 := hk _ (List.Mem.tail _ (List.Mem.head _))
  have hr_x : -2147483648 ≤ x ∧ x < 2147483648 := hk _ (List.Mem.tail _ (List.Mem.tail _ (List.Mem.tail _ (List.Mem.head _))))
  clear hk
  have hf : fz_fr [(53, 46), (82, 99999)] h h := fz_fr_rf
  have b1 : 0 ≤ h 53 46 ∧ h 53 46 ≤ 1000 := hI.1 53 _
  refine fz_iload_n kX11_goes rfl rfl ?_
  refine fz_lsw (tgt := 36) kX11_goes rfl (by decide) (show Op.lookupswitch.offset [(0, 35), (1, 44), (6, 60)] 76 0 = 35 from rfl) (by decide) ?_
  refine fz_aload_n kX11_goes rfl rfl ?_
  refine fz_iconst ⟨by decide, by decide⟩ kX11_goes rfl ?_
  refine fz_callV (d' := 0) (M' := mX11_ran) (As := [fz_i 1]) (st := []) kX11_goes rfl rfl vX11_ran rfl rfl rfl rfl (Nat.le_of_ble_eq_true rfl) (Nat.le_of_ble_eq_true rfl) (by decide) (sX11_ran h hI 1 (by omega)) (fun H2 r3 q4 o5 => ?_)
  obtain ⟨hI6, hf7, rfl, f8, f9⟩ := q4
  clear o5
  have hf10 := fz_fr_tr hf hf7 (show fz_su [(53, 46), (82, 99999)] [(53, 46), (82, 99999)] = true from rfl)
  refine fz_iload_n kX11_goes rfl rfl ?_
  refine fz_iload_n kX11_goes rfl rfl ?_
  refine fz_iadd kX11_goes rfl ?_
  have b11 := fz_w_b (x + b)
  exact fz_iret kX11_goes rfl rfl (fun _ => ⟨hI6, hf10, _, rfl, (by omega), (by first | rfl | (rw [lost, lost]) | (rw [lost]) | (exfalso; omega)), (by simp only [List.length_cons, List.length_nil]; omega), (by first | exact fz_tc2 f9 lost lost (by omega) (by simp only [List.length_cons, List.length_nil]; omega) | exact fz_tc1 f9 lost (by omega) | exact fz_tc0 f9 | exact lost | (exfalso; omega))⟩)

abbrev qX11_goes_7_1 (h : fz_H) (b x : Int) : fz_H → Option fz_V → Prop := fun h' r0 => fz_Iv h' ∧ fz_fr [(53, 46), (82, 99999)] h h' ∧ ∃ r : Int, r0 = some (fz_i r) ∧ (h' 53 46 = h 53 46 + 2) ∧ (r = fz_w (fz_w (x + b) + 3)) ∧ (h' 53 46 = h 53 46 + ([20, 1] : List Int).length) ∧ (h' 82 = fz_tr (h 82) (h 53 46) [20, 1])
set_option maxHeartbeats 1000000 in
set_option maxRecDepth 100000 in
theorem sX11_goes_7_1 (h : fz_H) (hI : fz_Iv h) (b x : Int) (hp0 : 0 ≤ b ∧ b ≤ 49) (hp1 : h 53 46 ≤ 898) (hp2 : h 81 b.toNat = 7) : fz_R 2 mX11_goes 0 [(0, fz_r 53), (1, fz_i b), (2, fz_i 1), (3, fz_i x)] [] h (qX11_goes_7_1 h b x) := by
  refine fz_knowl (fun hk => ?_)
  have hr_b : -2147483648 ≤ b ∧ b < 2147483648 := hk _ (List.Mem.tail _ (List.Mem.head _))
  have hr_x : -2147483648 ≤ x ∧ x < 2147483648 := hk _ (List.Mem.tail _ (List.Mem.tail _ (List.Mem.tail _ (List.Mem.head _))))
  clear hk
  have hf : fz_fr [(53, 46), (82, 99999)] h h := fz_fr_rf
  have b1 : 0 ≤ h 53 46 ∧ h 53 46 ≤ 1000 := hI.1 53 _
  refine fz_iload_n kX11_goes rfl rfl ?_
  refine fz_lsw (tgt := 45) kX11_goes rfl (by decide) (show Op.lookupswitch.offset [(0, 35), (1, 44), (6, 60)] 76 1 = 44 from rfl) (by decide) ?_
  refine fz_aload_n kX11_goes rfl rfl ?_
  refine fz_bipush ⟨by decide, by decide⟩ kX11_goes rfl ?_
  refine fz_callV (d' := 0) (M' := mX11_ran) (As := [fz_i 20]) (st := []) kX11_goes rfl rfl vX11_ran rfl rfl rfl rfl (Nat.le_of_ble_eq_true rfl) (Nat.le_of_ble_eq_true rfl) (by decide) (sX11_ran h hI 20 (by omega)) (fun H2 r3 q4 o5 => ?_)
  obtain ⟨hI6, hf7, rfl, f8, f9⟩ := q4
  clear o5
  have hf10 := fz_fr_tr hf hf7 (show fz_su [(53, 46), (82, 99999)] [(53, 46), (82, 99999)] = true from rfl)
  refine fz_aload_n kX11_goes rfl rfl ?_
  refine fz_iload_n kX11_goes rfl rfl ?_
  refine fz_iconst ⟨by decide, by decide⟩ kX11_goes rfl ?_
  refine fz_iload_n kX11_goes rfl rfl ?_
  have b11 : 0 ≤ H2 53 46 ∧ H2 53 46 ≤ 1000 := hI6.1 53 _
  have e12 : H2 81 b.toNat = h 81 b.toNat := hf10 81 _ rfl
  refine fz_callV (d' := 1) (M' := mX11_goes) (As := [fz_i b, fz_i 0, fz_i x]) (st := []) kX11_goes rfl rfl vX11_goes rfl rfl rfl rfl (Nat.le_of_ble_eq_true rfl) (Nat.le_of_ble_eq_true rfl) (by decide) (sX11_goes_7_0 H2 hI6 b x (by omega) (by omega) (by omega)) (fun H13 r14 q15 o16 => ?_)
  obtain ⟨hI17, hf18, y23, rfl, f19, f20, f21, f22⟩ := q15
  clear o16
  have hf24 := fz_fr_tr hf10 hf18 (show fz_su [(53, 46), (82, 99999)] [(53, 46), (82, 99999)] = true from rfl)
  refine fz_iconst ⟨by decide, by decide⟩ kX11_goes rfl ?_
  refine fz_iadd kX11_goes rfl ?_
  have b25 := fz_w_b (y23 + 3)
  exact fz_iret kX11_goes rfl rfl (fun _ => ⟨hI17, hf24, _, rfl, (by omega), (by first | rfl | (rw [f20, lost]) | (rw [f20]) | (exfalso; omega)), (by simp only [List.length_cons, List.length_nil]; omega), (by first | exact fz_tc2 f9 f22 lost (by omega) (by simp only [List.length_cons, List.length_nil]; omega) | exact fz_tc1 f9 f22 (by omega) | exact fz_tc0 f9 | exact f22 | (exfalso; omega))⟩)

abbrev qX11_goes_7_4 (h : fz_H) (b x : Int) : fz_H → Option fz_V → Prop := fun h' r0 => fz_Iv h' ∧ fz_fr [(53, 46), (82, 99999)] h h' ∧ ∃ r : Int, r0 = some (fz_i r) ∧ (h' 53 46 = h 53 46 + 2) ∧ (r = fz_w (fz_w (x + b) + 3)) ∧ (h' 53 46 = h 53 46 + ([20, 1] : List Int).length) ∧ (h' 82 = fz_tr (h 82) (h 53 46) [20, 1])
set_option maxHeartbeats 1000000 in
set_option maxRecDepth 100000 in
theorem sX11_goes_7_4 (h : fz_H) (hI : fz_Iv h) (b x : Int) (hp0 : 0 ≤ b ∧ b ≤ 49) (hp1 : h 53 46 ≤ 898) (hp2 : h 81 b.toNat = 7) : fz_R 3 mX11_goes 0 [(0, fz_r 53), (1, fz_i b), (2, fz_i 4), (3, fz_i x)] [] h (qX11_goes_7_4 h b x) := by
  refine fz_knowl (fun hk => ?_)
  have hr_b : -2147483648 ≤ b ∧ b < 2147483648 := hk _ (List.Mem.tail _ (List.Mem.head _))
  have hr_x : -2147483648 ≤ x ∧ x < 2147483648 := hk _ (List.Mem.tail _ (List.Mem.tail _ (List.Mem.tail _ (List.Mem.head _))))
  clear hk
  have hf : fz_fr [(53, 46), (82, 99999)] h h := fz_fr_rf
  have b1 : 0 ≤ h 53 46 ∧ h 53 46 ≤ 1000 := hI.1 53 _
  refine fz_iload_n kX11_goes rfl rfl ?_
  refine fz_lsw (tgt := 77) kX11_goes rfl (by decide) (show Op.lookupswitch.offset [(0, 35), (1, 44), (6, 60)] 76 4 = 76 from rfl) (by decide) ?_
  refine fz_aload_n kX11_goes rfl rfl ?_
  refine fz_iload_n kX11_goes rfl rfl ?_
  refine fz_iload_n kX11_goes rfl rfl ?_
  refine fz_callS (d' := 0) (M' := mX11_above) (As := [fz_i 4]) (st := [fz_i b, fz_r 53]) kX11_goes rfl rfl vX11_above rfl rfl (Nat.le_of_ble_eq_true rfl) (Nat.le_of_ble_eq_true rfl) (by decide) (sX11_above_4 h hI  ) (fun H2 r3 q4 o5 => ?_)
  obtain ⟨e6, y8, rfl, f7⟩ := q4
  subst H2
  clear o5
  refine fz_eqi (show y8 = 1 by omega) ?_
  refine fz_iload_n kX11_goes rfl rfl ?_
  refine fz_callV (d' := 2) (M' := mX11_goes) (As := [fz_i b, fz_i 1, fz_i x]) (st := []) kX11_goes rfl rfl vX11_goes rfl rfl rfl rfl (Nat.le_of_ble_eq_true rfl) (Nat.le_of_ble_eq_true rfl) (by decide) (sX11_goes_7_1 h hI b x (by omega) (by omega) (by omega)) (fun H9 r10 q11 o12 => ?_)
  obtain ⟨hI13, hf14, y19, rfl, f15, f16, f17, f18⟩ := q11
  clear o12
  have hf20 := fz_fr_tr hf hf14 (show fz_su [(53, 46), (82, 99999)] [(53, 46), (82, 99999)] = true from rfl)
  exact fz_iret kX11_goes rfl rfl (fun _ => ⟨hI13, hf20, _, rfl, (by omega), (by first | rfl | (rw [f16, lost]) | (rw [f16]) | (exfalso; omega)), (by simp only [List.length_cons, List.length_nil]; omega), (by first | exact fz_tc2 lost f18 lost (by omega) (by simp only [List.length_cons, List.length_nil]; omega) | exact fz_tc1 lost f18 (by omega) | exact fz_tc0 lost | exact f18 | (exfalso; omega))⟩)

abbrev qX11_goes_7_7 (h : fz_H) (b x : Int) : fz_H → Option fz_V → Prop := fun h' r0 => fz_Iv h' ∧ fz_fr [(53, 46), (82, 99999)] h h' ∧ ∃ r : Int, r0 = some (fz_i r) ∧ (h' 53 46 = h 53 46 + 2) ∧ (r = fz_w (fz_w (x + b) + 3)) ∧ (h' 53 46 = h 53 46 + ([20, 1] : List Int).length) ∧ (h' 82 = fz_tr (h 82) (h 53 46) [20, 1])
set_option maxHeartbeats 1000000 in
set_option maxRecDepth 100000 in
theorem sX11_goes_7_7 (h : fz_H) (hI : fz_Iv h) (b x : Int) (hp0 : 0 ≤ b ∧ b ≤ 49) (hp1 : h 53 46 ≤ 898) (hp2 : h 81 b.toNat = 7) : fz_R 4 mX11_goes 0 [(0, fz_r 53), (1, fz_i b), (2, fz_i 7), (3, fz_i x)] [] h (qX11_goes_7_7 h b x) := by
  refine fz_knowl (fun hk => ?_)
  have hr_b : -2147483648 ≤ b ∧ b < 2147483648 := hk _ (List.Mem.tail _ (List.Mem.head _))
  have hr_x : -2147483648 ≤ x ∧ x < 2147483648 := hk _ (List.Mem.tail _ (List.Mem.tail _ (List.Mem.tail _ (List.Mem.head _))))
  clear hk
  have hf : fz_fr [(53, 46), (82, 99999)] h h := fz_fr_rf
  have b1 : 0 ≤ h 53 46 ∧ h 53 46 ≤ 1000 := hI.1 53 _
  refine fz_iload_n kX11_goes rfl rfl ?_
  refine fz_lsw (tgt := 77) kX11_goes rfl (by decide) (show Op.lookupswitch.offset [(0, 35), (1, 44), (6, 60)] 76 7 = 76 from rfl) (by decide) ?_
  refine fz_aload_n kX11_goes rfl rfl ?_
  refine fz_iload_n kX11_goes rfl rfl ?_
  refine fz_iload_n kX11_goes rfl rfl ?_
  refine fz_callS (d' := 0) (M' := mX11_above) (As := [fz_i 7]) (st := [fz_i b, fz_r 53]) kX11_goes rfl rfl vX11_above rfl rfl (Nat.le_of_ble_eq_true rfl) (Nat.le_of_ble_eq_true rfl) (by decide) (sX11_above_7 h hI  ) (fun H2 r3 q4 o5 => ?_)
  obtain ⟨e6, y8, rfl, f7⟩ := q4
  subst H2
  clear o5
  refine fz_eqi (show y8 = 4 by omega) ?_
  refine fz_iload_n kX11_goes rfl rfl ?_
  refine fz_callV (d' := 3) (M' := mX11_goes) (As := [fz_i b, fz_i 4, fz_i x]) (st := []) kX11_goes rfl rfl vX11_goes rfl rfl rfl rfl (Nat.le_of_ble_eq_true rfl) (Nat.le_of_ble_eq_true rfl) (by decide) (sX11_goes_7_4 h hI b x (by omega) (by omega) (by omega)) (fun H9 r10 q11 o12 => ?_)
  obtain ⟨hI13, hf14, y19, rfl, f15, f16, f17, f18⟩ := q11
  clear o12
  have hf20 := fz_fr_tr hf hf14 (show fz_su [(53, 46), (82, 99999)] [(53, 46), (82, 99999)] = true from rfl)
  exact fz_iret kX11_goes rfl rfl (fun _ => ⟨hI13, hf20, _, rfl, (by omega), (by first | rfl | (rw [f16, lost]) | (rw [f16]) | (exfalso; omega)), (by simp only [List.length_cons, List.length_nil]; omega), (by first | exact fz_tc2 lost f18 lost (by omega) (by simp only [List.length_cons, List.length_nil]; omega) | exact fz_tc1 lost f18 (by omega) | exact fz_tc0 lost | exact f18 | (exfalso; omega))⟩)

abbrev qX11_says_7_0 (h : fz_H) (b x : Int) : fz_H → Option fz_V → Prop := fun h' r0 => fz_Iv h' ∧ fz_fr [(53, 46), (82, 99999)] h h' ∧ ∃ r : Int, r0 = some (fz_i r) ∧ (h' 53 46 = h 53 46 + 3) ∧ (r = fz_w (fz_w (fz_w (x + b) + 3) * 2)) ∧ (h' 53 46 = h 53 46 + ([10, 20, 1] : List Int).length) ∧ (h' 82 = fz_tr (h 82) (h 53 46) [10, 20, 1])
set_option maxHeartbeats 1000000 in
set_option maxRecDepth 100000 in
theorem sX11_says_7_0 (h : fz_H) (hI : fz_Iv h) (b x : Int) (hp0 : 0 ≤ b ∧ b ≤ 49) (hp1 : h 53 46 ≤ 897) (hp2 : h 81 b.toNat = 7) : fz_R 5 mX11_says 0 [(0, fz_r 53), (1, fz_i b), (2, fz_i 0), (3, fz_i x)] [] h (qX11_says_7_0 h b x) := by
  refine fz_knowl (fun hk => ?_)
  have hr_b : -2147483648 ≤ b ∧ b < 2147483648 := hk _ (List.Mem.tail _ (List.Mem.head _))
  have hr_x : -2147483648 ≤ x ∧ x < 2147483648 := hk _ (List.Mem.tail _ (List.Mem.tail _ (List.Mem.tail _ (List.Mem.head _))))
  clear hk
  have hf : fz_fr [(53, 46), (82, 99999)] h h := fz_fr_rf
  have b1 : 0 ≤ h 53 46 ∧ h 53 46 ≤ 1000 := hI.1 53 _
  refine fz_iload_n kX11_says rfl rfl ?_
  refine fz_tswC (j := 0) (tgt := 48) kX11_says rfl rfl (by decide) (by decide) rfl (by decide) ?_
  refine fz_aload_n kX11_says rfl rfl ?_
  refine fz_bipush ⟨by decide, by decide⟩ kX11_says rfl ?_
  refine fz_callV (d' := 0) (M' := mX11_ran) (As := [fz_i 10]) (st := []) kX11_says rfl rfl vX11_ran rfl rfl rfl rfl (Nat.le_of_ble_eq_true rfl) (Nat.le_of_ble_eq_true rfl) (by decide) (sX11_ran h hI 10 (by omega)) (fun H2 r3 q4 o5 => ?_)
  obtain ⟨hI6, hf7, rfl, f8, f9⟩ := q4
  clear o5
  have hf10 := fz_fr_tr hf hf7 (show fz_su [(53, 46), (82, 99999)] [(53, 46), (82, 99999)] = true from rfl)
  refine fz_aload_n kX11_says rfl rfl ?_
  refine fz_iload_n kX11_says rfl rfl ?_
  refine fz_aload_n kX11_says rfl rfl ?_
  refine fz_getR (t := 81) kX11_says rfl rfl ?_
  refine fz_iload_n kX11_says rfl rfl ?_
  refine fz_ialdV (n := 50) (v := h 81 (b.toNat)) kX11_says rfl rfl (by omega) (by omega) (hf10 81 _ rfl) ?_
  have b11 : 0 ≤ h 81 (b.toNat) ∧ h 81 (b.toNat) ≤ 7 := hI.1 81 _
  refine fz_eqi (show (h 81 (b.toNat)) = 7 by omega) ?_
  refine fz_iload_n kX11_says rfl rfl ?_
  have b12 : 0 ≤ H2 53 46 ∧ H2 53 46 ≤ 1000 := hI6.1 53 _
  have e13 : H2 81 b.toNat = h 81 b.toNat := hf10 81 _ rfl
  refine fz_callV (d' := 4) (M' := mX11_goes) (As := [fz_i b, fz_i 7, fz_i x]) (st := []) kX11_says rfl rfl vX11_goes rfl rfl rfl rfl (Nat.le_of_ble_eq_true rfl) (Nat.le_of_ble_eq_true rfl) (by decide) (sX11_goes_7_7 H2 hI6 b x (by omega) (by omega) (by omega)) (fun H14 r15 q16 o17 => ?_)
  obtain ⟨hI18, hf19, y24, rfl, f20, f21, f22, f23⟩ := q16
  clear o17
  have hf25 := fz_fr_tr hf10 hf19 (show fz_su [(53, 46), (82, 99999)] [(53, 46), (82, 99999)] = true from rfl)
  refine fz_iconst ⟨by decide, by decide⟩ kX11_says rfl ?_
  refine fz_imul kX11_says rfl ?_
  have b26 := fz_w_b (y24 * 2)
  exact fz_iret kX11_says rfl rfl (fun _ => ⟨hI18, hf25, _, rfl, (by omega), (by first | rfl | (rw [f21, lost]) | (rw [f21]) | (exfalso; omega)), (by simp only [List.length_cons, List.length_nil]; omega), (by first | exact fz_tc2 f9 f23 lost (by omega) (by simp only [List.length_cons, List.length_nil]; omega) | exact fz_tc1 f9 f23 (by omega) | exact fz_tc0 f9 | exact f23 | (exfalso; omega))⟩)

abbrev qX11_says_7_1 (h : fz_H) (b x : Int) : fz_H → Option fz_V → Prop := fun h' r0 => fz_Iv h' ∧ fz_fr [(53, 46), (82, 99999)] h h' ∧ ∃ r : Int, r0 = some (fz_i r) ∧ (h' 53 46 = h 53 46 + 3) ∧ (r = fz_w (fz_w (fz_w (x + b) + 3) * 2)) ∧ (h' 53 46 = h 53 46 + ([10, 20, 1] : List Int).length) ∧ (h' 82 = fz_tr (h 82) (h 53 46) [10, 20, 1])
set_option maxHeartbeats 1000000 in
set_option maxRecDepth 100000 in
theorem sX11_says_7_1 (h : fz_H) (hI : fz_Iv h) (b x : Int) (hp0 : 0 ≤ b ∧ b ≤ 49) (hp1 : h 53 46 ≤ 897) (hp2 : h 81 b.toNat = 7) : fz_R 6 mX11_says 0 [(0, fz_r 53), (1, fz_i b), (2, fz_i 1), (3, fz_i x)] [] h (qX11_says_7_1 h b x) := by
  refine fz_knowl (fun hk => ?_)
  have hr_b : -2147483648 ≤ b ∧ b < 2147483648 := hk _ (List.Mem.tail _ (List.Mem.head _))
  have hr_x : -2147483648 ≤ x ∧ x < 2147483648 := hk _ (List.Mem.tail _ (List.Mem.tail _ (List.Mem.tail _ (List.Mem.head _))))
  clear hk
  have hf : fz_fr [(53, 46), (82, 99999)] h h := fz_fr_rf
  have b1 : 0 ≤ h 53 46 ∧ h 53 46 ≤ 1000 := hI.1 53 _
  refine fz_iload_n kX11_says rfl rfl ?_
  refine fz_tswC (j := 1) (tgt := 131) kX11_says rfl rfl (by decide) (by decide) rfl (by decide) ?_
  refine fz_aload_n kX11_says rfl rfl ?_
  refine fz_iload_n kX11_says rfl rfl ?_
  refine fz_iload_n kX11_says rfl rfl ?_
  refine fz_callS (d' := 0) (M' := mX11_above) (As := [fz_i 1]) (st := [fz_i b, fz_r 53]) kX11_says rfl rfl vX11_above rfl rfl (Nat.le_of_ble_eq_true rfl) (Nat.le_of_ble_eq_true rfl) (by decide) (sX11_above_1 h hI  ) (fun H2 r3 q4 o5 => ?_)
  obtain ⟨e6, y8, rfl, f7⟩ := q4
  subst H2
  clear o5
  refine fz_eqi (show y8 = 0 by omega) ?_
  refine fz_iload_n kX11_says rfl rfl ?_
  refine fz_callV (d' := 5) (M' := mX11_says) (As := [fz_i b, fz_i 0, fz_i x]) (st := []) kX11_says rfl rfl vX11_says rfl rfl rfl rfl (Nat.le_of_ble_eq_true rfl) (Nat.le_of_ble_eq_true rfl) (by decide) (sX11_says_7_0 h hI b x (by omega) (by omega) (by omega)) (fun H9 r10 q11 o12 => ?_)
  obtain ⟨hI13, hf14, y19, rfl, f15, f16, f17, f18⟩ := q11
  clear o12
  have hf20 := fz_fr_tr hf hf14 (show fz_su [(53, 46), (82, 99999)] [(53, 46), (82, 99999)] = true from rfl)
  exact fz_iret kX11_says rfl rfl (fun _ => ⟨hI13, hf20, _, rfl, (by omega), (by first | rfl | (rw [f16, lost]) | (rw [f16]) | (exfalso; omega)), (by simp only [List.length_cons, List.length_nil]; omega), (by first | exact fz_tc2 lost f18 lost (by omega) (by simp only [List.length_cons, List.length_nil]; omega) | exact fz_tc1 lost f18 (by omega) | exact fz_tc0 lost | exact f18 | (exfalso; omega))⟩)

abbrev qX11_says_7_4 (h : fz_H) (b x : Int) : fz_H → Option fz_V → Prop := fun h' r0 => fz_Iv h' ∧ fz_fr [(53, 46), (82, 99999)] h h' ∧ ∃ r : Int, r0 = some (fz_i r) ∧ (h' 53 46 = h 53 46 + 3) ∧ (r = fz_w (fz_w (fz_w (x + b) + 3) * 2)) ∧ (h' 53 46 = h 53 46 + ([10, 20, 1] : List Int).length) ∧ (h' 82 = fz_tr (h 82) (h 53 46) [10, 20, 1])
set_option maxHeartbeats 1000000 in
set_option maxRecDepth 100000 in
theorem sX11_says_7_4 (h : fz_H) (hI : fz_Iv h) (b x : Int) (hp0 : 0 ≤ b ∧ b ≤ 49) (hp1 : h 53 46 ≤ 897) (hp2 : h 81 b.toNat = 7) : fz_R 7 mX11_says 0 [(0, fz_r 53), (1, fz_i b), (2, fz_i 4), (3, fz_i x)] [] h (qX11_says_7_4 h b x) := by
  refine fz_knowl (fun hk => ?_)
  have hr_b : -2147483648 ≤ b ∧ b < 2147483648 := hk _ (List.Mem.tail _ (List.Mem.head _))
  have hr_x : -2147483648 ≤ x ∧ x < 2147483648 := hk _ (List.Mem.tail _ (List.Mem.tail _ (List.Mem.tail _ (List.Mem.head _))))
  clear hk
  have hf : fz_fr [(53, 46), (82, 99999)] h h := fz_fr_rf
  have b1 : 0 ≤ h 53 46 ∧ h 53 46 ≤ 1000 := hI.1 53 _
  refine fz_iload_n kX11_says rfl rfl ?_
  refine fz_tswC (j := 4) (tgt := 131) kX11_says rfl rfl (by decide) (by decide) rfl (by decide) ?_
  refine fz_aload_n kX11_says rfl rfl ?_
  refine fz_iload_n kX11_says rfl rfl ?_
  refine fz_iload_n kX11_says rfl rfl ?_
  refine fz_callS (d' := 0) (M' := mX11_above) (As := [fz_i 4]) (st := [fz_i b, fz_r 53]) kX11_says rfl rfl vX11_above rfl rfl (Nat.le_of_ble_eq_true rfl) (Nat.le_of_ble_eq_true rfl) (by decide) (sX11_above_4 h hI  ) (fun H2 r3 q4 o5 => ?_)
  obtain ⟨e6, y8, rfl, f7⟩ := q4
  subst H2
  clear o5
  refine fz_eqi (show y8 = 1 by omega) ?_
  refine fz_iload_n kX11_says rfl rfl ?_
  refine fz_callV (d' := 6) (M' := mX11_says) (As := [fz_i b, fz_i 1, fz_i x]) (st := []) kX11_says rfl rfl vX11_says rfl rfl rfl rfl (Nat.le_of_ble_eq_true rfl) (Nat.le_of_ble_eq_true rfl) (by decide) (sX11_says_7_1 h hI b x (by omega) (by omega) (by omega)) (fun H9 r10 q11 o12 => ?_)
  obtain ⟨hI13, hf14, y19, rfl, f15, f16, f17, f18⟩ := q11
  clear o12
  have hf20 := fz_fr_tr hf hf14 (show fz_su [(53, 46), (82, 99999)] [(53, 46), (82, 99999)] = true from rfl)
  exact fz_iret kX11_says rfl rfl (fun _ => ⟨hI13, hf20, _, rfl, (by omega), (by first | rfl | (rw [f16, lost]) | (rw [f16]) | (exfalso; omega)), (by simp only [List.length_cons, List.length_nil]; omega), (by first | exact fz_tc2 lost f18 lost (by omega) (by simp only [List.length_cons, List.length_nil]; omega) | exact fz_tc1 lost f18 (by omega) | exact fz_tc0 lost | exact f18 | (exfalso; omega))⟩)

abbrev qX11_fades_7_0 (h : fz_H) (b x : Int) : fz_H → Option fz_V → Prop := fun h' r0 => fz_Iv h' ∧ fz_fr [(53, 46), (82, 99999)] h h' ∧ ∃ r : Int, r0 = some (fz_i r) ∧ (h' 53 46 = h 53 46 + 1) ∧ (r = fz_xor x b) ∧ (h' 53 46 = h 53 46 + ([11] : List Int).length) ∧ (h' 82 = fz_tr (h 82) (h 53 46) [11])
set_option maxHeartbeats 1000000 in
set_option maxRecDepth 100000 in
theorem sX11_fades_7_0 (h : fz_H) (hI : fz_Iv h) (b x : Int) (hp0 : 0 ≤ b ∧ b ≤ 49) (hp1 : h 53 46 ≤ 899) (hp2 : h 81 b.toNat = 7) : fz_R 1 mX11_fades 0 [(0, fz_r 53), (1, fz_i b), (2, fz_i 0), (3, fz_i x)] [] h (qX11_fades_7_0 h b x) := by
  refine fz_knowl (fun hk => ?_)
  have hr_b : -2147483648 ≤ b ∧ b < 2147483648 := hk _ (List.Mem.tail _ (List.Mem.head _))
  have hr_x : -2147483648 ≤ x ∧ x < 2147483648 := hk _ (List.Mem.tail _ (List.Mem.tail _ (List.Mem.tail _ (List.Mem.head _))))
  clear hk
  have hf : fz_fr [(53, 46), (82, 99999)] h h := fz_fr_rf
  have b1 : 0 ≤ h 53 46 ∧ h 53 46 ≤ 1000 := hI.1 53 _
  refine fz_iload_n kX11_fades rfl rfl ?_
  refine fz_tswC (j := 0) (tgt := 36) kX11_fades rfl rfl (by decide) (by decide) rfl (by decide) ?_
  refine fz_aload_n kX11_fades rfl rfl ?_
  refine fz_bipush ⟨by decide, by decide⟩ kX11_fades rfl ?_
  refine fz_callV (d' := 0) (M' := mX11_ran) (As := [fz_i 11]) (st := []) kX11_fades rfl rfl vX11_ran rfl rfl rfl rfl (Nat.le_of_ble_eq_true rfl) (Nat.le_of_ble_eq_true rfl) (by decide) (sX11_ran h hI 11 (by omega)) (fun H2 r3 q4 o5 => ?_)
  obtain ⟨hI6, hf7, rfl, f8, f9⟩ := q4
  clear o5
  have hf10 := fz_fr_tr hf hf7 (show fz_su [(53, 46), (82, 99999)] [(53, 46), (82, 99999)] = true from rfl)
  refine fz_iload_n kX11_fades rfl rfl ?_
  refine fz_iload_n kX11_fades rfl rfl ?_
  refine fz_ixor kX11_fades rfl ?_
  have b11 : -2147483648 ≤ (fz_xor x b) ∧ (fz_xor x b) < 2147483648 := fz_b32 _
  exact fz_iret kX11_fades rfl rfl (fun _ => ⟨hI6, hf10, _, rfl, (by omega), (by first | rfl | (rw [lost, lost]) | (rw [lost]) | (exfalso; omega)), (by simp only [List.length_cons, List.length_nil]; omega), (by first | exact fz_tc2 f9 lost lost (by omega) (by simp only [List.length_cons, List.length_nil]; omega) | exact fz_tc1 f9 lost (by omega) | exact fz_tc0 f9 | exact lost | (exfalso; omega))⟩)

abbrev qX11_fades_7_1 (h : fz_H) (b x : Int) : fz_H → Option fz_V → Prop := fun h' r0 => fz_Iv h' ∧ fz_fr [(53, 46), (82, 99999)] h h' ∧ ∃ r : Int, r0 = some (fz_i r) ∧ (h' 53 46 = h 53 46 + 1) ∧ (r = fz_xor x b) ∧ (h' 53 46 = h 53 46 + ([11] : List Int).length) ∧ (h' 82 = fz_tr (h 82) (h 53 46) [11])
set_option maxHeartbeats 1000000 in
set_option maxRecDepth 100000 in
theorem sX11_fades_7_1 (h : fz_H) (hI : fz_Iv h) (b x : Int) (hp0 : 0 ≤ b ∧ b ≤ 49) (hp1 : h 53 46 ≤ 899) (hp2 : h 81 b.toNat = 7) : fz_R 2 mX11_fades 0 [(0, fz_r 53), (1, fz_i b), (2, fz_i 1), (3, fz_i x)] [] h (qX11_fades_7_1 h b x) := by
  refine fz_knowl (fun hk => ?_)
  have hr_b : -2147483648 ≤ b ∧ b < 2147483648 := hk _ (List.Mem.tail _ (List.Mem.head _))
  have hr_x : -2147483648 ≤ x ∧ x < 2147483648 := hk _ (List.Mem.tail _ (List.Mem.tail _ (List.Mem.tail _ (List.Mem.head _))))
  clear hk
  have hf : fz_fr [(53, 46), (82, 99999)] h h := fz_fr_rf
  have b1 : 0 ≤ h 53 46 ∧ h 53 46 ≤ 1000 := hI.1 53 _
  refine fz_iload_n kX11_fades rfl rfl ?_
  refine fz_tswC (j := 1) (tgt := 93) kX11_fades rfl rfl (by decide) (by decide) rfl (by decide) ?_
  refine fz_aload_n kX11_fades rfl rfl ?_
  refine fz_iload_n kX11_fades rfl rfl ?_
  refine fz_iload_n kX11_fades rfl rfl ?_
  refine fz_callS (d' := 0) (M' := mX11_above) (As := [fz_i 1]) (st := [fz_i b, fz_r 53]) kX11_fades rfl rfl vX11_above rfl rfl (Nat.le_of_ble_eq_true rfl) (Nat.le_of_ble_eq_true rfl) (by decide) (sX11_above_1 h hI  ) (fun H2 r3 q4 o5 => ?_)
  obtain ⟨e6, y8, rfl, f7⟩ := q4
  subst H2
  clear o5
  refine fz_eqi (show y8 = 0 by omega) ?_
  refine fz_iload_n kX11_fades rfl rfl ?_
  refine fz_callV (d' := 1) (M' := mX11_fades) (As := [fz_i b, fz_i 0, fz_i x]) (st := []) kX11_fades rfl rfl vX11_fades rfl rfl rfl rfl (Nat.le_of_ble_eq_true rfl) (Nat.le_of_ble_eq_true rfl) (by decide) (sX11_fades_7_0 h hI b x (by omega) (by omega) (by omega)) (fun H9 r10 q11 o12 => ?_)
  obtain ⟨hI13, hf14, y19, rfl, f15, f16, f17, f18⟩ := q11
  clear o12
  have hf20 := fz_fr_tr hf hf14 (show fz_su [(53, 46), (82, 99999)] [(53, 46), (82, 99999)] = true from rfl)
  exact fz_iret kX11_fades rfl rfl (fun _ => ⟨hI13, hf20, _, rfl, (by omega), (by first | rfl | (rw [f16, lost]) | (rw [f16]) | (exfalso; omega)), (by simp only [List.length_cons, List.length_nil]; omega), (by first | exact fz_tc2 lost f18 lost (by omega) (by simp only [List.length_cons, List.length_nil]; omega) | exact fz_tc1 lost f18 (by omega) | exact fz_tc0 lost | exact f18 | (exfalso; omega))⟩)

abbrev qX11_fades_7_4 (h : fz_H) (b x : Int) : fz_H → Option fz_V → Prop := fun h' r0 => fz_Iv h' ∧ fz_fr [(53, 46), (82, 99999)] h h' ∧ ∃ r : Int, r0 = some (fz_i r) ∧ (h' 53 46 = h 53 46 + 4) ∧ (r = fz_w (fz_xor x b - fz_w (fz_w (2 + b) + 3))) ∧ (h' 53 46 = h 53 46 + ([50, 11, 20, 1] : List Int).length) ∧ (h' 82 = fz_tr (h 82) (h 53 46) [50, 11, 20, 1])
set_option maxHeartbeats 1000000 in
set_option maxRecDepth 100000 in
theorem sX11_fades_7_4 (h : fz_H) (hI : fz_Iv h) (b x : Int) (hp0 : 0 ≤ b ∧ b ≤ 49) (hp1 : h 53 46 ≤ 896) (hp2 : h 81 b.toNat = 7) : fz_R 5 mX11_fades 0 [(0, fz_r 53), (1, fz_i b), (2, fz_i 4), (3, fz_i x)] [] h (qX11_fades_7_4 h b x) := by
  refine fz_knowl (fun hk => ?_)
  have hr_b : -2147483648 ≤ b ∧ b < 2147483648 := hk _ (List.Mem.tail _ (List.Mem.head _))
  have hr_x : -2147483648 ≤ x ∧ x < 2147483648 := hk _ (List.Mem.tail _ (List.Mem.tail _ (List.Mem.tail _ (List.Mem.head _))))
  clear hk
  have hf : fz_fr [(53, 46), (82, 99999)] h h := fz_fr_rf
  have b1 : 0 ≤ h 53 46 ∧ h 53 46 ≤ 1000 := hI.1 53 _
  refine fz_iload_n kX11_fades rfl rfl ?_
  refine fz_tswC (j := 4) (tgt := 62) kX11_fades rfl rfl (by decide) (by decide) rfl (by decide) ?_
  refine fz_aload_n kX11_fades rfl rfl ?_
  refine fz_bipush ⟨by decide, by decide⟩ kX11_fades rfl ?_
  refine fz_callV (d' := 0) (M' := mX11_ran) (As := [fz_i 50]) (st := []) kX11_fades rfl rfl vX11_ran rfl rfl rfl rfl (Nat.le_of_ble_eq_true rfl) (Nat.le_of_ble_eq_true rfl) (by decide) (sX11_ran h hI 50 (by omega)) (fun H2 r3 q4 o5 => ?_)
  obtain ⟨hI6, hf7, rfl, f8, f9⟩ := q4
  clear o5
  have hf10 := fz_fr_tr hf hf7 (show fz_su [(53, 46), (82, 99999)] [(53, 46), (82, 99999)] = true from rfl)
  refine fz_aload_n kX11_fades rfl rfl ?_
  refine fz_iload_n kX11_fades rfl rfl ?_
  refine fz_iconst ⟨by decide, by decide⟩ kX11_fades rfl ?_
  refine fz_iload_n kX11_fades rfl rfl ?_
  have b11 : 0 ≤ H2 53 46 ∧ H2 53 46 ≤ 1000 := hI6.1 53 _
  have e12 : H2 81 b.toNat = h 81 b.toNat := hf10 81 _ rfl
  refine fz_callV (d' := 2) (M' := mX11_fades) (As := [fz_i b, fz_i 1, fz_i x]) (st := []) kX11_fades rfl rfl vX11_fades rfl rfl rfl rfl (Nat.le_of_ble_eq_true rfl) (Nat.le_of_ble_eq_true rfl) (by decide) (sX11_fades_7_1 H2 hI6 b x (by omega) (by omega) (by omega)) (fun H13 r14 q15 o16 => ?_)
  obtain ⟨hI17, hf18, y23, rfl, f19, f20, f21, f22⟩ := q15
  clear o16
  have hf24 := fz_fr_tr hf10 hf18 (show fz_su [(53, 46), (82, 99999)] [(53, 46), (82, 99999)] = true from rfl)
  refine fz_istore (ls' := [(4, fz_i y23), (0, fz_r 53), (1, fz_i b), (2, fz_i 4), (3, fz_i x)]) kX11_fades rfl (by decide) rfl ?_
  refine fz_iload kX11_fades rfl rfl ?_
  refine fz_aload_n kX11_fades rfl rfl ?_
  refine fz_iload_n kX11_fades rfl rfl ?_
  refine fz_aload_n kX11_fades rfl rfl ?_
  refine fz_getR (t := 81) kX11_fades rfl rfl ?_
  refine fz_iload_n kX11_fades rfl rfl ?_
  refine fz_ialdV (n := 50) (v := h 81 (b.toNat)) kX11_fades rfl rfl (by omega) (by omega) (hf24 81 _ rfl) ?_
  have b25 : 0 ≤ h 81 (b.toNat) ∧ h 81 (b.toNat) ≤ 7 := hI.1 81 _
  refine fz_eqi (show (h 81 (b.toNat)) = 7 by omega) ?_
  refine fz_iconst ⟨by decide, by decide⟩ kX11_fades rfl ?_
  have b26 : 0 ≤ H13 53 46 ∧ H13 53 46 ≤ 1000 := hI17.1 53 _
  have e27 : H13 81 b.toNat = h 81 b.toNat := hf24 81 _ rfl
  refine fz_callV (d' := 4) (M' := mX11_goes) (As := [fz_i b, fz_i 7, fz_i 2]) (st := [fz_i y23]) kX11_fades rfl rfl vX11_goes rfl rfl rfl rfl (Nat.le_of_ble_eq_true rfl) (Nat.le_of_ble_eq_true rfl) (by decide) (sX11_goes_7_7 H13 hI17 b 2 (by omega) (by omega) (by omega)) (fun H28 r29 q30 o31 => ?_)
  obtain ⟨hI32, hf33, y38, rfl, f34, f35, f36, f37⟩ := q30
  clear o31
  have hf39 := fz_fr_tr hf24 hf33 (show fz_su [(53, 46), (82, 99999)] [(53, 46), (82, 99999)] = true from rfl)
  refine fz_isub kX11_fades rfl ?_
  have b40 := fz_w_b (y23 - y38)
  exact fz_iret kX11_fades rfl rfl (fun _ => ⟨hI32, hf39, _, rfl, (by omega), (by first | rfl | (rw [f20, f35]) | (rw [f20]) | (exfalso; omega)), (by simp only [List.length_cons, List.length_nil]; omega), (by first | exact fz_tc2 f9 f22 f37 (by omega) (by simp only [List.length_cons, List.length_nil]; omega) | exact fz_tc1 f9 f22 (by omega) | exact fz_tc0 f9 | exact f22 | (exfalso; omega))⟩)

abbrev qX11_fades_7_7 (h : fz_H) (b x : Int) : fz_H → Option fz_V → Prop := fun h' r0 => fz_Iv h' ∧ fz_fr [(53, 46), (82, 99999)] h h' ∧ ∃ r : Int, r0 = some (fz_i r) ∧ (h' 53 46 = h 53 46 + 4) ∧ (r = fz_w (fz_xor x b - fz_w (fz_w (2 + b) + 3))) ∧ (h' 53 46 = h 53 46 + ([50, 11, 20, 1] : List Int).length) ∧ (h' 82 = fz_tr (h 82) (h 53 46) [50, 11, 20, 1])
set_option maxHeartbeats 1000000 in
set_option maxRecDepth 100000 in
theorem sX11_fades_7_7 (h : fz_H) (hI : fz_Iv h) (b x : Int) (hp0 : 0 ≤ b ∧ b ≤ 49) (hp1 : h 53 46 ≤ 896) (hp2 : h 81 b.toNat = 7) : fz_R 6 mX11_fades 0 [(0, fz_r 53), (1, fz_i b), (2, fz_i 7), (3, fz_i x)] [] h (qX11_fades_7_7 h b x) := by
  refine fz_knowl (fun hk => ?_)
  have hr_b : -2147483648 ≤ b ∧ b < 2147483648 := hk _ (List.Mem.tail _ (List.Mem.head _))
  have hr_x : -2147483648 ≤ x ∧ x < 2147483648 := hk _ (List.Mem.tail _ (List.Mem.tail _ (List.Mem.tail _ (List.Mem.head _))))
  clear hk
  have hf : fz_fr [(53, 46), (82, 99999)] h h := fz_fr_rf
  have b1 : 0 ≤ h 53 46 ∧ h 53 46 ≤ 1000 := hI.1 53 _
  refine fz_iload_n kX11_fades rfl rfl ?_
  have c2 : ((7 : Int) < 0 ∨ 4 < (7 : Int)) := by omega
  · refine fz_tswO (tgt := 93) kX11_fades rfl c2 (by decide) ?_
    refine fz_aload_n kX11_fades rfl rfl ?_
    refine fz_iload_n kX11_fades rfl rfl ?_
    refine fz_iload_n kX11_fades rfl rfl ?_
    refine fz_callS (d' := 0) (M' := mX11_above) (As := [fz_i 7]) (st := [fz_i b, fz_r 53]) kX11_fades rfl rfl vX11_above rfl rfl (Nat.le_of_ble_eq_true rfl) (Nat.le_of_ble_eq_true rfl) (by decide) (sX11_above_7 h hI  ) (fun H3 r4 q5 o6 => ?_)
    obtain ⟨e7, y9, rfl, f8⟩ := q5
    subst H3
    clear o6
    refine fz_eqi (show y9 = 4 by omega) ?_
    refine fz_iload_n kX11_fades rfl rfl ?_
    refine fz_callV (d' := 5) (M' := mX11_fades) (As := [fz_i b, fz_i 4, fz_i x]) (st := []) kX11_fades rfl rfl vX11_fades rfl rfl rfl rfl (Nat.le_of_ble_eq_true rfl) (Nat.le_of_ble_eq_true rfl) (by decide) (sX11_fades_7_4 h hI b x (by omega) (by omega) (by omega)) (fun H10 r11 q12 o13 => ?_)
    obtain ⟨hI14, hf15, y20, rfl, f16, f17, f18, f19⟩ := q12
    clear o13
    have hf21 := fz_fr_tr hf hf15 (show fz_su [(53, 46), (82, 99999)] [(53, 46), (82, 99999)] = true from rfl)
    exact fz_iret kX11_fades rfl rfl (fun _ => ⟨hI14, hf21, _, rfl, (by omega), (by first | rfl | (rw [f17, lost]) | (rw [f17]) | (exfalso; omega)), (by simp only [List.length_cons, List.length_nil]; omega), (by first | exact fz_tc2 lost f19 lost (by omega) (by simp only [List.length_cons, List.length_nil]; omega) | exact fz_tc1 lost f19 (by omega) | exact fz_tc0 lost | exact f19 | (exfalso; omega))⟩)

abbrev qX11_says_7_7 (h : fz_H) (b x : Int) : fz_H → Option fz_V → Prop := fun h' r0 => fz_Iv h' ∧ fz_fr [(53, 46), (82, 99999)] h h' ∧ ∃ r : Int, r0 = some (fz_i r) ∧ (h' 53 46 = h 53 46 + 8) ∧ (r = fz_w (fz_w (fz_w (fz_w (x + b) + 3) * 2) + fz_w (fz_xor 2 b - fz_w (fz_w (2 + b) + 3)))) ∧ (h' 53 46 = h 53 46 + ([80, 10, 20, 1, 50, 11, 20, 1] : List Int).length) ∧ (h' 82 = fz_tr (h 82) (h 53 46) [80, 10, 20, 1, 50, 11, 20, 1])
set_option maxHeartbeats 1000000 in
set_option maxRecDepth 100000 in
theorem sX11_says_7_7 (h : fz_H) (hI : fz_Iv h) (b x : Int) (hp0 : 0 ≤ b ∧ b ≤ 49) (hp1 : h 53 46 ≤ 892) (hp2 : h 81 b.toNat = 7) : fz_R 8 mX11_says 0 [(0, fz_r 53), (1, fz_i b), (2, fz_i 7), (3, fz_i x)] [] h (qX11_says_7_7 h b x) := by
  refine fz_knowl (fun hk => ?_)
  have hr_b : -2147483648 ≤ b ∧ b < 2147483648 := hk _ (List.Mem.tail _ (List.Mem.head _))
  have hr_x : -2147483648 ≤ x ∧ x < 2147483648 := hk _ (List.Mem.tail _ (List.Mem.tail _ (List.Mem.tail _ (List.Mem.head _))))
  clear hk
  have hf : fz_fr [(53, 46), (82, 99999)] h h := fz_fr_rf
  have b1 : 0 ≤ h 53 46 ∧ h 53 46 ≤ 1000 := hI.1 53 _
  refine fz_iload_n kX11_says rfl rfl ?_
  refine fz_tswC (j := 7) (tgt := 100) kX11_says rfl rfl (by decide) (by decide) rfl (by decide) ?_
  refine fz_aload_n kX11_says rfl rfl ?_
  refine fz_bipush ⟨by decide, by decide⟩ kX11_says rfl ?_
  refine fz_callV (d' := 0) (M' := mX11_ran) (As := [fz_i 80]) (st := []) kX11_says rfl rfl vX11_ran rfl rfl rfl rfl (Nat.le_of_ble_eq_true rfl) (Nat.le_of_ble_eq_true rfl) (by decide) (sX11_ran h hI 80 (by omega)) (fun H2 r3 q4 o5 => ?_)
  obtain ⟨hI6, hf7, rfl, f8, f9⟩ := q4
  clear o5
  have hf10 := fz_fr_tr hf hf7 (show fz_su [(53, 46), (82, 99999)] [(53, 46), (82, 99999)] = true from rfl)
  refine fz_aload_n kX11_says rfl rfl ?_
  refine fz_iload_n kX11_says rfl rfl ?_
  refine fz_iconst ⟨by decide, by decide⟩ kX11_says rfl ?_
  refine fz_iload_n kX11_says rfl rfl ?_
  have b11 : 0 ≤ H2 53 46 ∧ H2 53 46 ≤ 1000 := hI6.1 53 _
  have e12 : H2 81 b.toNat = h 81 b.toNat := hf10 81 _ rfl
  refine fz_callV (d' := 7) (M' := mX11_says) (As := [fz_i b, fz_i 4, fz_i x]) (st := []) kX11_says rfl rfl vX11_says rfl rfl rfl rfl (Nat.le_of_ble_eq_true rfl) (Nat.le_of_ble_eq_true rfl) (by decide) (sX11_says_7_4 H2 hI6 b x (by omega) (by omega) (by omega)) (fun H13 r14 q15 o16 => ?_)
  obtain ⟨hI17, hf18, y23, rfl, f19, f20, f21, f22⟩ := q15
  clear o16
  have hf24 := fz_fr_tr hf10 hf18 (show fz_su [(53, 46), (82, 99999)] [(53, 46), (82, 99999)] = true from rfl)
  refine fz_istore (ls' := [(4, fz_i y23), (0, fz_r 53), (1, fz_i b), (2, fz_i 7), (3, fz_i x)]) kX11_says rfl (by decide) rfl ?_
  refine fz_iload kX11_says rfl rfl ?_
  refine fz_aload_n kX11_says rfl rfl ?_
  refine fz_iload_n kX11_says rfl rfl ?_
  refine fz_aload_n kX11_says rfl rfl ?_
  refine fz_getR (t := 81) kX11_says rfl rfl ?_
  refine fz_iload_n kX11_says rfl rfl ?_
  refine fz_ialdV (n := 50) (v := h 81 (b.toNat)) kX11_says rfl rfl (by omega) (by omega) (hf24 81 _ rfl) ?_
  have b25 : 0 ≤ h 81 (b.toNat) ∧ h 81 (b.toNat) ≤ 7 := hI.1 81 _
  refine fz_eqi (show (h 81 (b.toNat)) = 7 by omega) ?_
  refine fz_iconst ⟨by decide, by decide⟩ kX11_says rfl ?_
  have b26 : 0 ≤ H13 53 46 ∧ H13 53 46 ≤ 1000 := hI17.1 53 _
  have e27 : H13 81 b.toNat = h 81 b.toNat := hf24 81 _ rfl
  refine fz_callV (d' := 6) (M' := mX11_fades) (As := [fz_i b, fz_i 7, fz_i 2]) (st := [fz_i y23]) kX11_says rfl rfl vX11_fades rfl rfl rfl rfl (Nat.le_of_ble_eq_true rfl) (Nat.le_of_ble_eq_true rfl) (by decide) (sX11_fades_7_7 H13 hI17 b 2 (by omega) (by omega) (by omega)) (fun H28 r29 q30 o31 => ?_)
  obtain ⟨hI32, hf33, y38, rfl, f34, f35, f36, f37⟩ := q30
  clear o31
  have hf39 := fz_fr_tr hf24 hf33 (show fz_su [(53, 46), (82, 99999)] [(53, 46), (82, 99999)] = true from rfl)
  refine fz_iadd kX11_says rfl ?_
  have b40 := fz_w_b (y23 + y38)
  exact fz_iret kX11_says rfl rfl (fun _ => ⟨hI32, hf39, _, rfl, (by omega), (by first | rfl | (rw [f20, f35]) | (rw [f20]) | (exfalso; omega)), (by simp only [List.length_cons, List.length_nil]; omega), (by first | exact fz_tc2 f9 f22 f37 (by omega) (by simp only [List.length_cons, List.length_nil]; omega) | exact fz_tc1 f9 f22 (by omega) | exact fz_tc0 f9 | exact f22 | (exfalso; omega))⟩)

abbrev qX11_tells_7_0 (h : fz_H) (b x : Int) : fz_H → Option fz_V → Prop := fun h' r0 => fz_Iv h' ∧ fz_fr [(53, 46), (82, 99999)] h h' ∧ ∃ r : Int, r0 = some (fz_i r) ∧ (h' 53 46 = h 53 46 + 13) ∧ (r = fz_w (fz_w (fz_w (fz_w (fz_w (x + b) + 3) * 2) + fz_w (fz_xor 2 b - fz_w (fz_w (2 + b) + 3))) - fz_w (fz_xor 1 b - fz_w (fz_w (2 + b) + 3)))) ∧ (h' 53 46 = h 53 46 + ([2, 80, 10, 20, 1, 50, 11, 20, 1, 50, 11, 20, 1] : List Int).length) ∧ (h' 82 = fz_tr (h 82) (h 53 46) [2, 80, 10, 20, 1, 50, 11, 20, 1, 50, 11, 20, 1])
set_option maxHeartbeats 1000000 in
set_option maxRecDepth 100000 in
theorem sX11_tells_7_0 (h : fz_H) (hI : fz_Iv h) (b x : Int) (hp0 : 0 ≤ b ∧ b ≤ 49) (hp1 : h 53 46 ≤ 887) (hp2 : h 81 b.toNat = 7) : fz_R 9 mX11_tells 0 [(0, fz_r 53), (1, fz_i b), (2, fz_i 0), (3, fz_i x)] [] h (qX11_tells_7_0 h b x) := by
  refine fz_knowl (fun hk => ?_)
  have hr_b : -2147483648 ≤ b ∧ b < 2147483648 := hk _ (List.Mem.tail _ (List.Mem.head _))
  have hr_x : -2147483648 ≤ x ∧ x < 2147483648 := hk _ (List.Mem.tail _ (List.Mem.tail _ (List.Mem.tail _ (List.Mem.head _))))
  clear hk
  have hf : fz_fr [(53, 46), (82, 99999)] h h := fz_fr_rf
  have b1 : 0 ≤ h 53 46 ∧ h 53 46 ≤ 1000 := hI.1 53 _
  refine fz_iload_n kX11_tells rfl rfl ?_
  refine fz_lsw (tgt := 36) kX11_tells rfl (by decide) (show Op.lookupswitch.offset [(0, 35), (5, 70), (7, 86)] 102 0 = 35 from rfl) (by decide) ?_
  refine fz_aload_n kX11_tells rfl rfl ?_
  refine fz_iconst ⟨by decide, by decide⟩ kX11_tells rfl ?_
  refine fz_callV (d' := 0) (M' := mX11_ran) (As := [fz_i 2]) (st := []) kX11_tells rfl rfl vX11_ran rfl rfl rfl rfl (Nat.le_of_ble_eq_true rfl) (Nat.le_of_ble_eq_true rfl) (by decide) (sX11_ran h hI 2 (by omega)) (fun H2 r3 q4 o5 => ?_)
  obtain ⟨hI6, hf7, rfl, f8, f9⟩ := q4
  clear o5
  have hf10 := fz_fr_tr hf hf7 (show fz_su [(53, 46), (82, 99999)] [(53, 46), (82, 99999)] = true from rfl)
  refine fz_aload_n kX11_tells rfl rfl ?_
  refine fz_iload_n kX11_tells rfl rfl ?_
  refine fz_aload_n kX11_tells rfl rfl ?_
  refine fz_getR (t := 81) kX11_tells rfl rfl ?_
  refine fz_iload_n kX11_tells rfl rfl ?_
  refine fz_ialdV (n := 50) (v := h 81 (b.toNat)) kX11_tells rfl rfl (by omega) (by omega) (hf10 81 _ rfl) ?_
  have b11 : 0 ≤ h 81 (b.toNat) ∧ h 81 (b.toNat) ≤ 7 := hI.1 81 _
  refine fz_eqi (show (h 81 (b.toNat)) = 7 by omega) ?_
  refine fz_iload_n kX11_tells rfl rfl ?_
  have b12 : 0 ≤ H2 53 46 ∧ H2 53 46 ≤ 1000 := hI6.1 53 _
  have e13 : H2 81 b.toNat = h 81 b.toNat := hf10 81 _ rfl
  refine fz_callV (d' := 8) (M' := mX11_says) (As := [fz_i b, fz_i 7, fz_i x]) (st := []) kX11_tells rfl rfl vX11_says rfl rfl rfl rfl (Nat.le_of_ble_eq_true rfl) (Nat.le_of_ble_eq_true rfl) (by decide) (sX11_says_7_7 H2 hI6 b x (by omega) (by omega) (by omega)) (fun H14 r15 q16 o17 => ?_)
  obtain ⟨hI18, hf19, y24, rfl, f20, f21, f22, f23⟩ := q16
  clear o17
  have hf25 := fz_fr_tr hf10 hf19 (show fz_su [(53, 46), (82, 99999)] [(53, 46), (82, 99999)] = true from rfl)
  refine fz_istore (ls' := [(4, fz_i y24), (0, fz_r 53), (1, fz_i b), (2, fz_i 0), (3, fz_i x)]) kX11_tells rfl (by decide) rfl ?_
  refine fz_iload kX11_tells rfl rfl ?_
  refine fz_aload_n kX11_tells rfl rfl ?_
  refine fz_iload_n kX11_tells rfl rfl ?_
  refine fz_aload_n kX11_tells rfl rfl ?_
  refine fz_getR (t := 81) kX11_tells rfl rfl ?_
  refine fz_iload_n kX11_tells rfl rfl ?_
  refine fz_ialdV (n := 50) (v := h 81 (b.toNat)) kX11_tells rfl rfl (by omega) (by omega) (hf25 81 _ rfl) ?_
  refine fz_eqi (show (h 81 (b.toNat)) = 7 by omega) ?_
  refine fz_iconst ⟨by decide, by decide⟩ kX11_tells rfl ?_
  have b26 : 0 ≤ H14 53 46 ∧ H14 53 46 ≤ 1000 := hI18.1 53 _
  have e27 : H14 81 b.toNat = h 81 b.toNat := hf25 81 _ rfl
  refine fz_callV (d' := 6) (M' := mX11_fades) (As := [fz_i b, fz_i 7, fz_i 1]) (st := [fz_i y24]) kX11_tells rfl rfl vX11_fades rfl rfl rfl rfl (Nat.le_of_ble_eq_true rfl) (Nat.le_of_ble_eq_true rfl) (by decide) (sX11_fades_7_7 H14 hI18 b 1 (by omega) (by omega) (by omega)) (fun H28 r29 q30 o31 => ?_)
  obtain ⟨hI32, hf33, y38, rfl, f34, f35, f36, f37⟩ := q30
  clear o31
  have hf39 := fz_fr_tr hf25 hf33 (show fz_su [(53, 46), (82, 99999)] [(53, 46), (82, 99999)] = true from rfl)
  refine fz_isub kX11_tells rfl ?_
  have b40 := fz_w_b (y24 - y38)
  exact fz_iret kX11_tells rfl rfl (fun _ => ⟨hI32, hf39, _, rfl, (by omega), (by first | rfl | (rw [f21, f35]) | (rw [f21]) | (exfalso; omega)), (by simp only [List.length_cons, List.length_nil]; omega), (by first | exact fz_tc2 f9 f23 f37 (by omega) (by simp only [List.length_cons, List.length_nil]; omega) | exact fz_tc1 f9 f23 (by omega) | exact fz_tc0 f9 | exact f23 | (exfalso; omega))⟩)

abbrev qX11_tells_7_1 (h : fz_H) (b x : Int) : fz_H → Option fz_V → Prop := fun h' r0 => fz_Iv h' ∧ fz_fr [(53, 46), (82, 99999)] h h' ∧ ∃ r : Int, r0 = some (fz_i r) ∧ (h' 53 46 = h 53 46 + 13) ∧ (r = fz_w (fz_w (fz_w (fz_w (fz_w (x + b) + 3) * 2) + fz_w (fz_xor 2 b - fz_w (fz_w (2 + b) + 3))) - fz_w (fz_xor 1 b - fz_w (fz_w (2 + b) + 3)))) ∧ (h' 53 46 = h 53 46 + ([2, 80, 10, 20, 1, 50, 11, 20, 1, 50, 11, 20, 1] : List Int).length) ∧ (h' 82 = fz_tr (h 82) (h 53 46) [2, 80, 10, 20, 1, 50, 11, 20, 1, 50, 11, 20, 1])
set_option maxHeartbeats 1000000 in
set_option maxRecDepth 100000 in
theorem sX11_tells_7_1 (h : fz_H) (hI : fz_Iv h) (b x : Int) (hp0 : 0 ≤ b ∧ b ≤ 49) (hp1 : h 53 46 ≤ 887) (hp2 : h 81 b.toNat = 7) : fz_R 10 mX11_tells 0 [(0, fz_r 53), (1, fz_i b), (2, fz_i 1), (3, fz_i x)] [] h (qX11_tells_7_1 h b x) := by
  refine fz_knowl (fun hk => ?_)
  have hr_b : -2147483648 ≤ b ∧ b < 2147483648 := hk _ (List.Mem.tail _ (List.Mem.head _))
  have hr_x : -2147483648 ≤ x ∧ x < 2147483648 := hk _ (List.Mem.tail _ (List.Mem.tail _ (List.Mem.tail _ (List.Mem.head _))))
  clear hk
  have hf : fz_fr [(53, 46), (82, 99999)] h h := fz_fr_rf
  have b1 : 0 ≤ h 53 46 ∧ h 53 46 ≤ 1000 := hI.1 53 _
  refine fz_iload_n kX11_tells rfl rfl ?_
  refine fz_lsw (tgt := 103) kX11_tells rfl (by decide) (show Op.lookupswitch.offset [(0, 35), (5, 70), (7, 86)] 102 1 = 102 from rfl) (by decide) ?_
  refine fz_aload_n kX11_tells rfl rfl ?_
  refine fz_iload_n kX11_tells rfl rfl ?_
  refine fz_iload_n kX11_tells rfl rfl ?_
  refine fz_callS (d' := 0) (M' := mX11_above) (As := [fz_i 1]) (st := [fz_i b, fz_r 53]) kX11_tells rfl rfl vX11_above rfl rfl (Nat.le_of_ble_eq_true rfl) (Nat.le_of_ble_eq_true rfl) (by decide) (sX11_above_1 h hI  ) (fun H2 r3 q4 o5 => ?_)
  obtain ⟨e6, y8, rfl, f7⟩ := q4
  subst H2
  clear o5
  refine fz_eqi (show y8 = 0 by omega) ?_
  refine fz_iload_n kX11_tells rfl rfl ?_
  refine fz_callV (d' := 9) (M' := mX11_tells) (As := [fz_i b, fz_i 0, fz_i x]) (st := []) kX11_tells rfl rfl vX11_tells rfl rfl rfl rfl (Nat.le_of_ble_eq_true rfl) (Nat.le_of_ble_eq_true rfl) (by decide) (sX11_tells_7_0 h hI b x (by omega) (by omega) (by omega)) (fun H9 r10 q11 o12 => ?_)
  obtain ⟨hI13, hf14, y19, rfl, f15, f16, f17, f18⟩ := q11
  clear o12
  have hf20 := fz_fr_tr hf hf14 (show fz_su [(53, 46), (82, 99999)] [(53, 46), (82, 99999)] = true from rfl)
  exact fz_iret kX11_tells rfl rfl (fun _ => ⟨hI13, hf20, _, rfl, (by omega), (by first | rfl | (rw [f16, lost]) | (rw [f16]) | (exfalso; omega)), (by simp only [List.length_cons, List.length_nil]; omega), (by first | exact fz_tc2 lost f18 lost (by omega) (by simp only [List.length_cons, List.length_nil]; omega) | exact fz_tc1 lost f18 (by omega) | exact fz_tc0 lost | exact f18 | (exfalso; omega))⟩)

abbrev qX11_tells_7_4 (h : fz_H) (b x : Int) : fz_H → Option fz_V → Prop := fun h' r0 => fz_Iv h' ∧ fz_fr [(53, 46), (82, 99999)] h h' ∧ ∃ r : Int, r0 = some (fz_i r) ∧ (h' 53 46 = h 53 46 + 13) ∧ (r = fz_w (fz_w (fz_w (fz_w (fz_w (x + b) + 3) * 2) + fz_w (fz_xor 2 b - fz_w (fz_w (2 + b) + 3))) - fz_w (fz_xor 1 b - fz_w (fz_w (2 + b) + 3)))) ∧ (h' 53 46 = h 53 46 + ([2, 80, 10, 20, 1, 50, 11, 20, 1, 50, 11, 20, 1] : List Int).length) ∧ (h' 82 = fz_tr (h 82) (h 53 46) [2, 80, 10, 20, 1, 50, 11, 20, 1, 50, 11, 20, 1])
set_option maxHeartbeats 1000000 in
set_option maxRecDepth 100000 in
theorem sX11_tells_7_4 (h : fz_H) (hI : fz_Iv h) (b x : Int) (hp0 : 0 ≤ b ∧ b ≤ 49) (hp1 : h 53 46 ≤ 887) (hp2 : h 81 b.toNat = 7) : fz_R 11 mX11_tells 0 [(0, fz_r 53), (1, fz_i b), (2, fz_i 4), (3, fz_i x)] [] h (qX11_tells_7_4 h b x) := by
  refine fz_knowl (fun hk => ?_)
  have hr_b : -2147483648 ≤ b ∧ b < 2147483648 := hk _ (List.Mem.tail _ (List.Mem.head _))
  have hr_x : -2147483648 ≤ x ∧ x < 2147483648 := hk _ (List.Mem.tail _ (List.Mem.tail _ (List.Mem.tail _ (List.Mem.head _))))
  clear hk
  have hf : fz_fr [(53, 46), (82, 99999)] h h := fz_fr_rf
  have b1 : 0 ≤ h 53 46 ∧ h 53 46 ≤ 1000 := hI.1 53 _
  refine fz_iload_n kX11_tells rfl rfl ?_
  refine fz_lsw (tgt := 103) kX11_tells rfl (by decide) (show Op.lookupswitch.offset [(0, 35), (5, 70), (7, 86)] 102 4 = 102 from rfl) (by decide) ?_
  refine fz_aload_n kX11_tells rfl rfl ?_
  refine fz_iload_n kX11_tells rfl rfl ?_
  refine fz_iload_n kX11_tells rfl rfl ?_
  refine fz_callS (d' := 0) (M' := mX11_above) (As := [fz_i 4]) (st := [fz_i b, fz_r 53]) kX11_tells rfl rfl vX11_above rfl rfl (Nat.le_of_ble_eq_true rfl) (Nat.le_of_ble_eq_true rfl) (by decide) (sX11_above_4 h hI  ) (fun H2 r3 q4 o5 => ?_)
  obtain ⟨e6, y8, rfl, f7⟩ := q4
  subst H2
  clear o5
  refine fz_eqi (show y8 = 1 by omega) ?_
  refine fz_iload_n kX11_tells rfl rfl ?_
  refine fz_callV (d' := 10) (M' := mX11_tells) (As := [fz_i b, fz_i 1, fz_i x]) (st := []) kX11_tells rfl rfl vX11_tells rfl rfl rfl rfl (Nat.le_of_ble_eq_true rfl) (Nat.le_of_ble_eq_true rfl) (by decide) (sX11_tells_7_1 h hI b x (by omega) (by omega) (by omega)) (fun H9 r10 q11 o12 => ?_)
  obtain ⟨hI13, hf14, y19, rfl, f15, f16, f17, f18⟩ := q11
  clear o12
  have hf20 := fz_fr_tr hf hf14 (show fz_su [(53, 46), (82, 99999)] [(53, 46), (82, 99999)] = true from rfl)
  exact fz_iret kX11_tells rfl rfl (fun _ => ⟨hI13, hf20, _, rfl, (by omega), (by first | rfl | (rw [f16, lost]) | (rw [f16]) | (exfalso; omega)), (by simp only [List.length_cons, List.length_nil]; omega), (by first | exact fz_tc2 lost f18 lost (by omega) (by simp only [List.length_cons, List.length_nil]; omega) | exact fz_tc1 lost f18 (by omega) | exact fz_tc0 lost | exact f18 | (exfalso; omega))⟩)

abbrev qX11_tells_7_7 (h : fz_H) (b x : Int) : fz_H → Option fz_V → Prop := fun h' r0 => fz_Iv h' ∧ fz_fr [(53, 46), (82, 99999)] h h' ∧ ∃ r : Int, r0 = some (fz_i r) ∧ (h' 53 46 = h 53 46 + 14) ∧ (r = fz_w (fz_w (fz_w (fz_w (fz_w (fz_w (x + b) + 3) * 2) + fz_w (fz_xor 2 b - fz_w (fz_w (2 + b) + 3))) - fz_w (fz_xor 1 b - fz_w (fz_w (2 + b) + 3))) - 1)) ∧ (h' 53 46 = h 53 46 + ([81, 2, 80, 10, 20, 1, 50, 11, 20, 1, 50, 11, 20, 1] : List Int).length) ∧ (h' 82 = fz_tr (h 82) (h 53 46) [81, 2, 80, 10, 20, 1, 50, 11, 20, 1, 50, 11, 20, 1])
set_option maxHeartbeats 1000000 in
set_option maxRecDepth 100000 in
theorem sX11_tells_7_7 (h : fz_H) (hI : fz_Iv h) (b x : Int) (hp0 : 0 ≤ b ∧ b ≤ 49) (hp1 : h 53 46 ≤ 886) (hp2 : h 81 b.toNat = 7) : fz_R 12 mX11_tells 0 [(0, fz_r 53), (1, fz_i b), (2, fz_i 7), (3, fz_i x)] [] h (qX11_tells_7_7 h b x) := by
  refine fz_knowl (fun hk => ?_)
  have hr_b : -2147483648 ≤ b ∧ b < 2147483648 := hk _ (List.Mem.tail _ (List.Mem.head _))
  have hr_x : -2147483648 ≤ x ∧ x < 2147483648 := hk _ (List.Mem.tail _ (List.Mem.tail _ (List.Mem.tail _ (List.Mem.head _))))
  clear hk
  have hf : fz_fr [(53, 46), (82, 99999)] h h := fz_fr_rf
  have b1 : 0 ≤ h 53 46 ∧ h 53 46 ≤ 1000 := hI.1 53 _
  refine fz_iload_n kX11_tells rfl rfl ?_
  refine fz_lsw (tgt := 87) kX11_tells rfl (by decide) (show Op.lookupswitch.offset [(0, 35), (5, 70), (7, 86)] 102 7 = 86 from rfl) (by decide) ?_
  refine fz_aload_n kX11_tells rfl rfl ?_
  refine fz_bipush ⟨by decide, by decide⟩ kX11_tells rfl ?_
  refine fz_callV (d' := 0) (M' := mX11_ran) (As := [fz_i 81]) (st := []) kX11_tells rfl rfl vX11_ran rfl rfl rfl rfl (Nat.le_of_ble_eq_true rfl) (Nat.le_of_ble_eq_true rfl) (by decide) (sX11_ran h hI 81 (by omega)) (fun H2 r3 q4 o5 => ?_)
  obtain ⟨hI6, hf7, rfl, f8, f9⟩ := q4
  clear o5
  have hf10 := fz_fr_tr hf hf7 (show fz_su [(53, 46), (82, 99999)] [(53, 46), (82, 99999)] = true from rfl)
  refine fz_aload_n kX11_tells rfl rfl ?_
  refine fz_iload_n kX11_tells rfl rfl ?_
  refine fz_iconst ⟨by decide, by decide⟩ kX11_tells rfl ?_
  refine fz_iload_n kX11_tells rfl rfl ?_
  have b11 : 0 ≤ H2 53 46 ∧ H2 53 46 ≤ 1000 := hI6.1 53 _
  have e12 : H2 81 b.toNat = h 81 b.toNat := hf10 81 _ rfl
  refine fz_callV (d' := 11) (M' := mX11_tells) (As := [fz_i b, fz_i 4, fz_i x]) (st := []) kX11_tells rfl rfl vX11_tells rfl rfl rfl rfl (Nat.le_of_ble_eq_true rfl) (Nat.le_of_ble_eq_true rfl) (by decide) (sX11_tells_7_4 H2 hI6 b x (by omega) (by omega) (by omega)) (fun H13 r14 q15 o16 => ?_)
  obtain ⟨hI17, hf18, y23, rfl, f19, f20, f21, f22⟩ := q15
  clear o16
  have hf24 := fz_fr_tr hf10 hf18 (show fz_su [(53, 46), (82, 99999)] [(53, 46), (82, 99999)] = true from rfl)
  refine fz_iconst ⟨by decide, by decide⟩ kX11_tells rfl ?_
  refine fz_isub kX11_tells rfl ?_
  have b25 := fz_w_b (y23 - 1)
  exact fz_iret kX11_tells rfl rfl (fun _ => ⟨hI17, hf24, _, rfl, (by omega), (by first | rfl | (rw [f20, lost]) | (rw [f20]) | (exfalso; omega)), (by simp only [List.length_cons, List.length_nil]; omega), (by first | exact fz_tc2 f9 f22 lost (by omega) (by simp only [List.length_cons, List.length_nil]; omega) | exact fz_tc1 f9 f22 (by omega) | exact fz_tc0 f9 | exact f22 | (exfalso; omega))⟩)

abbrev qX11_act (h : fz_H) (b ac x : Int) : fz_H → Option fz_V → Prop := fun h' r0 => fz_Iv h' ∧ fz_fr [(53, 46), (82, 99999)] h h' ∧ ∃ r : Int, r0 = some (fz_i r) ∧ (r = fz_act (h 53 44) (h 81 b.toNat) b ac x) ∧ (fz_aT h h' 82 53 46 (fz_atr (h 53 44) (h 81 b.toNat) b ac))
set_option maxHeartbeats 1000000 in
set_option maxRecDepth 100000 in
theorem sX11_act (h : fz_H) (hI : fz_Iv h) (b ac x : Int) : fz_R 13 mX11_act 0 [(0, fz_r 53), (1, fz_i b), (2, fz_i ac), (3, fz_i x)] [] h (qX11_act h b ac x) := by
  refine fz_knowl (fun hk => ?_)
  have hr_b : -2147483648 ≤ b ∧ b < 2147483648 := hk _ (List.Mem.tail _ (List.Mem.head _))
  have hr_ac : -2147483648 ≤ ac ∧ ac < 2147483648 := hk _ (List.Mem.tail _ (List.Mem.tail _ (List.Mem.head _)))
  have hr_x : -2147483648 ≤ x ∧ x < 2147483648 := hk _ (List.Mem.tail _ (List.Mem.tail _ (List.Mem.tail _ (List.Mem.head _))))
  clear hk
  have hf : fz_fr [(53, 46), (82, 99999)] h h := fz_fr_rf
  have b1 : 0 ≤ h 53 44 ∧ h 53 44 ≤ 50 := hI.1 53 _
  refine fz_aload_n kX11_act rfl rfl ?_
  refine fz_iconst ⟨by decide, by decide⟩ kX11_act rfl ?_
  refine fz_putI kX11_act rfl rfl rfl ?_
  refine fz_nmu (S := [(53, 46), (82, 99999)]) (h0 := h) (fz_Iv_up hI (by decide) (show (0 : Int) ≤ 0 by decide) (show (0 : Int) ≤ 1000 by decide)) (fz_fr_up hf rfl) (fun H2 hI3 hf4 e5 => ?_)
  have k6 : H2 53 46 = 0 := by rw [e5]; exact fz_up_e
  refine fz_iload_n kX11_act rfl rfl ?_
  refine fz_iconst ⟨by decide, by decide⟩ kX11_act rfl ?_
  refine fz_aload_n kX11_act rfl rfl ?_
  refine fz_getV (v := h 53 44) kX11_act rfl rfl (hf4 53 44 rfl) ?_
  have b7 : 0 ≤ h 53 44 ∧ h 53 44 ≤ 50 := hI.1 53 _
  refine fz_iconst ⟨by decide, by decide⟩ kX11_act rfl ?_
  refine fz_isubN kX11_act rfl (by omega) ?_
  refine fz_callS (d' := 0) (M' := mX11_within) (As := [fz_i b, fz_i 0, fz_i ((h 53 44) - 1)]) (st := []) kX11_act rfl rfl vX11_within rfl rfl (Nat.le_of_ble_eq_true rfl) (Nat.le_of_ble_eq_true rfl) (by decide) (sX11_within H2 hI3 b 0 ((h 53 44) - 1) ) (fun H8 r9 q10 o11 => ?_)
  obtain ⟨e12, y13, rfl, p14⟩ := q10
  subst H8
  clear o11
  rcases p14 with ⟨rfl, c15⟩ | ⟨rfl, c15⟩
  · refine fz_if_eq (tgt := 28) kX11_act rfl (by decide) (fun c16 => ?_) (fun c16 => ?_)
    · exfalso; omega
    · refine fz_iload_n kX11_act rfl rfl ?_
      refine fz_iconst ⟨by decide, by decide⟩ kX11_act rfl ?_
      refine fz_iconst ⟨by decide, by decide⟩ kX11_act rfl ?_
      refine fz_callS (d' := 0) (M' := mX11_within) (As := [fz_i ac, fz_i 0, fz_i 3]) (st := []) kX11_act rfl rfl vX11_within rfl rfl (Nat.le_of_ble_eq_true rfl) (Nat.le_of_ble_eq_true rfl) (by decide) (sX11_within H2 hI3 ac 0 3 ) (fun H17 r18 q19 o20 => ?_)
      obtain ⟨e21, y22, rfl, p23⟩ := q19
      subst H17
      clear o20
      rcases p23 with ⟨rfl, c24⟩ | ⟨rfl, c24⟩
      · refine fz_if_ne (tgt := 30) kX11_act rfl (by decide) (fun c25 => ?_) (fun c25 => ?_)
        · refine fz_aload_n kX11_act rfl rfl ?_
          refine fz_getR (t := 81) kX11_act rfl rfl ?_
          refine fz_iload_n kX11_act rfl rfl ?_
          refine fz_ialdV (n := 50) (v := h 81 (b.toNat)) kX11_act rfl rfl (by omega) (by omega) (hf4 81 _ rfl) ?_
          have b26 : 0 ≤ h 81 (b.toNat) ∧ h 81 (b.toNat) ≤ 7 := hI.1 81 _
          rcases (show (h 81 (b.toNat)) = 0 ∨ (h 81 (b.toNat)) = 1 ∨ (h 81 (b.toNat)) = 2 ∨ (h 81 (b.toNat)) = 3 ∨ (h 81 (b.toNat)) = 4 ∨ (h 81 (b.toNat)) = 5 ∨ (h 81 (b.toNat)) = 6 ∨ (h 81 (b.toNat)) = 7 by omega) with c27 | c27 | c27 | c27 | c27 | c27 | c27 | c27
          · refine fz_eqi c27 ?_
            refine fz_istore (ls' := [(4, fz_i 0), (0, fz_r 53), (1, fz_i b), (2, fz_i ac), (3, fz_i x)]) kX11_act rfl (by decide) rfl ?_
            refine fz_iload_n kX11_act rfl rfl ?_
            refine fz_if_ne (tgt := 53) kX11_act rfl (by decide) (fun c28 => ?_) (fun c28 => ?_)
            · refine fz_iload_n kX11_act rfl rfl ?_
              refine fz_iconst ⟨by decide, by decide⟩ kX11_act rfl ?_
              refine fz_icmp_ne (tgt := 69) kX11_act rfl (by decide) (fun c29 => ?_) (fun c29 => ?_)
              · refine fz_iload_n kX11_act rfl rfl ?_
                refine fz_iconst ⟨by decide, by decide⟩ kX11_act rfl ?_
                refine fz_icmp_ne (tgt := 85) kX11_act rfl (by decide) (fun c30 => ?_) (fun c30 => ?_)
                · refine fz_aload_n kX11_act rfl rfl ?_
                  refine fz_iload_n kX11_act rfl rfl ?_
                  refine fz_iload kX11_act rfl rfl ?_
                  refine fz_iload_n kX11_act rfl rfl ?_
                  have b31 : 0 ≤ H2 53 46 ∧ H2 53 46 ≤ 1000 := hI3.1 53 _
                  have e32 : H2 81 b.toNat = h 81 b.toNat := hf4 81 _ rfl
                  refine fz_callV (d' := 3) (M' := mX11_tells) (As := [fz_i b, fz_i 0, fz_i x]) (st := []) kX11_act rfl rfl vX11_tells rfl rfl rfl rfl (Nat.le_of_ble_eq_true rfl) (Nat.le_of_ble_eq_true rfl) (by decide) (sX11_tells_0_0 H2 hI3 b x (by omega) (by omega) (by omega)) (fun H33 r34 q35 o36 => ?_)
                  obtain ⟨hI37, hf38, y43, rfl, f39, f40, f41, f42⟩ := q35
                  clear o36
                  have hf44 := fz_fr_tr hf4 hf38 (show fz_su [(53, 46), (82, 99999)] [(53, 46), (82, 99999)] = true from rfl)
                  exact fz_iret kX11_act rfl rfl (fun _ => ⟨hI37, hf44, _, rfl, (by first | exact f40.trans (fz_act_k 0 3 (by omega) (by omega) (by omega)).symm | exact fz_act_0 (by omega)), (by first | exact fz_aT_in (by rw [e5, fz_up_ne (by decide)]) (by omega) f42 f41 (by omega) (fz_atr_k 0 3 (by omega) (by omega) (by omega)) | exact fz_aT_0 e5 (by decide) (fz_atr_0 (by omega)))⟩)
                · refine fz_aload_n kX11_act rfl rfl ?_
                  refine fz_iload_n kX11_act rfl rfl ?_
                  refine fz_iload kX11_act rfl rfl ?_
                  refine fz_iload_n kX11_act rfl rfl ?_
                  have b47 : 0 ≤ H2 53 46 ∧ H2 53 46 ≤ 1000 := hI3.1 53 _
                  have e48 : H2 81 b.toNat = h 81 b.toNat := hf4 81 _ rfl
                  refine fz_callV (d' := 1) (M' := mX11_fades) (As := [fz_i b, fz_i 0, fz_i x]) (st := []) kX11_act rfl rfl vX11_fades rfl rfl rfl rfl (Nat.le_of_ble_eq_true rfl) (Nat.le_of_ble_eq_true rfl) (by decide) (sX11_fades_0_0 H2 hI3 b x (by omega) (by omega) (by omega)) (fun H49 r50 q51 o52 => ?_)
                  obtain ⟨hI53, hf54, y59, rfl, f55, f56, f57, f58⟩ := q51
                  clear o52
                  have hf60 := fz_fr_tr hf4 hf54 (show fz_su [(53, 46), (82, 99999)] [(53, 46), (82, 99999)] = true from rfl)
                  refine fz_goto (tgt := 93) kX11_act rfl (by decide) ?_
                  exact fz_iret kX11_act rfl rfl (fun _ => ⟨hI53, hf60, _, rfl, (by first | exact f56.trans (fz_act_k 0 2 (by omega) (by omega) (by omega)).symm | exact fz_act_0 (by omega)), (by first | exact fz_aT_in (by rw [e5, fz_up_ne (by decide)]) (by omega) f58 f57 (by omega) (fz_atr_k 0 2 (by omega) (by omega) (by omega)) | exact fz_aT_0 e5 (by decide) (fz_atr_0 (by omega)))⟩)
              · refine fz_aload_n kX11_act rfl rfl ?_
                refine fz_iload_n kX11_act rfl rfl ?_
                refine fz_iload kX11_act rfl rfl ?_
                refine fz_iload_n kX11_act rfl rfl ?_
                have b63 : 0 ≤ H2 53 46 ∧ H2 53 46 ≤ 1000 := hI3.1 53 _
                have e64 : H2 81 b.toNat = h 81 b.toNat := hf4 81 _ rfl
                refine fz_callV (d' := 2) (M' := mX11_says) (As := [fz_i b, fz_i 0, fz_i x]) (st := []) kX11_act rfl rfl vX11_says rfl rfl rfl rfl (Nat.le_of_ble_eq_true rfl) (Nat.le_of_ble_eq_true rfl) (by decide) (sX11_says_0_0 H2 hI3 b x (by omega) (by omega) (by omega)) (fun H65 r66 q67 o68 => ?_)
                obtain ⟨hI69, hf70, y75, rfl, f71, f72, f73, f74⟩ := q67
                clear o68
                have hf76 := fz_fr_tr hf4 hf70 (show fz_su [(53, 46), (82, 99999)] [(53, 46), (82, 99999)] = true from rfl)
                refine fz_goto (tgt := 93) kX11_act rfl (by decide) ?_
                exact fz_iret kX11_act rfl rfl (fun _ => ⟨hI69, hf76, _, rfl, (by first | exact f72.trans (fz_act_k 0 1 (by omega) (by omega) (by omega)).symm | exact fz_act_0 (by omega)), (by first | exact fz_aT_in (by rw [e5, fz_up_ne (by decide)]) (by omega) f74 f73 (by omega) (fz_atr_k 0 1 (by omega) (by omega) (by omega)) | exact fz_aT_0 e5 (by decide) (fz_atr_0 (by omega)))⟩)
            · refine fz_aload_n kX11_act rfl rfl ?_
              refine fz_iload_n kX11_act rfl rfl ?_
              refine fz_iload kX11_act rfl rfl ?_
              refine fz_iload_n kX11_act rfl rfl ?_
              have b79 : 0 ≤ H2 53 46 ∧ H2 53 46 ≤ 1000 := hI3.1 53 _
              have e80 : H2 81 b.toNat = h 81 b.toNat := hf4 81 _ rfl
              refine fz_callV (d' := 1) (M' := mX11_goes) (As := [fz_i b, fz_i 0, fz_i x]) (st := []) kX11_act rfl rfl vX11_goes rfl rfl rfl rfl (Nat.le_of_ble_eq_true rfl) (Nat.le_of_ble_eq_true rfl) (by decide) (sX11_goes_0_0 H2 hI3 b x (by omega) (by omega) (by omega)) (fun H81 r82 q83 o84 => ?_)
              obtain ⟨hI85, hf86, y91, rfl, f87, f88, f89, f90⟩ := q83
              clear o84
              have hf92 := fz_fr_tr hf4 hf86 (show fz_su [(53, 46), (82, 99999)] [(53, 46), (82, 99999)] = true from rfl)
              refine fz_goto (tgt := 93) kX11_act rfl (by decide) ?_
              exact fz_iret kX11_act rfl rfl (fun _ => ⟨hI85, hf92, _, rfl, (by first | exact f88.trans (fz_act_k 0 0 (by omega) (by omega) (by omega)).symm | exact fz_act_0 (by omega)), (by first | exact fz_aT_in (by rw [e5, fz_up_ne (by decide)]) (by omega) f90 f89 (by omega) (fz_atr_k 0 0 (by omega) (by omega) (by omega)) | exact fz_aT_0 e5 (by decide) (fz_atr_0 (by omega)))⟩)
          · refine fz_eqi c27 ?_
            refine fz_istore (ls' := [(4, fz_i 1), (0, fz_r 53), (1, fz_i b), (2, fz_i ac), (3, fz_i x)]) kX11_act rfl (by decide) rfl ?_
            refine fz_iload_n kX11_act rfl rfl ?_
            refine fz_if_ne (tgt := 53) kX11_act rfl (by decide) (fun c95 => ?_) (fun c95 => ?_)
            · refine fz_iload_n kX11_act rfl rfl ?_
              refine fz_iconst ⟨by decide, by decide⟩ kX11_act rfl ?_
              refine fz_icmp_ne (tgt := 69) kX11_act rfl (by decide) (fun c96 => ?_) (fun c96 => ?_)
              · refine fz_iload_n kX11_act rfl rfl ?_
                refine fz_iconst ⟨by decide, by decide⟩ kX11_act rfl ?_
                refine fz_icmp_ne (tgt := 85) kX11_act rfl (by decide) (fun c97 => ?_) (fun c97 => ?_)
                · refine fz_aload_n kX11_act rfl rfl ?_
                  refine fz_iload_n kX11_act rfl rfl ?_
                  refine fz_iload kX11_act rfl rfl ?_
                  refine fz_iload_n kX11_act rfl rfl ?_
                  have b98 : 0 ≤ H2 53 46 ∧ H2 53 46 ≤ 1000 := hI3.1 53 _
                  have e99 : H2 81 b.toNat = h 81 b.toNat := hf4 81 _ rfl
                  refine fz_callV (d' := 6) (M' := mX11_tells) (As := [fz_i b, fz_i 1, fz_i x]) (st := []) kX11_act rfl rfl vX11_tells rfl rfl rfl rfl (Nat.le_of_ble_eq_true rfl) (Nat.le_of_ble_eq_true rfl) (by decide) (sX11_tells_1_1 H2 hI3 b x (by omega) (by omega) (by omega)) (fun H100 r101 q102 o103 => ?_)
                  obtain ⟨hI104, hf105, y110, rfl, f106, f107, f108, f109⟩ := q102
                  clear o103
                  have hf111 := fz_fr_tr hf4 hf105 (show fz_su [(53, 46), (82, 99999)] [(53, 46), (82, 99999)] = true from rfl)
                  exact fz_iret kX11_act rfl rfl (fun _ => ⟨hI104, hf111, _, rfl, (by first | exact f107.trans (fz_act_k 1 3 (by omega) (by omega) (by omega)).symm | exact fz_act_0 (by omega)), (by first | exact fz_aT_in (by rw [e5, fz_up_ne (by decide)]) (by omega) f109 f108 (by omega) (fz_atr_k 1 3 (by omega) (by omega) (by omega)) | exact fz_aT_0 e5 (by decide) (fz_atr_0 (by omega)))⟩)
                · refine fz_aload_n kX11_act rfl rfl ?_
                  refine fz_iload_n kX11_act rfl rfl ?_
                  refine fz_iload kX11_act rfl rfl ?_
                  refine fz_iload_n kX11_act rfl rfl ?_
                  have b114 : 0 ≤ H2 53 46 ∧ H2 53 46 ≤ 1000 := hI3.1 53 _
                  have e115 : H2 81 b.toNat = h 81 b.toNat := hf4 81 _ rfl
                  refine fz_callV (d' := 2) (M' := mX11_fades) (As := [fz_i b, fz_i 1, fz_i x]) (st := []) kX11_act rfl rfl vX11_fades rfl rfl rfl rfl (Nat.le_of_ble_eq_true rfl) (Nat.le_of_ble_eq_true rfl) (by decide) (sX11_fades_1_1 H2 hI3 b x (by omega) (by omega) (by omega)) (fun H116 r117 q118 o119 => ?_)
                  obtain ⟨hI120, hf121, y126, rfl, f122, f123, f124, f125⟩ := q118
                  clear o119
                  have hf127 := fz_fr_tr hf4 hf121 (show fz_su [(53, 46), (82, 99999)] [(53, 46), (82, 99999)] = true from rfl)
                  refine fz_goto (tgt := 93) kX11_act rfl (by decide) ?_
                  exact fz_iret kX11_act rfl rfl (fun _ => ⟨hI120, hf127, _, rfl, (by first | exact f123.trans (fz_act_k 1 2 (by omega) (by omega) (by omega)).symm | exact fz_act_0 (by omega)), (by first | exact fz_aT_in (by rw [e5, fz_up_ne (by decide)]) (by omega) f125 f124 (by omega) (fz_atr_k 1 2 (by omega) (by omega) (by omega)) | exact fz_aT_0 e5 (by decide) (fz_atr_0 (by omega)))⟩)
              · refine fz_aload_n kX11_act rfl rfl ?_
                refine fz_iload_n kX11_act rfl rfl ?_
                refine fz_iload kX11_act rfl rfl ?_
                refine fz_iload_n kX11_act rfl rfl ?_
                have b130 : 0 ≤ H2 53 46 ∧ H2 53 46 ≤ 1000 := hI3.1 53 _
                have e131 : H2 81 b.toNat = h 81 b.toNat := hf4 81 _ rfl
                refine fz_callV (d' := 4) (M' := mX11_says) (As := [fz_i b, fz_i 1, fz_i x]) (st := []) kX11_act rfl rfl vX11_says rfl rfl rfl rfl (Nat.le_of_ble_eq_true rfl) (Nat.le_of_ble_eq_true rfl) (by decide) (sX11_says_1_1 H2 hI3 b x (by omega) (by omega) (by omega)) (fun H132 r133 q134 o135 => ?_)
                obtain ⟨hI136, hf137, y142, rfl, f138, f139, f140, f141⟩ := q134
                clear o135
                have hf143 := fz_fr_tr hf4 hf137 (show fz_su [(53, 46), (82, 99999)] [(53, 46), (82, 99999)] = true from rfl)
                refine fz_goto (tgt := 93) kX11_act rfl (by decide) ?_
                exact fz_iret kX11_act rfl rfl (fun _ => ⟨hI136, hf143, _, rfl, (by first | exact f139.trans (fz_act_k 1 1 (by omega) (by omega) (by omega)).symm | exact fz_act_0 (by omega)), (by first | exact fz_aT_in (by rw [e5, fz_up_ne (by decide)]) (by omega) f141 f140 (by omega) (fz_atr_k 1 1 (by omega) (by omega) (by omega)) | exact fz_aT_0 e5 (by decide) (fz_atr_0 (by omega)))⟩)
            · refine fz_aload_n kX11_act rfl rfl ?_
              refine fz_iload_n kX11_act rfl rfl ?_
              refine fz_iload kX11_act rfl rfl ?_
              refine fz_iload_n kX11_act rfl rfl ?_
              have b146 : 0 ≤ H2 53 46 ∧ H2 53 46 ≤ 1000 := hI3.1 53 _
              have e147 : H2 81 b.toNat = h 81 b.toNat := hf4 81 _ rfl
              refine fz_callV (d' := 2) (M' := mX11_goes) (As := [fz_i b, fz_i 1, fz_i x]) (st := []) kX11_act rfl rfl vX11_goes rfl rfl rfl rfl (Nat.le_of_ble_eq_true rfl) (Nat.le_of_ble_eq_true rfl) (by decide) (sX11_goes_1_1 H2 hI3 b x (by omega) (by omega) (by omega)) (fun H148 r149 q150 o151 => ?_)
              obtain ⟨hI152, hf153, y158, rfl, f154, f155, f156, f157⟩ := q150
              clear o151
              have hf159 := fz_fr_tr hf4 hf153 (show fz_su [(53, 46), (82, 99999)] [(53, 46), (82, 99999)] = true from rfl)
              refine fz_goto (tgt := 93) kX11_act rfl (by decide) ?_
              exact fz_iret kX11_act rfl rfl (fun _ => ⟨hI152, hf159, _, rfl, (by first | exact f155.trans (fz_act_k 1 0 (by omega) (by omega) (by omega)).symm | exact fz_act_0 (by omega)), (by first | exact fz_aT_in (by rw [e5, fz_up_ne (by decide)]) (by omega) f157 f156 (by omega) (fz_atr_k 1 0 (by omega) (by omega) (by omega)) | exact fz_aT_0 e5 (by decide) (fz_atr_0 (by omega)))⟩)
          · refine fz_eqi c27 ?_
            refine fz_istore (ls' := [(4, fz_i 2), (0, fz_r 53), (1, fz_i b), (2, fz_i ac), (3, fz_i x)]) kX11_act rfl (by decide) rfl ?_
            refine fz_iload_n kX11_act rfl rfl ?_
            refine fz_if_ne (tgt := 53) kX11_act rfl (by decide) (fun c162 => ?_) (fun c162 => ?_)
            · refine fz_iload_n kX11_act rfl rfl ?_
              refine fz_iconst ⟨by decide, by decide⟩ kX11_act rfl ?_
              refine fz_icmp_ne (tgt := 69) kX11_act rfl (by decide) (fun c163 => ?_) (fun c163 => ?_)
              · refine fz_iload_n kX11_act rfl rfl ?_
                refine fz_iconst ⟨by decide, by decide⟩ kX11_act rfl ?_
                refine fz_icmp_ne (tgt := 85) kX11_act rfl (by decide) (fun c164 => ?_) (fun c164 => ?_)
                · refine fz_aload_n kX11_act rfl rfl ?_
                  refine fz_iload_n kX11_act rfl rfl ?_
                  refine fz_iload kX11_act rfl rfl ?_
                  refine fz_iload_n kX11_act rfl rfl ?_
                  have b165 : 0 ≤ H2 53 46 ∧ H2 53 46 ≤ 1000 := hI3.1 53 _
                  have e166 : H2 81 b.toNat = h 81 b.toNat := hf4 81 _ rfl
                  refine fz_callV (d' := 6) (M' := mX11_tells) (As := [fz_i b, fz_i 2, fz_i x]) (st := []) kX11_act rfl rfl vX11_tells rfl rfl rfl rfl (Nat.le_of_ble_eq_true rfl) (Nat.le_of_ble_eq_true rfl) (by decide) (sX11_tells_2_2 H2 hI3 b x (by omega) (by omega) (by omega)) (fun H167 r168 q169 o170 => ?_)
                  obtain ⟨hI171, hf172, y177, rfl, f173, f174, f175, f176⟩ := q169
                  clear o170
                  have hf178 := fz_fr_tr hf4 hf172 (show fz_su [(53, 46), (82, 99999)] [(53, 46), (82, 99999)] = true from rfl)
                  exact fz_iret kX11_act rfl rfl (fun _ => ⟨hI171, hf178, _, rfl, (by first | exact f174.trans (fz_act_k 2 3 (by omega) (by omega) (by omega)).symm | exact fz_act_0 (by omega)), (by first | exact fz_aT_in (by rw [e5, fz_up_ne (by decide)]) (by omega) f176 f175 (by omega) (fz_atr_k 2 3 (by omega) (by omega) (by omega)) | exact fz_aT_0 e5 (by decide) (fz_atr_0 (by omega)))⟩)
                · refine fz_aload_n kX11_act rfl rfl ?_
                  refine fz_iload_n kX11_act rfl rfl ?_
                  refine fz_iload kX11_act rfl rfl ?_
                  refine fz_iload_n kX11_act rfl rfl ?_
                  have b181 : 0 ≤ H2 53 46 ∧ H2 53 46 ≤ 1000 := hI3.1 53 _
                  have e182 : H2 81 b.toNat = h 81 b.toNat := hf4 81 _ rfl
                  refine fz_callV (d' := 2) (M' := mX11_fades) (As := [fz_i b, fz_i 2, fz_i x]) (st := []) kX11_act rfl rfl vX11_fades rfl rfl rfl rfl (Nat.le_of_ble_eq_true rfl) (Nat.le_of_ble_eq_true rfl) (by decide) (sX11_fades_2_2 H2 hI3 b x (by omega) (by omega) (by omega)) (fun H183 r184 q185 o186 => ?_)
                  obtain ⟨hI187, hf188, y193, rfl, f189, f190, f191, f192⟩ := q185
                  clear o186
                  have hf194 := fz_fr_tr hf4 hf188 (show fz_su [(53, 46), (82, 99999)] [(53, 46), (82, 99999)] = true from rfl)
                  refine fz_goto (tgt := 93) kX11_act rfl (by decide) ?_
                  exact fz_iret kX11_act rfl rfl (fun _ => ⟨hI187, hf194, _, rfl, (by first | exact f190.trans (fz_act_k 2 2 (by omega) (by omega) (by omega)).symm | exact fz_act_0 (by omega)), (by first | exact fz_aT_in (by rw [e5, fz_up_ne (by decide)]) (by omega) f192 f191 (by omega) (fz_atr_k 2 2 (by omega) (by omega) (by omega)) | exact fz_aT_0 e5 (by decide) (fz_atr_0 (by omega)))⟩)
              · refine fz_aload_n kX11_act rfl rfl ?_
                refine fz_iload_n kX11_act rfl rfl ?_
                refine fz_iload kX11_act rfl rfl ?_
                refine fz_iload_n kX11_act rfl rfl ?_
                have b197 : 0 ≤ H2 53 46 ∧ H2 53 46 ≤ 1000 := hI3.1 53 _
                have e198 : H2 81 b.toNat = h 81 b.toNat := hf4 81 _ rfl
                refine fz_callV (d' := 4) (M' := mX11_says) (As := [fz_i b, fz_i 2, fz_i x]) (st := []) kX11_act rfl rfl vX11_says rfl rfl rfl rfl (Nat.le_of_ble_eq_true rfl) (Nat.le_of_ble_eq_true rfl) (by decide) (sX11_says_2_2 H2 hI3 b x (by omega) (by omega) (by omega)) (fun H199 r200 q201 o202 => ?_)
                obtain ⟨hI203, hf204, y209, rfl, f205, f206, f207, f208⟩ := q201
                clear o202
                have hf210 := fz_fr_tr hf4 hf204 (show fz_su [(53, 46), (82, 99999)] [(53, 46), (82, 99999)] = true from rfl)
                refine fz_goto (tgt := 93) kX11_act rfl (by decide) ?_
                exact fz_iret kX11_act rfl rfl (fun _ => ⟨hI203, hf210, _, rfl, (by first | exact f206.trans (fz_act_k 2 1 (by omega) (by omega) (by omega)).symm | exact fz_act_0 (by omega)), (by first | exact fz_aT_in (by rw [e5, fz_up_ne (by decide)]) (by omega) f208 f207 (by omega) (fz_atr_k 2 1 (by omega) (by omega) (by omega)) | exact fz_aT_0 e5 (by decide) (fz_atr_0 (by omega)))⟩)
            · refine fz_aload_n kX11_act rfl rfl ?_
              refine fz_iload_n kX11_act rfl rfl ?_
              refine fz_iload kX11_act rfl rfl ?_
              refine fz_iload_n kX11_act rfl rfl ?_
              have b213 : 0 ≤ H2 53 46 ∧ H2 53 46 ≤ 1000 := hI3.1 53 _
              have e214 : H2 81 b.toNat = h 81 b.toNat := hf4 81 _ rfl
              refine fz_callV (d' := 2) (M' := mX11_goes) (As := [fz_i b, fz_i 2, fz_i x]) (st := []) kX11_act rfl rfl vX11_goes rfl rfl rfl rfl (Nat.le_of_ble_eq_true rfl) (Nat.le_of_ble_eq_true rfl) (by decide) (sX11_goes_2_2 H2 hI3 b x (by omega) (by omega) (by omega)) (fun H215 r216 q217 o218 => ?_)
              obtain ⟨hI219, hf220, y225, rfl, f221, f222, f223, f224⟩ := q217
              clear o218
              have hf226 := fz_fr_tr hf4 hf220 (show fz_su [(53, 46), (82, 99999)] [(53, 46), (82, 99999)] = true from rfl)
              refine fz_goto (tgt := 93) kX11_act rfl (by decide) ?_
              exact fz_iret kX11_act rfl rfl (fun _ => ⟨hI219, hf226, _, rfl, (by first | exact f222.trans (fz_act_k 2 0 (by omega) (by omega) (by omega)).symm | exact fz_act_0 (by omega)), (by first | exact fz_aT_in (by rw [e5, fz_up_ne (by decide)]) (by omega) f224 f223 (by omega) (fz_atr_k 2 0 (by omega) (by omega) (by omega)) | exact fz_aT_0 e5 (by decide) (fz_atr_0 (by omega)))⟩)
          · refine fz_eqi c27 ?_
            refine fz_istore (ls' := [(4, fz_i 3), (0, fz_r 53), (1, fz_i b), (2, fz_i ac), (3, fz_i x)]) kX11_act rfl (by decide) rfl ?_
            refine fz_iload_n kX11_act rfl rfl ?_
            refine fz_if_ne (tgt := 53) kX11_act rfl (by decide) (fun c229 => ?_) (fun c229 => ?_)
            · refine fz_iload_n kX11_act rfl rfl ?_
              refine fz_iconst ⟨by decide, by decide⟩ kX11_act rfl ?_
              refine fz_icmp_ne (tgt := 69) kX11_act rfl (by decide) (fun c230 => ?_) (fun c230 => ?_)
              · refine fz_iload_n kX11_act rfl rfl ?_
                refine fz_iconst ⟨by decide, by decide⟩ kX11_act rfl ?_
                refine fz_icmp_ne (tgt := 85) kX11_act rfl (by decide) (fun c231 => ?_) (fun c231 => ?_)
                · refine fz_aload_n kX11_act rfl rfl ?_
                  refine fz_iload_n kX11_act rfl rfl ?_
                  refine fz_iload kX11_act rfl rfl ?_
                  refine fz_iload_n kX11_act rfl rfl ?_
                  have b232 : 0 ≤ H2 53 46 ∧ H2 53 46 ≤ 1000 := hI3.1 53 _
                  have e233 : H2 81 b.toNat = h 81 b.toNat := hf4 81 _ rfl
                  refine fz_callV (d' := 9) (M' := mX11_tells) (As := [fz_i b, fz_i 3, fz_i x]) (st := []) kX11_act rfl rfl vX11_tells rfl rfl rfl rfl (Nat.le_of_ble_eq_true rfl) (Nat.le_of_ble_eq_true rfl) (by decide) (sX11_tells_3_3 H2 hI3 b x (by omega) (by omega) (by omega)) (fun H234 r235 q236 o237 => ?_)
                  obtain ⟨hI238, hf239, y244, rfl, f240, f241, f242, f243⟩ := q236
                  clear o237
                  have hf245 := fz_fr_tr hf4 hf239 (show fz_su [(53, 46), (82, 99999)] [(53, 46), (82, 99999)] = true from rfl)
                  exact fz_iret kX11_act rfl rfl (fun _ => ⟨hI238, hf245, _, rfl, (by first | exact f241.trans (fz_act_k 3 3 (by omega) (by omega) (by omega)).symm | exact fz_act_0 (by omega)), (by first | exact fz_aT_in (by rw [e5, fz_up_ne (by decide)]) (by omega) f243 f242 (by omega) (fz_atr_k 3 3 (by omega) (by omega) (by omega)) | exact fz_aT_0 e5 (by decide) (fz_atr_0 (by omega)))⟩)
                · refine fz_aload_n kX11_act rfl rfl ?_
                  refine fz_iload_n kX11_act rfl rfl ?_
                  refine fz_iload kX11_act rfl rfl ?_
                  refine fz_iload_n kX11_act rfl rfl ?_
                  have b248 : 0 ≤ H2 53 46 ∧ H2 53 46 ≤ 1000 := hI3.1 53 _
                  have e249 : H2 81 b.toNat = h 81 b.toNat := hf4 81 _ rfl
                  refine fz_callV (d' := 3) (M' := mX11_fades) (As := [fz_i b, fz_i 3, fz_i x]) (st := []) kX11_act rfl rfl vX11_fades rfl rfl rfl rfl (Nat.le_of_ble_eq_true rfl) (Nat.le_of_ble_eq_true rfl) (by decide) (sX11_fades_3_3 H2 hI3 b x (by omega) (by omega) (by omega)) (fun H250 r251 q252 o253 => ?_)
                  obtain ⟨hI254, hf255, y260, rfl, f256, f257, f258, f259⟩ := q252
                  clear o253
                  have hf261 := fz_fr_tr hf4 hf255 (show fz_su [(53, 46), (82, 99999)] [(53, 46), (82, 99999)] = true from rfl)
                  refine fz_goto (tgt := 93) kX11_act rfl (by decide) ?_
                  exact fz_iret kX11_act rfl rfl (fun _ => ⟨hI254, hf261, _, rfl, (by first | exact f257.trans (fz_act_k 3 2 (by omega) (by omega) (by omega)).symm | exact fz_act_0 (by omega)), (by first | exact fz_aT_in (by rw [e5, fz_up_ne (by decide)]) (by omega) f259 f258 (by omega) (fz_atr_k 3 2 (by omega) (by omega) (by omega)) | exact fz_aT_0 e5 (by decide) (fz_atr_0 (by omega)))⟩)
              · refine fz_aload_n kX11_act rfl rfl ?_
                refine fz_iload_n kX11_act rfl rfl ?_
                refine fz_iload kX11_act rfl rfl ?_
                refine fz_iload_n kX11_act rfl rfl ?_
                have b264 : 0 ≤ H2 53 46 ∧ H2 53 46 ≤ 1000 := hI3.1 53 _
                have e265 : H2 81 b.toNat = h 81 b.toNat := hf4 81 _ rfl
                refine fz_callV (d' := 6) (M' := mX11_says) (As := [fz_i b, fz_i 3, fz_i x]) (st := []) kX11_act rfl rfl vX11_says rfl rfl rfl rfl (Nat.le_of_ble_eq_true rfl) (Nat.le_of_ble_eq_true rfl) (by decide) (sX11_says_3_3 H2 hI3 b x (by omega) (by omega) (by omega)) (fun H266 r267 q268 o269 => ?_)
                obtain ⟨hI270, hf271, y276, rfl, f272, f273, f274, f275⟩ := q268
                clear o269
                have hf277 := fz_fr_tr hf4 hf271 (show fz_su [(53, 46), (82, 99999)] [(53, 46), (82, 99999)] = true from rfl)
                refine fz_goto (tgt := 93) kX11_act rfl (by decide) ?_
                exact fz_iret kX11_act rfl rfl (fun _ => ⟨hI270, hf277, _, rfl, (by first | exact f273.trans (fz_act_k 3 1 (by omega) (by omega) (by omega)).symm | exact fz_act_0 (by omega)), (by first | exact fz_aT_in (by rw [e5, fz_up_ne (by decide)]) (by omega) f275 f274 (by omega) (fz_atr_k 3 1 (by omega) (by omega) (by omega)) | exact fz_aT_0 e5 (by decide) (fz_atr_0 (by omega)))⟩)
            · refine fz_aload_n kX11_act rfl rfl ?_
              refine fz_iload_n kX11_act rfl rfl ?_
              refine fz_iload kX11_act rfl rfl ?_
              refine fz_iload_n kX11_act rfl rfl ?_
              have b280 : 0 ≤ H2 53 46 ∧ H2 53 46 ≤ 1000 := hI3.1 53 _
              have e281 : H2 81 b.toNat = h 81 b.toNat := hf4 81 _ rfl
              refine fz_callV (d' := 3) (M' := mX11_goes) (As := [fz_i b, fz_i 3, fz_i x]) (st := []) kX11_act rfl rfl vX11_goes rfl rfl rfl rfl (Nat.le_of_ble_eq_true rfl) (Nat.le_of_ble_eq_true rfl) (by decide) (sX11_goes_3_3 H2 hI3 b x (by omega) (by omega) (by omega)) (fun H282 r283 q284 o285 => ?_)
              obtain ⟨hI286, hf287, y292, rfl, f288, f289, f290, f291⟩ := q284
              clear o285
              have hf293 := fz_fr_tr hf4 hf287 (show fz_su [(53, 46), (82, 99999)] [(53, 46), (82, 99999)] = true from rfl)
              refine fz_goto (tgt := 93) kX11_act rfl (by decide) ?_
              exact fz_iret kX11_act rfl rfl (fun _ => ⟨hI286, hf293, _, rfl, (by first | exact f289.trans (fz_act_k 3 0 (by omega) (by omega) (by omega)).symm | exact fz_act_0 (by omega)), (by first | exact fz_aT_in (by rw [e5, fz_up_ne (by decide)]) (by omega) f291 f290 (by omega) (fz_atr_k 3 0 (by omega) (by omega) (by omega)) | exact fz_aT_0 e5 (by decide) (fz_atr_0 (by omega)))⟩)
          · refine fz_eqi c27 ?_
            refine fz_istore (ls' := [(4, fz_i 4), (0, fz_r 53), (1, fz_i b), (2, fz_i ac), (3, fz_i x)]) kX11_act rfl (by decide) rfl ?_
            refine fz_iload_n kX11_act rfl rfl ?_
            refine fz_if_ne (tgt := 53) kX11_act rfl (by decide) (fun c296 => ?_) (fun c296 => ?_)
            · refine fz_iload_n kX11_act rfl rfl ?_
              refine fz_iconst ⟨by decide, by decide⟩ kX11_act rfl ?_
              refine fz_icmp_ne (tgt := 69) kX11_act rfl (by decide) (fun c297 => ?_) (fun c297 => ?_)
              · refine fz_iload_n kX11_act rfl rfl ?_
                refine fz_iconst ⟨by decide, by decide⟩ kX11_act rfl ?_
                refine fz_icmp_ne (tgt := 85) kX11_act rfl (by decide) (fun c298 => ?_) (fun c298 => ?_)
                · refine fz_aload_n kX11_act rfl rfl ?_
                  refine fz_iload_n kX11_act rfl rfl ?_
                  refine fz_iload kX11_act rfl rfl ?_
                  refine fz_iload_n kX11_act rfl rfl ?_
                  have b299 : 0 ≤ H2 53 46 ∧ H2 53 46 ≤ 1000 := hI3.1 53 _
                  have e300 : H2 81 b.toNat = h 81 b.toNat := hf4 81 _ rfl
                  refine fz_callV (d' := 9) (M' := mX11_tells) (As := [fz_i b, fz_i 4, fz_i x]) (st := []) kX11_act rfl rfl vX11_tells rfl rfl rfl rfl (Nat.le_of_ble_eq_true rfl) (Nat.le_of_ble_eq_true rfl) (by decide) (sX11_tells_4_4 H2 hI3 b x (by omega) (by omega) (by omega)) (fun H301 r302 q303 o304 => ?_)
                  obtain ⟨hI305, hf306, y311, rfl, f307, f308, f309, f310⟩ := q303
                  clear o304
                  have hf312 := fz_fr_tr hf4 hf306 (show fz_su [(53, 46), (82, 99999)] [(53, 46), (82, 99999)] = true from rfl)
                  exact fz_iret kX11_act rfl rfl (fun _ => ⟨hI305, hf312, _, rfl, (by first | exact f308.trans (fz_act_k 4 3 (by omega) (by omega) (by omega)).symm | exact fz_act_0 (by omega)), (by first | exact fz_aT_in (by rw [e5, fz_up_ne (by decide)]) (by omega) f310 f309 (by omega) (fz_atr_k 4 3 (by omega) (by omega) (by omega)) | exact fz_aT_0 e5 (by decide) (fz_atr_0 (by omega)))⟩)
                · refine fz_aload_n kX11_act rfl rfl ?_
                  refine fz_iload_n kX11_act rfl rfl ?_
                  refine fz_iload kX11_act rfl rfl ?_
                  refine fz_iload_n kX11_act rfl rfl ?_
                  have b315 : 0 ≤ H2 53 46 ∧ H2 53 46 ≤ 1000 := hI3.1 53 _
                  have e316 : H2 81 b.toNat = h 81 b.toNat := hf4 81 _ rfl
                  refine fz_callV (d' := 4) (M' := mX11_fades) (As := [fz_i b, fz_i 4, fz_i x]) (st := []) kX11_act rfl rfl vX11_fades rfl rfl rfl rfl (Nat.le_of_ble_eq_true rfl) (Nat.le_of_ble_eq_true rfl) (by decide) (sX11_fades_4_4 H2 hI3 b x (by omega) (by omega) (by omega)) (fun H317 r318 q319 o320 => ?_)
                  obtain ⟨hI321, hf322, y327, rfl, f323, f324, f325, f326⟩ := q319
                  clear o320
                  have hf328 := fz_fr_tr hf4 hf322 (show fz_su [(53, 46), (82, 99999)] [(53, 46), (82, 99999)] = true from rfl)
                  refine fz_goto (tgt := 93) kX11_act rfl (by decide) ?_
                  exact fz_iret kX11_act rfl rfl (fun _ => ⟨hI321, hf328, _, rfl, (by first | exact f324.trans (fz_act_k 4 2 (by omega) (by omega) (by omega)).symm | exact fz_act_0 (by omega)), (by first | exact fz_aT_in (by rw [e5, fz_up_ne (by decide)]) (by omega) f326 f325 (by omega) (fz_atr_k 4 2 (by omega) (by omega) (by omega)) | exact fz_aT_0 e5 (by decide) (fz_atr_0 (by omega)))⟩)
              · refine fz_aload_n kX11_act rfl rfl ?_
                refine fz_iload_n kX11_act rfl rfl ?_
                refine fz_iload kX11_act rfl rfl ?_
                refine fz_iload_n kX11_act rfl rfl ?_
                have b331 : 0 ≤ H2 53 46 ∧ H2 53 46 ≤ 1000 := hI3.1 53 _
                have e332 : H2 81 b.toNat = h 81 b.toNat := hf4 81 _ rfl
                refine fz_callV (d' := 6) (M' := mX11_says) (As := [fz_i b, fz_i 4, fz_i x]) (st := []) kX11_act rfl rfl vX11_says rfl rfl rfl rfl (Nat.le_of_ble_eq_true rfl) (Nat.le_of_ble_eq_true rfl) (by decide) (sX11_says_4_4 H2 hI3 b x (by omega) (by omega) (by omega)) (fun H333 r334 q335 o336 => ?_)
                obtain ⟨hI337, hf338, y343, rfl, f339, f340, f341, f342⟩ := q335
                clear o336
                have hf344 := fz_fr_tr hf4 hf338 (show fz_su [(53, 46), (82, 99999)] [(53, 46), (82, 99999)] = true from rfl)
                refine fz_goto (tgt := 93) kX11_act rfl (by decide) ?_
                exact fz_iret kX11_act rfl rfl (fun _ => ⟨hI337, hf344, _, rfl, (by first | exact f340.trans (fz_act_k 4 1 (by omega) (by omega) (by omega)).symm | exact fz_act_0 (by omega)), (by first | exact fz_aT_in (by rw [e5, fz_up_ne (by decide)]) (by omega) f342 f341 (by omega) (fz_atr_k 4 1 (by omega) (by omega) (by omega)) | exact fz_aT_0 e5 (by decide) (fz_atr_0 (by omega)))⟩)
            · refine fz_aload_n kX11_act rfl rfl ?_
              refine fz_iload_n kX11_act rfl rfl ?_
              refine fz_iload kX11_act rfl rfl ?_
              refine fz_iload_n kX11_act rfl rfl ?_
              have b347 : 0 ≤ H2 53 46 ∧ H2 53 46 ≤ 1000 := hI3.1 53 _
              have e348 : H2 81 b.toNat = h 81 b.toNat := hf4 81 _ rfl
              refine fz_callV (d' := 3) (M' := mX11_goes) (As := [fz_i b, fz_i 4, fz_i x]) (st := []) kX11_act rfl rfl vX11_goes rfl rfl rfl rfl (Nat.le_of_ble_eq_true rfl) (Nat.le_of_ble_eq_true rfl) (by decide) (sX11_goes_4_4 H2 hI3 b x (by omega) (by omega) (by omega)) (fun H349 r350 q351 o352 => ?_)
              obtain ⟨hI353, hf354, y359, rfl, f355, f356, f357, f358⟩ := q351
              clear o352
              have hf360 := fz_fr_tr hf4 hf354 (show fz_su [(53, 46), (82, 99999)] [(53, 46), (82, 99999)] = true from rfl)
              refine fz_goto (tgt := 93) kX11_act rfl (by decide) ?_
              exact fz_iret kX11_act rfl rfl (fun _ => ⟨hI353, hf360, _, rfl, (by first | exact f356.trans (fz_act_k 4 0 (by omega) (by omega) (by omega)).symm | exact fz_act_0 (by omega)), (by first | exact fz_aT_in (by rw [e5, fz_up_ne (by decide)]) (by omega) f358 f357 (by omega) (fz_atr_k 4 0 (by omega) (by omega) (by omega)) | exact fz_aT_0 e5 (by decide) (fz_atr_0 (by omega)))⟩)
          · refine fz_eqi c27 ?_
            refine fz_istore (ls' := [(4, fz_i 5), (0, fz_r 53), (1, fz_i b), (2, fz_i ac), (3, fz_i x)]) kX11_act rfl (by decide) rfl ?_
            refine fz_iload_n kX11_act rfl rfl ?_
            refine fz_if_ne (tgt := 53) kX11_act rfl (by decide) (fun c363 => ?_) (fun c363 => ?_)
            · refine fz_iload_n kX11_act rfl rfl ?_
              refine fz_iconst ⟨by decide, by decide⟩ kX11_act rfl ?_
              refine fz_icmp_ne (tgt := 69) kX11_act rfl (by decide) (fun c364 => ?_) (fun c364 => ?_)
              · refine fz_iload_n kX11_act rfl rfl ?_
                refine fz_iconst ⟨by decide, by decide⟩ kX11_act rfl ?_
                refine fz_icmp_ne (tgt := 85) kX11_act rfl (by decide) (fun c365 => ?_) (fun c365 => ?_)
                · refine fz_aload_n kX11_act rfl rfl ?_
                  refine fz_iload_n kX11_act rfl rfl ?_
                  refine fz_iload kX11_act rfl rfl ?_
                  refine fz_iload_n kX11_act rfl rfl ?_
                  have b366 : 0 ≤ H2 53 46 ∧ H2 53 46 ≤ 1000 := hI3.1 53 _
                  have e367 : H2 81 b.toNat = h 81 b.toNat := hf4 81 _ rfl
                  refine fz_callV (d' := 12) (M' := mX11_tells) (As := [fz_i b, fz_i 5, fz_i x]) (st := []) kX11_act rfl rfl vX11_tells rfl rfl rfl rfl (Nat.le_of_ble_eq_true rfl) (Nat.le_of_ble_eq_true rfl) (by decide) (sX11_tells_5_5 H2 hI3 b x (by omega) (by omega) (by omega)) (fun H368 r369 q370 o371 => ?_)
                  obtain ⟨hI372, hf373, y378, rfl, f374, f375, f376, f377⟩ := q370
                  clear o371
                  have hf379 := fz_fr_tr hf4 hf373 (show fz_su [(53, 46), (82, 99999)] [(53, 46), (82, 99999)] = true from rfl)
                  exact fz_iret kX11_act rfl rfl (fun _ => ⟨hI372, hf379, _, rfl, (by first | exact f375.trans (fz_act_k 5 3 (by omega) (by omega) (by omega)).symm | exact fz_act_0 (by omega)), (by first | exact fz_aT_in (by rw [e5, fz_up_ne (by decide)]) (by omega) f377 f376 (by omega) (fz_atr_k 5 3 (by omega) (by omega) (by omega)) | exact fz_aT_0 e5 (by decide) (fz_atr_0 (by omega)))⟩)
                · refine fz_aload_n kX11_act rfl rfl ?_
                  refine fz_iload_n kX11_act rfl rfl ?_
                  refine fz_iload kX11_act rfl rfl ?_
                  refine fz_iload_n kX11_act rfl rfl ?_
                  have b382 : 0 ≤ H2 53 46 ∧ H2 53 46 ≤ 1000 := hI3.1 53 _
                  have e383 : H2 81 b.toNat = h 81 b.toNat := hf4 81 _ rfl
                  refine fz_callV (d' := 4) (M' := mX11_fades) (As := [fz_i b, fz_i 5, fz_i x]) (st := []) kX11_act rfl rfl vX11_fades rfl rfl rfl rfl (Nat.le_of_ble_eq_true rfl) (Nat.le_of_ble_eq_true rfl) (by decide) (sX11_fades_5_5 H2 hI3 b x (by omega) (by omega) (by omega)) (fun H384 r385 q386 o387 => ?_)
                  obtain ⟨hI388, hf389, y394, rfl, f390, f391, f392, f393⟩ := q386
                  clear o387
                  have hf395 := fz_fr_tr hf4 hf389 (show fz_su [(53, 46), (82, 99999)] [(53, 46), (82, 99999)] = true from rfl)
                  refine fz_goto (tgt := 93) kX11_act rfl (by decide) ?_
                  exact fz_iret kX11_act rfl rfl (fun _ => ⟨hI388, hf395, _, rfl, (by first | exact f391.trans (fz_act_k 5 2 (by omega) (by omega) (by omega)).symm | exact fz_act_0 (by omega)), (by first | exact fz_aT_in (by rw [e5, fz_up_ne (by decide)]) (by omega) f393 f392 (by omega) (fz_atr_k 5 2 (by omega) (by omega) (by omega)) | exact fz_aT_0 e5 (by decide) (fz_atr_0 (by omega)))⟩)
              · refine fz_aload_n kX11_act rfl rfl ?_
                refine fz_iload_n kX11_act rfl rfl ?_
                refine fz_iload kX11_act rfl rfl ?_
                refine fz_iload_n kX11_act rfl rfl ?_
                have b398 : 0 ≤ H2 53 46 ∧ H2 53 46 ≤ 1000 := hI3.1 53 _
                have e399 : H2 81 b.toNat = h 81 b.toNat := hf4 81 _ rfl
                refine fz_callV (d' := 8) (M' := mX11_says) (As := [fz_i b, fz_i 5, fz_i x]) (st := []) kX11_act rfl rfl vX11_says rfl rfl rfl rfl (Nat.le_of_ble_eq_true rfl) (Nat.le_of_ble_eq_true rfl) (by decide) (sX11_says_5_5 H2 hI3 b x (by omega) (by omega) (by omega)) (fun H400 r401 q402 o403 => ?_)
                obtain ⟨hI404, hf405, y410, rfl, f406, f407, f408, f409⟩ := q402
                clear o403
                have hf411 := fz_fr_tr hf4 hf405 (show fz_su [(53, 46), (82, 99999)] [(53, 46), (82, 99999)] = true from rfl)
                refine fz_goto (tgt := 93) kX11_act rfl (by decide) ?_
                exact fz_iret kX11_act rfl rfl (fun _ => ⟨hI404, hf411, _, rfl, (by first | exact f407.trans (fz_act_k 5 1 (by omega) (by omega) (by omega)).symm | exact fz_act_0 (by omega)), (by first | exact fz_aT_in (by rw [e5, fz_up_ne (by decide)]) (by omega) f409 f408 (by omega) (fz_atr_k 5 1 (by omega) (by omega) (by omega)) | exact fz_aT_0 e5 (by decide) (fz_atr_0 (by omega)))⟩)
            · refine fz_aload_n kX11_act rfl rfl ?_
              refine fz_iload_n kX11_act rfl rfl ?_
              refine fz_iload kX11_act rfl rfl ?_
              refine fz_iload_n kX11_act rfl rfl ?_
              have b414 : 0 ≤ H2 53 46 ∧ H2 53 46 ≤ 1000 := hI3.1 53 _
              have e415 : H2 81 b.toNat = h 81 b.toNat := hf4 81 _ rfl
              refine fz_callV (d' := 4) (M' := mX11_goes) (As := [fz_i b, fz_i 5, fz_i x]) (st := []) kX11_act rfl rfl vX11_goes rfl rfl rfl rfl (Nat.le_of_ble_eq_true rfl) (Nat.le_of_ble_eq_true rfl) (by decide) (sX11_goes_5_5 H2 hI3 b x (by omega) (by omega) (by omega)) (fun H416 r417 q418 o419 => ?_)
              obtain ⟨hI420, hf421, y426, rfl, f422, f423, f424, f425⟩ := q418
              clear o419
              have hf427 := fz_fr_tr hf4 hf421 (show fz_su [(53, 46), (82, 99999)] [(53, 46), (82, 99999)] = true from rfl)
              refine fz_goto (tgt := 93) kX11_act rfl (by decide) ?_
              exact fz_iret kX11_act rfl rfl (fun _ => ⟨hI420, hf427, _, rfl, (by first | exact f423.trans (fz_act_k 5 0 (by omega) (by omega) (by omega)).symm | exact fz_act_0 (by omega)), (by first | exact fz_aT_in (by rw [e5, fz_up_ne (by decide)]) (by omega) f425 f424 (by omega) (fz_atr_k 5 0 (by omega) (by omega) (by omega)) | exact fz_aT_0 e5 (by decide) (fz_atr_0 (by omega)))⟩)
          · refine fz_eqi c27 ?_
            refine fz_istore (ls' := [(4, fz_i 6), (0, fz_r 53), (1, fz_i b), (2, fz_i ac), (3, fz_i x)]) kX11_act rfl (by decide) rfl ?_
            refine fz_iload_n kX11_act rfl rfl ?_
            refine fz_if_ne (tgt := 53) kX11_act rfl (by decide) (fun c430 => ?_) (fun c430 => ?_)
            · refine fz_iload_n kX11_act rfl rfl ?_
              refine fz_iconst ⟨by decide, by decide⟩ kX11_act rfl ?_
              refine fz_icmp_ne (tgt := 69) kX11_act rfl (by decide) (fun c431 => ?_) (fun c431 => ?_)
              · refine fz_iload_n kX11_act rfl rfl ?_
                refine fz_iconst ⟨by decide, by decide⟩ kX11_act rfl ?_
                refine fz_icmp_ne (tgt := 85) kX11_act rfl (by decide) (fun c432 => ?_) (fun c432 => ?_)
                · refine fz_aload_n kX11_act rfl rfl ?_
                  refine fz_iload_n kX11_act rfl rfl ?_
                  refine fz_iload kX11_act rfl rfl ?_
                  refine fz_iload_n kX11_act rfl rfl ?_
                  have b433 : 0 ≤ H2 53 46 ∧ H2 53 46 ≤ 1000 := hI3.1 53 _
                  have e434 : H2 81 b.toNat = h 81 b.toNat := hf4 81 _ rfl
                  refine fz_callV (d' := 6) (M' := mX11_tells) (As := [fz_i b, fz_i 6, fz_i x]) (st := []) kX11_act rfl rfl vX11_tells rfl rfl rfl rfl (Nat.le_of_ble_eq_true rfl) (Nat.le_of_ble_eq_true rfl) (by decide) (sX11_tells_6_6 H2 hI3 b x (by omega) (by omega) (by omega)) (fun H435 r436 q437 o438 => ?_)
                  obtain ⟨hI439, hf440, y445, rfl, f441, f442, f443, f444⟩ := q437
                  clear o438
                  have hf446 := fz_fr_tr hf4 hf440 (show fz_su [(53, 46), (82, 99999)] [(53, 46), (82, 99999)] = true from rfl)
                  exact fz_iret kX11_act rfl rfl (fun _ => ⟨hI439, hf446, _, rfl, (by first | exact f442.trans (fz_act_k 6 3 (by omega) (by omega) (by omega)).symm | exact fz_act_0 (by omega)), (by first | exact fz_aT_in (by rw [e5, fz_up_ne (by decide)]) (by omega) f444 f443 (by omega) (fz_atr_k 6 3 (by omega) (by omega) (by omega)) | exact fz_aT_0 e5 (by decide) (fz_atr_0 (by omega)))⟩)
                · refine fz_aload_n kX11_act rfl rfl ?_
                  refine fz_iload_n kX11_act rfl rfl ?_
                  refine fz_iload kX11_act rfl rfl ?_
                  refine fz_iload_n kX11_act rfl rfl ?_
                  have b449 : 0 ≤ H2 53 46 ∧ H2 53 46 ≤ 1000 := hI3.1 53 _
                  have e450 : H2 81 b.toNat = h 81 b.toNat := hf4 81 _ rfl
                  refine fz_callV (d' := 2) (M' := mX11_fades) (As := [fz_i b, fz_i 6, fz_i x]) (st := []) kX11_act rfl rfl vX11_fades rfl rfl rfl rfl (Nat.le_of_ble_eq_true rfl) (Nat.le_of_ble_eq_true rfl) (by decide) (sX11_fades_6_6 H2 hI3 b x (by omega) (by omega) (by omega)) (fun H451 r452 q453 o454 => ?_)
                  obtain ⟨hI455, hf456, y461, rfl, f457, f458, f459, f460⟩ := q453
                  clear o454
                  have hf462 := fz_fr_tr hf4 hf456 (show fz_su [(53, 46), (82, 99999)] [(53, 46), (82, 99999)] = true from rfl)
                  refine fz_goto (tgt := 93) kX11_act rfl (by decide) ?_
                  exact fz_iret kX11_act rfl rfl (fun _ => ⟨hI455, hf462, _, rfl, (by first | exact f458.trans (fz_act_k 6 2 (by omega) (by omega) (by omega)).symm | exact fz_act_0 (by omega)), (by first | exact fz_aT_in (by rw [e5, fz_up_ne (by decide)]) (by omega) f460 f459 (by omega) (fz_atr_k 6 2 (by omega) (by omega) (by omega)) | exact fz_aT_0 e5 (by decide) (fz_atr_0 (by omega)))⟩)
              · refine fz_aload_n kX11_act rfl rfl ?_
                refine fz_iload_n kX11_act rfl rfl ?_
                refine fz_iload kX11_act rfl rfl ?_
                refine fz_iload_n kX11_act rfl rfl ?_
                have b465 : 0 ≤ H2 53 46 ∧ H2 53 46 ≤ 1000 := hI3.1 53 _
                have e466 : H2 81 b.toNat = h 81 b.toNat := hf4 81 _ rfl
                refine fz_callV (d' := 4) (M' := mX11_says) (As := [fz_i b, fz_i 6, fz_i x]) (st := []) kX11_act rfl rfl vX11_says rfl rfl rfl rfl (Nat.le_of_ble_eq_true rfl) (Nat.le_of_ble_eq_true rfl) (by decide) (sX11_says_6_6 H2 hI3 b x (by omega) (by omega) (by omega)) (fun H467 r468 q469 o470 => ?_)
                obtain ⟨hI471, hf472, y477, rfl, f473, f474, f475, f476⟩ := q469
                clear o470
                have hf478 := fz_fr_tr hf4 hf472 (show fz_su [(53, 46), (82, 99999)] [(53, 46), (82, 99999)] = true from rfl)
                refine fz_goto (tgt := 93) kX11_act rfl (by decide) ?_
                exact fz_iret kX11_act rfl rfl (fun _ => ⟨hI471, hf478, _, rfl, (by first | exact f474.trans (fz_act_k 6 1 (by omega) (by omega) (by omega)).symm | exact fz_act_0 (by omega)), (by first | exact fz_aT_in (by rw [e5, fz_up_ne (by decide)]) (by omega) f476 f475 (by omega) (fz_atr_k 6 1 (by omega) (by omega) (by omega)) | exact fz_aT_0 e5 (by decide) (fz_atr_0 (by omega)))⟩)
            · refine fz_aload_n kX11_act rfl rfl ?_
              refine fz_iload_n kX11_act rfl rfl ?_
              refine fz_iload kX11_act rfl rfl ?_
              refine fz_iload_n kX11_act rfl rfl ?_
              have b481 : 0 ≤ H2 53 46 ∧ H2 53 46 ≤ 1000 := hI3.1 53 _
              have e482 : H2 81 b.toNat = h 81 b.toNat := hf4 81 _ rfl
              refine fz_callV (d' := 2) (M' := mX11_goes) (As := [fz_i b, fz_i 6, fz_i x]) (st := []) kX11_act rfl rfl vX11_goes rfl rfl rfl rfl (Nat.le_of_ble_eq_true rfl) (Nat.le_of_ble_eq_true rfl) (by decide) (sX11_goes_6_6 H2 hI3 b x (by omega) (by omega) (by omega)) (fun H483 r484 q485 o486 => ?_)
              obtain ⟨hI487, hf488, y493, rfl, f489, f490, f491, f492⟩ := q485
              clear o486
              have hf494 := fz_fr_tr hf4 hf488 (show fz_su [(53, 46), (82, 99999)] [(53, 46), (82, 99999)] = true from rfl)
              refine fz_goto (tgt := 93) kX11_act rfl (by decide) ?_
              exact fz_iret kX11_act rfl rfl (fun _ => ⟨hI487, hf494, _, rfl, (by first | exact f490.trans (fz_act_k 6 0 (by omega) (by omega) (by omega)).symm | exact fz_act_0 (by omega)), (by first | exact fz_aT_in (by rw [e5, fz_up_ne (by decide)]) (by omega) f492 f491 (by omega) (fz_atr_k 6 0 (by omega) (by omega) (by omega)) | exact fz_aT_0 e5 (by decide) (fz_atr_0 (by omega)))⟩)
          · refine fz_eqi c27 ?_
            refine fz_istore (ls' := [(4, fz_i 7), (0, fz_r 53), (1, fz_i b), (2, fz_i ac), (3, fz_i x)]) kX11_act rfl (by decide) rfl ?_
            refine fz_iload_n kX11_act rfl rfl ?_
            refine fz_if_ne (tgt := 53) kX11_act rfl (by decide) (fun c497 => ?_) (fun c497 => ?_)
            · refine fz_iload_n kX11_act rfl rfl ?_
              refine fz_iconst ⟨by decide, by decide⟩ kX11_act rfl ?_
              refine fz_icmp_ne (tgt := 69) kX11_act rfl (by decide) (fun c498 => ?_) (fun c498 => ?_)
              · refine fz_iload_n kX11_act rfl rfl ?_
                refine fz_iconst ⟨by decide, by decide⟩ kX11_act rfl ?_
                refine fz_icmp_ne (tgt := 85) kX11_act rfl (by decide) (fun c499 => ?_) (fun c499 => ?_)
                · refine fz_aload_n kX11_act rfl rfl ?_
                  refine fz_iload_n kX11_act rfl rfl ?_
                  refine fz_iload kX11_act rfl rfl ?_
                  refine fz_iload_n kX11_act rfl rfl ?_
                  have b500 : 0 ≤ H2 53 46 ∧ H2 53 46 ≤ 1000 := hI3.1 53 _
                  have e501 : H2 81 b.toNat = h 81 b.toNat := hf4 81 _ rfl
                  refine fz_callV (d' := 12) (M' := mX11_tells) (As := [fz_i b, fz_i 7, fz_i x]) (st := []) kX11_act rfl rfl vX11_tells rfl rfl rfl rfl (Nat.le_of_ble_eq_true rfl) (Nat.le_of_ble_eq_true rfl) (by decide) (sX11_tells_7_7 H2 hI3 b x (by omega) (by omega) (by omega)) (fun H502 r503 q504 o505 => ?_)
                  obtain ⟨hI506, hf507, y512, rfl, f508, f509, f510, f511⟩ := q504
                  clear o505
                  have hf513 := fz_fr_tr hf4 hf507 (show fz_su [(53, 46), (82, 99999)] [(53, 46), (82, 99999)] = true from rfl)
                  exact fz_iret kX11_act rfl rfl (fun _ => ⟨hI506, hf513, _, rfl, (by first | exact f509.trans (fz_act_k 7 3 (by omega) (by omega) (by omega)).symm | exact fz_act_0 (by omega)), (by first | exact fz_aT_in (by rw [e5, fz_up_ne (by decide)]) (by omega) f511 f510 (by omega) (fz_atr_k 7 3 (by omega) (by omega) (by omega)) | exact fz_aT_0 e5 (by decide) (fz_atr_0 (by omega)))⟩)
                · refine fz_aload_n kX11_act rfl rfl ?_
                  refine fz_iload_n kX11_act rfl rfl ?_
                  refine fz_iload kX11_act rfl rfl ?_
                  refine fz_iload_n kX11_act rfl rfl ?_
                  have b516 : 0 ≤ H2 53 46 ∧ H2 53 46 ≤ 1000 := hI3.1 53 _
                  have e517 : H2 81 b.toNat = h 81 b.toNat := hf4 81 _ rfl
                  refine fz_callV (d' := 6) (M' := mX11_fades) (As := [fz_i b, fz_i 7, fz_i x]) (st := []) kX11_act rfl rfl vX11_fades rfl rfl rfl rfl (Nat.le_of_ble_eq_true rfl) (Nat.le_of_ble_eq_true rfl) (by decide) (sX11_fades_7_7 H2 hI3 b x (by omega) (by omega) (by omega)) (fun H518 r519 q520 o521 => ?_)
                  obtain ⟨hI522, hf523, y528, rfl, f524, f525, f526, f527⟩ := q520
                  clear o521
                  have hf529 := fz_fr_tr hf4 hf523 (show fz_su [(53, 46), (82, 99999)] [(53, 46), (82, 99999)] = true from rfl)
                  refine fz_goto (tgt := 93) kX11_act rfl (by decide) ?_
                  exact fz_iret kX11_act rfl rfl (fun _ => ⟨hI522, hf529, _, rfl, (by first | exact f525.trans (fz_act_k 7 2 (by omega) (by omega) (by omega)).symm | exact fz_act_0 (by omega)), (by first | exact fz_aT_in (by rw [e5, fz_up_ne (by decide)]) (by omega) f527 f526 (by omega) (fz_atr_k 7 2 (by omega) (by omega) (by omega)) | exact fz_aT_0 e5 (by decide) (fz_atr_0 (by omega)))⟩)
              · refine fz_aload_n kX11_act rfl rfl ?_
                refine fz_iload_n kX11_act rfl rfl ?_
                refine fz_iload kX11_act rfl rfl ?_
                refine fz_iload_n kX11_act rfl rfl ?_
                have b532 : 0 ≤ H2 53 46 ∧ H2 53 46 ≤ 1000 := hI3.1 53 _
                have e533 : H2 81 b.toNat = h 81 b.toNat := hf4 81 _ rfl
                refine fz_callV (d' := 8) (M' := mX11_says) (As := [fz_i b, fz_i 7, fz_i x]) (st := []) kX11_act rfl rfl vX11_says rfl rfl rfl rfl (Nat.le_of_ble_eq_true rfl) (Nat.le_of_ble_eq_true rfl) (by decide) (sX11_says_7_7 H2 hI3 b x (by omega) (by omega) (by omega)) (fun H534 r535 q536 o537 => ?_)
                obtain ⟨hI538, hf539, y544, rfl, f540, f541, f542, f543⟩ := q536
                clear o537
                have hf545 := fz_fr_tr hf4 hf539 (show fz_su [(53, 46), (82, 99999)] [(53, 46), (82, 99999)] = true from rfl)
                refine fz_goto (tgt := 93) kX11_act rfl (by decide) ?_
                exact fz_iret kX11_act rfl rfl (fun _ => ⟨hI538, hf545, _, rfl, (by first | exact f541.trans (fz_act_k 7 1 (by omega) (by omega) (by omega)).symm | exact fz_act_0 (by omega)), (by first | exact fz_aT_in (by rw [e5, fz_up_ne (by decide)]) (by omega) f543 f542 (by omega) (fz_atr_k 7 1 (by omega) (by omega) (by omega)) | exact fz_aT_0 e5 (by decide) (fz_atr_0 (by omega)))⟩)
            · refine fz_aload_n kX11_act rfl rfl ?_
              refine fz_iload_n kX11_act rfl rfl ?_
              refine fz_iload kX11_act rfl rfl ?_
              refine fz_iload_n kX11_act rfl rfl ?_
              have b548 : 0 ≤ H2 53 46 ∧ H2 53 46 ≤ 1000 := hI3.1 53 _
              have e549 : H2 81 b.toNat = h 81 b.toNat := hf4 81 _ rfl
              refine fz_callV (d' := 4) (M' := mX11_goes) (As := [fz_i b, fz_i 7, fz_i x]) (st := []) kX11_act rfl rfl vX11_goes rfl rfl rfl rfl (Nat.le_of_ble_eq_true rfl) (Nat.le_of_ble_eq_true rfl) (by decide) (sX11_goes_7_7 H2 hI3 b x (by omega) (by omega) (by omega)) (fun H550 r551 q552 o553 => ?_)
              obtain ⟨hI554, hf555, y560, rfl, f556, f557, f558, f559⟩ := q552
              clear o553
              have hf561 := fz_fr_tr hf4 hf555 (show fz_su [(53, 46), (82, 99999)] [(53, 46), (82, 99999)] = true from rfl)
              refine fz_goto (tgt := 93) kX11_act rfl (by decide) ?_
              exact fz_iret kX11_act rfl rfl (fun _ => ⟨hI554, hf561, _, rfl, (by first | exact f557.trans (fz_act_k 7 0 (by omega) (by omega) (by omega)).symm | exact fz_act_0 (by omega)), (by first | exact fz_aT_in (by rw [e5, fz_up_ne (by decide)]) (by omega) f559 f558 (by omega) (fz_atr_k 7 0 (by omega) (by omega) (by omega)) | exact fz_aT_0 e5 (by decide) (fz_atr_0 (by omega)))⟩)
        · exfalso; omega
      · refine fz_if_ne (tgt := 30) kX11_act rfl (by decide) (fun c564 => ?_) (fun c564 => ?_)
        · exfalso; omega
        · refine fz_iconst ⟨by decide, by decide⟩ kX11_act rfl ?_
          exact fz_iret kX11_act rfl rfl (fun _ => ⟨hI3, hf4, _, rfl, (by first | exact lost.trans (fz_act_k lost lost (by omega) (by omega) (by omega)).symm | exact fz_act_0 (by omega)), (by first | exact fz_aT_in (by rw [e5, fz_up_ne (by decide)]) (by omega) lost lost (by omega) (fz_atr_k lost lost (by omega) (by omega) (by omega)) | exact fz_aT_0 e5 (by decide) (fz_atr_0 (by omega)))⟩)
  · refine fz_if_eq (tgt := 28) kX11_act rfl (by decide) (fun c567 => ?_) (fun c567 => ?_)
    · refine fz_iconst ⟨by decide, by decide⟩ kX11_act rfl ?_
      exact fz_iret kX11_act rfl rfl (fun _ => ⟨hI3, hf4, _, rfl, (by first | exact lost.trans (fz_act_k lost lost (by omega) (by omega) (by omega)).symm | exact fz_act_0 (by omega)), (by first | exact fz_aT_in (by rw [e5, fz_up_ne (by decide)]) (by omega) lost lost (by omega) (fz_atr_k lost lost (by omega) (by omega) (by omega)) | exact fz_aT_0 e5 (by decide) (fz_atr_0 (by omega)))⟩)
    · exfalso; omega
