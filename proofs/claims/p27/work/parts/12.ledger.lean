/-! ===== what the methods keep ===== -/
abbrev qX4_isDeed (h : fz_H) (d : Int) : fz_H → Option fz_V → Prop := fun h' r0 => h' = h ∧ ∃ r : Int, r0 = some (fz_i r) ∧ ((r = 1 ∧ (0 ≤ d ∧ d ≤ 9 ∧ d < h 9 5)) ∨ (r = 0 ∧ ¬ (0 ≤ d ∧ d ≤ 9 ∧ d < h 9 5)))
set_option maxHeartbeats 1000000 in
set_option maxRecDepth 100000 in
theorem sX4_isDeed (h : fz_H) (hI : fz_Iv h) (d : Int) : fz_R 0 mX4_isDeed 0 [(0, fz_r 9), (1, fz_i d)] [] h (qX4_isDeed h d) := by
  refine fz_knowl (fun hk => ?_)
  have hr_d : -2147483648 ≤ d ∧ d < 2147483648 := hk _ (List.Mem.tail _ (List.Mem.head _))
  clear hk
  have b1 : 0 ≤ h 9 5 ∧ h 9 5 ≤ 10 := hI.1 9 _
  refine fz_iload_n kX4_isDeed rfl rfl ?_
  refine fz_if_lt (tgt := 16) kX4_isDeed rfl (by decide) (fun c2 => ?_) (fun c2 => ?_)
  · refine fz_iconst ⟨by decide, by decide⟩ kX4_isDeed rfl ?_
    exact fz_zret kX4_isDeed rfl rfl (by omega) ⟨rfl, _, rfl, Or.inr ⟨rfl, by omega⟩⟩
  · refine fz_iload_n kX4_isDeed rfl rfl ?_
    refine fz_aload_n kX4_isDeed rfl rfl ?_
    refine fz_getV (v := h 9 5) kX4_isDeed rfl rfl rfl ?_
    have b3 : 0 ≤ h 9 5 ∧ h 9 5 ≤ 10 := hI.1 9 _
    refine fz_icmp_ge (tgt := 16) kX4_isDeed rfl (by decide) (fun c4 => ?_) (fun c4 => ?_)
    · refine fz_iconst ⟨by decide, by decide⟩ kX4_isDeed rfl ?_
      exact fz_zret kX4_isDeed rfl rfl (by omega) ⟨rfl, _, rfl, Or.inr ⟨rfl, by omega⟩⟩
    · refine fz_iconst ⟨by decide, by decide⟩ kX4_isDeed rfl ?_
      refine fz_goto (tgt := 17) kX4_isDeed rfl (by decide) ?_
      exact fz_zret kX4_isDeed rfl rfl (by omega) ⟨rfl, _, rfl, Or.inl ⟨rfl, by omega⟩⟩

abbrev qX4_write (h : fz_H) (sl pm t a wt : Int) : fz_H → Option fz_V → Prop := fun h' r0 => fz_Iv h' ∧ fz_fr [(10, 99999), (11, 99999), (12, 99999), (13, 99999), (14, 99999)] h h' ∧ r0 = none ∧ fz_wrC h h' sl pm t a wt
set_option maxHeartbeats 1000000 in
set_option maxRecDepth 100000 in
theorem sX4_write (h : fz_H) (hI : fz_Iv h) (sl pm t a wt : Int) (hp0 : 0 ≤ sl ∧ sl < 11) (hp1 : 0 ≤ pm ∧ pm < 40) (hp2 : pm % 10 < 5) (hp3 : 0 ≤ t ∧ t < 8) (hp4 : 0 ≤ a ∧ a ≤ 999) (hp5 : 0 ≤ wt ∧ wt ≤ 9) : fz_R 0 mX4_write 0 [(0, fz_r 9), (1, fz_i sl), (2, fz_i pm), (3, fz_i t), (4, fz_i a), (5, fz_i wt)] [] h (qX4_write h sl pm t a wt) := by
  refine fz_knowl (fun hk => ?_)
  have hr_sl : -2147483648 ≤ sl ∧ sl < 2147483648 := hk _ (List.Mem.tail _ (List.Mem.head _))
  have hr_pm : -2147483648 ≤ pm ∧ pm < 2147483648 := hk _ (List.Mem.tail _ (List.Mem.tail _ (List.Mem.head _)))
  have hr_t : -2147483648 ≤ t ∧ t < 2147483648 := hk _ (List.Mem.tail _ (List.Mem.tail _ (List.Mem.tail _ (List.Mem.head _))))
  have hr_a : -2147483648 ≤ a ∧ a < 2147483648 := hk _ (List.Mem.tail _ (List.Mem.tail _ (List.Mem.tail _ (List.Mem.tail _ (List.Mem.head _)))))
  have hr_wt : -2147483648 ≤ wt ∧ wt < 2147483648 := hk _ (List.Mem.tail _ (List.Mem.tail _ (List.Mem.tail _ (List.Mem.tail _ (List.Mem.tail _ (List.Mem.head _))))))
  clear hk
  have hf : fz_fr [(10, 99999), (11, 99999), (12, 99999), (13, 99999), (14, 99999)] h h := fz_fr_rf
  refine fz_aload_n kX4_write rfl rfl ?_
  refine fz_getR (t := 10) kX4_write rfl rfl ?_
  refine fz_iload_n kX4_write rfl rfl ?_
  refine fz_iload_n kX4_write rfl rfl ?_
  refine fz_bipush ⟨by decide, by decide⟩ kX4_write rfl ?_
  refine fz_idivN kX4_write rfl (by omega) (by omega) (by omega) ?_
  refine fz_iast (n := 11) kX4_write rfl rfl (by omega) (by omega) ?_
  refine fz_nmu (S := [(10, 99999), (11, 99999), (12, 99999), (13, 99999), (14, 99999)]) (h0 := h) (fz_Iv_up hI (by decide) (show (0 : Int) ≤ (pm / 10) by omega) (show ((pm / 10) : Int) ≤ 3 by omega)) (fz_fr_up hf rfl) (fun H1 hI2 hf3 e4 => ?_)
  refine fz_aload_n kX4_write rfl rfl ?_
  refine fz_getR (t := 13) kX4_write rfl rfl ?_
  refine fz_iload_n kX4_write rfl rfl ?_
  refine fz_iload_n kX4_write rfl rfl ?_
  refine fz_bipush ⟨by decide, by decide⟩ kX4_write rfl ?_
  refine fz_iremN kX4_write rfl (by omega) (by omega) (by omega) ?_
  refine fz_iast (n := 11) kX4_write rfl rfl (by omega) (by omega) ?_
  refine fz_nmu (S := [(10, 99999), (11, 99999), (12, 99999), (13, 99999), (14, 99999)]) (h0 := h) (fz_Iv_up hI2 (by decide) (show (0 : Int) ≤ (pm % 10) by omega) (show ((pm % 10) : Int) ≤ 4 by omega)) (fz_fr_up hf3 rfl) (fun H5 hI6 hf7 e8 => ?_)
  refine fz_aload_n kX4_write rfl rfl ?_
  refine fz_getR (t := 11) kX4_write rfl rfl ?_
  refine fz_iload_n kX4_write rfl rfl ?_
  refine fz_iload_n kX4_write rfl rfl ?_
  refine fz_iast (n := 11) kX4_write rfl rfl (by omega) (by omega) ?_
  refine fz_nmu (S := [(10, 99999), (11, 99999), (12, 99999), (13, 99999), (14, 99999)]) (h0 := h) (fz_Iv_up hI6 (by decide) (show (0 : Int) ≤ t by omega) (show (t : Int) ≤ 7 by omega)) (fz_fr_up hf7 rfl) (fun H9 hI10 hf11 e12 => ?_)
  refine fz_aload_n kX4_write rfl rfl ?_
  refine fz_getR (t := 12) kX4_write rfl rfl ?_
  refine fz_iload_n kX4_write rfl rfl ?_
  refine fz_iload kX4_write rfl rfl ?_
  refine fz_iast (n := 11) kX4_write rfl rfl (by omega) (by omega) ?_
  refine fz_nmu (S := [(10, 99999), (11, 99999), (12, 99999), (13, 99999), (14, 99999)]) (h0 := h) (fz_Iv_up hI10 (by decide) (show (0 : Int) ≤ a by omega) (show (a : Int) ≤ 999 by omega)) (fz_fr_up hf11 rfl) (fun H13 hI14 hf15 e16 => ?_)
  refine fz_aload_n kX4_write rfl rfl ?_
  refine fz_getR (t := 14) kX4_write rfl rfl ?_
  refine fz_iload_n kX4_write rfl rfl ?_
  refine fz_iload kX4_write rfl rfl ?_
  refine fz_iast (n := 11) kX4_write rfl rfl (by omega) (by omega) ?_
  refine fz_nmu (S := [(10, 99999), (11, 99999), (12, 99999), (13, 99999), (14, 99999)]) (h0 := h) (fz_Iv_up hI14 (by decide) (show (0 : Int) ≤ wt by omega) (show (wt : Int) ≤ 9 by omega)) (fz_fr_up hf15 rfl) (fun H17 hI18 hf19 e20 => ?_)
  exact fz_vret kX4_write rfl rfl ⟨hI18, hf19, rfl, (by exact fz_wrC_in e4 e8 e12 e16 e20)⟩

abbrev qX4_enter (h : fz_H) (on t a mk wt : Int) : fz_H → Option fz_V → Prop := fun h' r0 => fz_Iv h' ∧ fz_fr [(9, 5), (10, 99999), (11, 99999), (12, 99999), (13, 99999), (14, 99999)] h h' ∧ ∃ r : Int, r0 = some (fz_i r) ∧ ((-3) ≤ r ∧ r ≤ 9) ∧ ((h 9 5 < 10 ∧ r = h 9 5 ∧ h' 9 5 = h 9 5 + 1) ∨ (10 ≤ h 9 5 ∧ r = -3 ∧ h' 9 5 = h 9 5)) ∧ (fz_apC h h' (h' 9 5 - h 9 5) (fun _ => (on, t, a, mk, wt)))
set_option maxHeartbeats 1000000 in
set_option maxRecDepth 100000 in
theorem sX4_enter (h : fz_H) (hI : fz_Iv h) (on t a mk wt : Int) (hp0 : 0 ≤ on ∧ on < 4) (hp1 : 0 ≤ t ∧ t < 8) (hp2 : 0 ≤ a ∧ a ≤ 999) (hp3 : 0 ≤ mk ∧ mk < 5) (hp4 : 0 ≤ wt ∧ wt ≤ 9) : fz_R 1 mX4_enter 0 [(0, fz_r 9), (1, fz_i on), (2, fz_i t), (3, fz_i a), (4, fz_i mk), (5, fz_i wt)] [] h (qX4_enter h on t a mk wt) := by
  refine fz_knowl (fun hk => ?_)
  have hr_on : -2147483648 ≤ on ∧ on < 2147483648 := hk _ (List.Mem.tail _ (List.Mem.head _))
  have hr_t : -2147483648 ≤ t ∧ t < 2147483648 := hk _ (List.Mem.tail _ (List.Mem.tail _ (List.Mem.head _)))
  have hr_a : -2147483648 ≤ a ∧ a < 2147483648 := hk _ (List.Mem.tail _ (List.Mem.tail _ (List.Mem.tail _ (List.Mem.head _))))
  have hr_mk : -2147483648 ≤ mk ∧ mk < 2147483648 := hk _ (List.Mem.tail _ (List.Mem.tail _ (List.Mem.tail _ (List.Mem.tail _ (List.Mem.head _)))))
  have hr_wt : -2147483648 ≤ wt ∧ wt < 2147483648 := hk _ (List.Mem.tail _ (List.Mem.tail _ (List.Mem.tail _ (List.Mem.tail _ (List.Mem.tail _ (List.Mem.head _))))))
  clear hk
  have hf : fz_fr [(9, 5), (10, 99999), (11, 99999), (12, 99999), (13, 99999), (14, 99999)] h h := fz_fr_rf
  have b1 : 0 ≤ h 9 5 ∧ h 9 5 ≤ 10 := hI.1 9 _
  refine fz_aload_n kX4_enter rfl rfl ?_
  refine fz_getV (v := h 9 5) kX4_enter rfl rfl rfl ?_
  have b2 : 0 ≤ h 9 5 ∧ h 9 5 ≤ 10 := hI.1 9 _
  refine fz_bipush ⟨by decide, by decide⟩ kX4_enter rfl ?_
  refine fz_icmp_lt (tgt := 12) kX4_enter rfl (by decide) (fun c3 => ?_) (fun c3 => ?_)
  · refine fz_aload_n kX4_enter rfl rfl ?_
    refine fz_aload_n kX4_enter rfl rfl ?_
    refine fz_getV (v := h 9 5) kX4_enter rfl rfl rfl ?_
    refine fz_iload_n kX4_enter rfl rfl ?_
    refine fz_bipush ⟨by decide, by decide⟩ kX4_enter rfl ?_
    refine fz_imulN kX4_enter rfl (by omega) ?_
    refine fz_iload kX4_enter rfl rfl ?_
    refine fz_iaddN kX4_enter rfl (by omega) ?_
    refine fz_iload_n kX4_enter rfl rfl ?_
    refine fz_iload_n kX4_enter rfl rfl ?_
    refine fz_iload kX4_enter rfl rfl ?_
    refine fz_callV (d' := 0) (M' := mX4_write) (As := [fz_i (h 9 5), fz_i ((on * 10) + mk), fz_i t, fz_i a, fz_i wt]) (st := []) kX4_enter rfl rfl vX4_write rfl rfl rfl rfl (Nat.le_of_ble_eq_true rfl) (Nat.le_of_ble_eq_true rfl) (by decide) (sX4_write h hI (h 9 5) ((on * 10) + mk) t a wt (by omega) (by omega) (by omega) (by omega) (by omega) (by omega)) (fun H4 r5 q6 o7 => ?_)
    obtain ⟨hI8, hf9, rfl, f10⟩ := q6
    clear o7
    have hf11 := fz_fr_tr hf hf9 (show fz_su [(10, 99999), (11, 99999), (12, 99999), (13, 99999), (14, 99999)] [(9, 5), (10, 99999), (11, 99999), (12, 99999), (13, 99999), (14, 99999)] = true from rfl)
    have k12 : H4 9 5 = (h 9 5) := (hf9 9 5 rfl).trans rfl
    have t13 : H4 9 5 = h 9 5 := hf9 9 5 rfl
    refine fz_aload_n kX4_enter rfl rfl ?_
    refine fz_dup rfl kX4_enter rfl ?_
    refine fz_getV (v := (h 9 5)) kX4_enter rfl rfl k12 ?_
    refine fz_iconst ⟨by decide, by decide⟩ kX4_enter rfl ?_
    refine fz_iaddN kX4_enter rfl (by omega) ?_
    refine fz_putI kX4_enter rfl rfl rfl ?_
    refine fz_nmu (S := [(9, 5), (10, 99999), (11, 99999), (12, 99999), (13, 99999), (14, 99999)]) (h0 := h) (fz_Iv_up hI8 (by decide) (show (0 : Int) ≤ ((h 9 5) + 1) by omega) (show (((h 9 5) + 1) : Int) ≤ 10 by omega)) (fz_fr_up hf11 rfl) (fun H14 hI15 hf16 e17 => ?_)
    have k18 : H14 9 5 = ((h 9 5) + 1) := by rw [e17]; exact fz_up_e
    refine fz_aload_n kX4_enter rfl rfl ?_
    refine fz_getV (v := ((h 9 5) + 1)) kX4_enter rfl rfl k18 ?_
    refine fz_iconst ⟨by decide, by decide⟩ kX4_enter rfl ?_
    refine fz_isubN kX4_enter rfl (by omega) ?_
    exact fz_iret kX4_enter rfl rfl (fun _ => ⟨hI15, hf16, _, rfl, (by omega), (by omega), (by first | exact fz_apC_1 f10 e17 (by omega) (by omega) (by omega) (by omega) | exact fz_apC_z (by omega))⟩)
  · refine fz_bipush ⟨by decide, by decide⟩ kX4_enter rfl ?_
    exact fz_iret kX4_enter rfl rfl (fun _ => ⟨hI, hf, _, rfl, (by omega), (by omega), (by first | exact fz_apC_1 lost lost (by omega) (by omega) (by omega) (by omega) | exact fz_apC_z (by omega))⟩)

abbrev qX4_imagine (h : fz_H) (pm t a wt : Int) : fz_H → Option fz_V → Prop := fun h' r0 => fz_Iv h' ∧ fz_fr [(10, 99999), (11, 99999), (12, 99999), (13, 99999), (14, 99999)] h h' ∧ r0 = none ∧ fz_apC h h' 0 (fun _ => (0, 0, 0, 0, 0)) ∧ fz_wrC h h' 10 pm t a wt
set_option maxHeartbeats 1000000 in
set_option maxRecDepth 100000 in
theorem sX4_imagine (h : fz_H) (hI : fz_Iv h) (pm t a wt : Int) (hp0 : 0 ≤ pm ∧ pm < 40) (hp1 : pm % 10 < 5) (hp2 : 0 ≤ t ∧ t < 8) (hp3 : 0 ≤ a ∧ a ≤ 999) (hp4 : 0 ≤ wt ∧ wt ≤ 9) : fz_R 1 mX4_imagine 0 [(0, fz_r 9), (1, fz_i pm), (2, fz_i t), (3, fz_i a), (4, fz_i wt)] [] h (qX4_imagine h pm t a wt) := by
  refine fz_knowl (fun hk => ?_)
  have hr_pm : -2147483648 ≤ pm ∧ pm < 2147483648 := hk _ (List.Mem.tail _ (List.Mem.head _))
  have hr_t : -2147483648 ≤ t ∧ t < 2147483648 := hk _ (List.Mem.tail _ (List.Mem.tail _ (List.Mem.head _)))
  have hr_a : -2147483648 ≤ a ∧ a < 2147483648 := hk _ (List.Mem.tail _ (List.Mem.tail _ (List.Mem.tail _ (List.Mem.head _))))
  have hr_wt : -2147483648 ≤ wt ∧ wt < 2147483648 := hk _ (List.Mem.tail _ (List.Mem.tail _ (List.Mem.tail _ (List.Mem.tail _ (List.Mem.head _)))))
  clear hk
  have hf : fz_fr [(10, 99999), (11, 99999), (12, 99999), (13, 99999), (14, 99999)] h h := fz_fr_rf
  have k1 : 0 ≤ h 9 5 ∧ h 9 5 ≤ 10 := hI.1 9 _
  refine fz_aload_n kX4_imagine rfl rfl ?_
  refine fz_bipush ⟨by decide, by decide⟩ kX4_imagine rfl ?_
  refine fz_iload_n kX4_imagine rfl rfl ?_
  refine fz_iload_n kX4_imagine rfl rfl ?_
  refine fz_iload_n kX4_imagine rfl rfl ?_
  refine fz_iload kX4_imagine rfl rfl ?_
  refine fz_callV (d' := 0) (M' := mX4_write) (As := [fz_i 10, fz_i pm, fz_i t, fz_i a, fz_i wt]) (st := []) kX4_imagine rfl rfl vX4_write rfl rfl rfl rfl (Nat.le_of_ble_eq_true rfl) (Nat.le_of_ble_eq_true rfl) (by decide) (sX4_write h hI 10 pm t a wt (by omega) (by omega) (by omega) (by omega) (by omega) (by omega)) (fun H2 r3 q4 o5 => ?_)
  obtain ⟨hI6, hf7, rfl, f8⟩ := q4
  clear o5
  have hf9 := fz_fr_tr hf hf7 (show fz_su [(10, 99999), (11, 99999), (12, 99999), (13, 99999), (14, 99999)] [(10, 99999), (11, 99999), (12, 99999), (13, 99999), (14, 99999)] = true from rfl)
  exact fz_vret kX4_imagine rfl rfl ⟨hI6, hf9, rfl, (by exact fz_apC_im f8 (by omega)), (by exact f8)⟩
