/-! ===== what the methods keep ===== -/
abbrev qX1_go (h : fz_H) (on to hr : Int) : fz_H → Option fz_V → Prop := fun h' r0 => fz_Iv h' ∧ fz_fr [(40, 1), (40, 2), (40, 3), (41, 99999)] h h' ∧ r0 = none
set_option maxHeartbeats 1000000 in
set_option maxRecDepth 100000 in
theorem sX1_go (h : fz_H) (hI : fz_Iv h) (on to hr : Int) (hp0 : 0 ≤ on ∧ on < 4) (hp1 : 0 ≤ to ∧ to < 8) (hp2 : 0 ≤ hr ∧ hr ≤ 999) (hp3 : h 40 1 + hr ≤ 999) : fz_R 0 mX1_go 0 [(0, fz_r 40), (1, fz_i on), (2, fz_i to), (3, fz_i hr)] [] h (qX1_go h on to hr) := by
  refine fz_knowl (fun hk => ?_)
  have hr_on : -2147483648 ≤ on ∧ on < 2147483648 := hk _ (List.Mem.tail _ (List.Mem.head _))
  have hr_to : -2147483648 ≤ to ∧ to < 2147483648 := hk _ (List.Mem.tail _ (List.Mem.tail _ (List.Mem.head _)))
  have hr_hr : -2147483648 ≤ hr ∧ hr < 2147483648 := hk _ (List.Mem.tail _ (List.Mem.tail _ (List.Mem.tail _ (List.Mem.head _))))
  clear hk
  have hf : fz_fr [(40, 1), (40, 2), (40, 3), (41, 99999)] h h := fz_fr_rf
  have b1 : 0 ≤ h 40 1 ∧ h 40 1 ≤ 999 := hI.1 40 _
  refine fz_aload_n kX1_go rfl rfl ?_
  refine fz_getR (t := 41) kX1_go rfl rfl ?_
  refine fz_iload_n kX1_go rfl rfl ?_
  refine fz_iload_n kX1_go rfl rfl ?_
  refine fz_iast (n := 4) kX1_go rfl rfl (by omega) (by omega) ?_
  refine fz_nmu (S := [(40, 1), (40, 2), (40, 3), (41, 99999)]) (h0 := h) (fz_Iv_up hI (by decide) (show 0 ≤ to by omega) (show to ≤ 7 by omega)) (fz_fr_up hf rfl) (fun H2 hI3 hf4 e5 => ?_)
  have k6 : H2 40 1 = (h 40 1) := by rw [e5]; exact (fz_up_o (by decide)).trans rfl
  clear e5
  refine fz_aload_n kX1_go rfl rfl ?_
  refine fz_dup rfl kX1_go rfl ?_
  refine fz_getV (v := (h 40 1)) kX1_go rfl rfl k6 ?_
  refine fz_iload_n kX1_go rfl rfl ?_
  refine fz_iaddN kX1_go rfl (by omega) ?_
  refine fz_putI kX1_go rfl rfl rfl ?_
  refine fz_nmu (S := [(40, 1), (40, 2), (40, 3), (41, 99999)]) (h0 := h) (fz_Iv_up hI3 (by decide) (show 0 ≤ ((h 40 1) + hr) by omega) (show ((h 40 1) + hr) ≤ 999 by omega)) (fz_fr_up hf4 rfl) (fun H7 hI8 hf9 e10 => ?_)
  have k11 : H7 40 1 = ((h 40 1) + hr) := by rw [e10]; exact fz_up_e
  clear e10
  refine fz_aload_n kX1_go rfl rfl ?_
  refine fz_dup rfl kX1_go rfl ?_
  obtain ⟨v12, e13⟩ : ∃ z, H7 40 (2) = z := ⟨_, rfl⟩
  refine fz_getV (v := v12) kX1_go rfl rfl e13 ?_
  have b14 : (-2147483648) ≤ v12 ∧ v12 ≤ 2147483647 := by rw [← e13]; exact hI8.1 40 _
  refine fz_iconst ⟨by decide, by decide⟩ kX1_go rfl ?_
  refine fz_iadd kX1_go rfl ?_
  refine fz_nmw (fun z15 e16 => ?_)
  refine fz_putI kX1_go rfl rfl rfl ?_
  refine fz_nmu (S := [(40, 1), (40, 2), (40, 3), (41, 99999)]) (h0 := h) (fz_Iv_up hI8 (by decide) (show (-2147483648) ≤ z15 by omega) (show z15 ≤ 2147483647 by omega)) (fz_fr_up hf9 rfl) (fun H17 hI18 hf19 e20 => ?_)
  have k21 : H17 40 1 = ((h 40 1) + hr) := by rw [e20]; exact (fz_up_s (by decide)).trans k11
  have k22 : H17 40 2 = z15 := by rw [e20]; exact fz_up_e
  clear e20
  refine fz_aload_n kX1_go rfl rfl ?_
  refine fz_dup rfl kX1_go rfl ?_
  obtain ⟨v23, e24⟩ : ∃ z, H17 40 (3) = z := ⟨_, rfl⟩
  refine fz_getV (v := v23) kX1_go rfl rfl e24 ?_
  have b25 : (-2147483648) ≤ v23 ∧ v23 ≤ 2147483647 := by rw [← e24]; exact hI18.1 40 _
  refine fz_iload_n kX1_go rfl rfl ?_
  refine fz_iadd kX1_go rfl ?_
  refine fz_nmw (fun z26 e27 => ?_)
  refine fz_putI kX1_go rfl rfl rfl ?_
  refine fz_nmu (S := [(40, 1), (40, 2), (40, 3), (41, 99999)]) (h0 := h) (fz_Iv_up hI18 (by decide) (show (-2147483648) ≤ z26 by omega) (show z26 ≤ 2147483647 by omega)) (fz_fr_up hf19 rfl) (fun H28 hI29 hf30 e31 => ?_)
  have k32 : H28 40 1 = ((h 40 1) + hr) := by rw [e31]; exact (fz_up_s (by decide)).trans k21
  have k33 : H28 40 2 = z15 := by rw [e31]; exact (fz_up_s (by decide)).trans k22
  have k34 : H28 40 3 = z26 := by rw [e31]; exact fz_up_e
  clear e31
  exact fz_vret kX1_go rfl rfl ⟨hI29, hf30, rfl⟩

abbrev qX1_keepImage (h : fz_H) : fz_H → Option fz_V → Prop := fun h' r0 => fz_Iv h' ∧ fz_fr [(40, 6), (42, 99999), (43, 99999)] h h' ∧ r0 = none
set_option maxHeartbeats 1000000 in
set_option maxRecDepth 100000 in
theorem sX1_keepImage (h : fz_H) (hI : fz_Iv h) : fz_R 1 mX1_keepImage 0 [(0, fz_r 40)] [] h (qX1_keepImage h) := by
  have hf : fz_fr [(40, 6), (42, 99999), (43, 99999)] h h := fz_fr_rf
  refine fz_aload_n kX1_keepImage rfl rfl ?_
  refine fz_getR (t := 41) kX1_keepImage rfl rfl ?_
  refine fz_iconst ⟨by decide, by decide⟩ kX1_keepImage rfl ?_
  refine fz_aload_n kX1_keepImage rfl rfl ?_
  refine fz_getR (t := 42) kX1_keepImage rfl rfl ?_
  refine fz_iconst ⟨by decide, by decide⟩ kX1_keepImage rfl ?_
  refine fz_iconst ⟨by decide, by decide⟩ kX1_keepImage rfl ?_
  refine fz_copyi (n1 := 4) (n2 := 4) kX1_keepImage rfl rfl rfl rfl (by omega) (by omega) (by omega) (by omega) (by omega) (by decide) (Nat.le_of_ble_eq_true rfl) ?_
  refine fz_nmu (S := [(40, 6), (42, 99999), (43, 99999)]) (h0 := h) (fz_Iv_cp hI (by decide) (fun k l _ _ _ => hI.1 41 k)) (fz_fr_cp hf (fun _ => rfl)) (fun H1 hI2 hf3 e4 => ?_)
  clear e4
  refine fz_aload_n kX1_keepImage rfl rfl ?_
  refine fz_getR (t := 43) kX1_keepImage rfl rfl ?_
  refine fz_iconst ⟨by decide, by decide⟩ kX1_keepImage rfl ?_
  refine fz_aload_n kX1_keepImage rfl rfl ?_
  refine fz_getV (v := h 40 1) kX1_keepImage rfl rfl (hf3 40 1 rfl) ?_
  have b5 : 0 ≤ h 40 1 ∧ h 40 1 ≤ 999 := hI.1 40 _
  refine fz_iast (n := 5) kX1_keepImage rfl rfl (by omega) (by omega) ?_
  refine fz_nmu (S := [(40, 6), (42, 99999), (43, 99999)]) (h0 := h) (fz_Iv_up hI2 (by decide) (show 0 ≤ (h 40 1) by omega) (show (h 40 1) ≤ 999 by omega)) (fz_fr_up hf3 rfl) (fun H6 hI7 hf8 e9 => ?_)
  clear e9
  refine fz_aload_n kX1_keepImage rfl rfl ?_
  refine fz_getR (t := 43) kX1_keepImage rfl rfl ?_
  refine fz_iconst ⟨by decide, by decide⟩ kX1_keepImage rfl ?_
  refine fz_aload_n kX1_keepImage rfl rfl ?_
  refine fz_getV (v := h 40 2) kX1_keepImage rfl rfl (hf8 40 2 rfl) ?_
  have b10 : (-2147483648) ≤ h 40 2 ∧ h 40 2 ≤ 2147483647 := hI.1 40 _
  refine fz_iast (n := 5) kX1_keepImage rfl rfl (by omega) (by omega) ?_
  refine fz_nmu (S := [(40, 6), (42, 99999), (43, 99999)]) (h0 := h) (fz_Iv_up hI7 (by decide) (show (-2147483648) ≤ (h 40 2) by omega) (show (h 40 2) ≤ 2147483647 by omega)) (fz_fr_up hf8 rfl) (fun H11 hI12 hf13 e14 => ?_)
  clear e14
  refine fz_aload_n kX1_keepImage rfl rfl ?_
  refine fz_getR (t := 43) kX1_keepImage rfl rfl ?_
  refine fz_iconst ⟨by decide, by decide⟩ kX1_keepImage rfl ?_
  refine fz_aload_n kX1_keepImage rfl rfl ?_
  refine fz_getV (v := h 40 3) kX1_keepImage rfl rfl (hf13 40 3 rfl) ?_
  have b15 : (-2147483648) ≤ h 40 3 ∧ h 40 3 ≤ 2147483647 := hI.1 40 _
  refine fz_iast (n := 5) kX1_keepImage rfl rfl (by omega) (by omega) ?_
  refine fz_nmu (S := [(40, 6), (42, 99999), (43, 99999)]) (h0 := h) (fz_Iv_up hI12 (by decide) (show (-2147483648) ≤ (h 40 3) by omega) (show (h 40 3) ≤ 2147483647 by omega)) (fz_fr_up hf13 rfl) (fun H16 hI17 hf18 e19 => ?_)
  clear e19
  refine fz_aload_n kX1_keepImage rfl rfl ?_
  refine fz_getR (t := 43) kX1_keepImage rfl rfl ?_
  refine fz_iconst ⟨by decide, by decide⟩ kX1_keepImage rfl ?_
  refine fz_aload_n kX1_keepImage rfl rfl ?_
  refine fz_getV (v := h 40 4) kX1_keepImage rfl rfl (hf18 40 4 rfl) ?_
  have b20 : (-2147483648) ≤ h 40 4 ∧ h 40 4 ≤ 2147483647 := hI.1 40 _
  refine fz_iast (n := 5) kX1_keepImage rfl rfl (by omega) (by omega) ?_
  refine fz_nmu (S := [(40, 6), (42, 99999), (43, 99999)]) (h0 := h) (fz_Iv_up hI17 (by decide) (show (-2147483648) ≤ (h 40 4) by omega) (show (h 40 4) ≤ 2147483647 by omega)) (fz_fr_up hf18 rfl) (fun H21 hI22 hf23 e24 => ?_)
  clear e24
  refine fz_aload_n kX1_keepImage rfl rfl ?_
  refine fz_getR (t := 43) kX1_keepImage rfl rfl ?_
  refine fz_iconst ⟨by decide, by decide⟩ kX1_keepImage rfl ?_
  refine fz_aload_n kX1_keepImage rfl rfl ?_
  refine fz_getV (v := h 40 5) kX1_keepImage rfl rfl (hf23 40 5 rfl) ?_
  have b25 : (-2147483648) ≤ h 40 5 ∧ h 40 5 ≤ 2147483647 := hI.1 40 _
  refine fz_iast (n := 5) kX1_keepImage rfl rfl (by omega) (by omega) ?_
  refine fz_nmu (S := [(40, 6), (42, 99999), (43, 99999)]) (h0 := h) (fz_Iv_up hI22 (by decide) (show (-2147483648) ≤ (h 40 5) by omega) (show (h 40 5) ≤ 2147483647 by omega)) (fz_fr_up hf23 rfl) (fun H26 hI27 hf28 e29 => ?_)
  clear e29
  refine fz_aload_n kX1_keepImage rfl rfl ?_
  refine fz_iconst ⟨by decide, by decide⟩ kX1_keepImage rfl ?_
  refine fz_putZ kX1_keepImage rfl rfl rfl (by omega) ?_
  refine fz_nmu (S := [(40, 6), (42, 99999), (43, 99999)]) (h0 := h) (fz_Iv_up hI27 (by decide) (show 0 ≤ 1 by omega) (show 1 ≤ 1 by omega)) (fz_fr_up hf28 rfl) (fun H30 hI31 hf32 e33 => ?_)
  have k34 : H30 40 6 = 1 := by rw [e33]; exact fz_up_e
  clear e33
  exact fz_vret kX1_keepImage rfl rfl ⟨hI31, hf32, rfl⟩

abbrev qX1_layBack (h : fz_H) : fz_H → Option fz_V → Prop := fun h' r0 => fz_Iv h' ∧ fz_fr [(40, 1), (40, 2), (40, 3), (40, 4), (40, 5), (41, 99999)] h h' ∧ r0 = none
set_option maxHeartbeats 1000000 in
set_option maxRecDepth 100000 in
theorem sX1_layBack (h : fz_H) (hI : fz_Iv h) : fz_R 1 mX1_layBack 0 [(0, fz_r 40)] [] h (qX1_layBack h) := by
  have hf : fz_fr [(40, 1), (40, 2), (40, 3), (40, 4), (40, 5), (41, 99999)] h h := fz_fr_rf
  refine fz_aload_n kX1_layBack rfl rfl ?_
  refine fz_getR (t := 42) kX1_layBack rfl rfl ?_
  refine fz_iconst ⟨by decide, by decide⟩ kX1_layBack rfl ?_
  refine fz_aload_n kX1_layBack rfl rfl ?_
  refine fz_getR (t := 41) kX1_layBack rfl rfl ?_
  refine fz_iconst ⟨by decide, by decide⟩ kX1_layBack rfl ?_
  refine fz_iconst ⟨by decide, by decide⟩ kX1_layBack rfl ?_
  refine fz_copyi (n1 := 4) (n2 := 4) kX1_layBack rfl rfl rfl rfl (by omega) (by omega) (by omega) (by omega) (by omega) (by decide) (Nat.le_of_ble_eq_true rfl) ?_
  refine fz_nmu (S := [(40, 1), (40, 2), (40, 3), (40, 4), (40, 5), (41, 99999)]) (h0 := h) (fz_Iv_cp hI (by decide) (fun k l _ _ _ => hI.1 42 k)) (fz_fr_cp hf (fun _ => rfl)) (fun H1 hI2 hf3 e4 => ?_)
  clear e4
  refine fz_aload_n kX1_layBack rfl rfl ?_
  refine fz_aload_n kX1_layBack rfl rfl ?_
  refine fz_getR (t := 43) kX1_layBack rfl rfl ?_
  refine fz_iconst ⟨by decide, by decide⟩ kX1_layBack rfl ?_
  refine fz_ialdV (n := 5) (v := h 43 0) kX1_layBack rfl rfl (by omega) (by omega) (hf3 43 _ rfl) ?_
  have b5 : 0 ≤ h 43 0 ∧ h 43 0 ≤ 999 := hI.1 43 _
  refine fz_putI kX1_layBack rfl rfl rfl ?_
  refine fz_nmu (S := [(40, 1), (40, 2), (40, 3), (40, 4), (40, 5), (41, 99999)]) (h0 := h) (fz_Iv_up hI2 (by decide) (show 0 ≤ (h 43 0) by omega) (show (h 43 0) ≤ 999 by omega)) (fz_fr_up hf3 rfl) (fun H6 hI7 hf8 e9 => ?_)
  have k10 : H6 40 1 = (h 43 0) := by rw [e9]; exact fz_up_e
  clear e9
  refine fz_aload_n kX1_layBack rfl rfl ?_
  refine fz_aload_n kX1_layBack rfl rfl ?_
  refine fz_getR (t := 43) kX1_layBack rfl rfl ?_
  refine fz_iconst ⟨by decide, by decide⟩ kX1_layBack rfl ?_
  refine fz_ialdV (n := 5) (v := h 43 1) kX1_layBack rfl rfl (by omega) (by omega) (hf8 43 _ rfl) ?_
  have b11 : (-2147483648) ≤ h 43 1 ∧ h 43 1 ≤ 2147483647 := hI.1 43 _
  refine fz_putI kX1_layBack rfl rfl rfl ?_
  refine fz_nmu (S := [(40, 1), (40, 2), (40, 3), (40, 4), (40, 5), (41, 99999)]) (h0 := h) (fz_Iv_up hI7 (by decide) (show (-2147483648) ≤ (h 43 1) by omega) (show (h 43 1) ≤ 2147483647 by omega)) (fz_fr_up hf8 rfl) (fun H12 hI13 hf14 e15 => ?_)
  have k16 : H12 40 1 = (h 43 0) := by rw [e15]; exact (fz_up_s (by decide)).trans k10
  have k17 : H12 40 2 = (h 43 1) := by rw [e15]; exact fz_up_e
  clear e15
  refine fz_aload_n kX1_layBack rfl rfl ?_
  refine fz_aload_n kX1_layBack rfl rfl ?_
  refine fz_getR (t := 43) kX1_layBack rfl rfl ?_
  refine fz_iconst ⟨by decide, by decide⟩ kX1_layBack rfl ?_
  refine fz_ialdV (n := 5) (v := h 43 2) kX1_layBack rfl rfl (by omega) (by omega) (hf14 43 _ rfl) ?_
  have b18 : (-2147483648) ≤ h 43 2 ∧ h 43 2 ≤ 2147483647 := hI.1 43 _
  refine fz_putI kX1_layBack rfl rfl rfl ?_
  refine fz_nmu (S := [(40, 1), (40, 2), (40, 3), (40, 4), (40, 5), (41, 99999)]) (h0 := h) (fz_Iv_up hI13 (by decide) (show (-2147483648) ≤ (h 43 2) by omega) (show (h 43 2) ≤ 2147483647 by omega)) (fz_fr_up hf14 rfl) (fun H19 hI20 hf21 e22 => ?_)
  have k23 : H19 40 1 = (h 43 0) := by rw [e22]; exact (fz_up_s (by decide)).trans k16
  have k24 : H19 40 2 = (h 43 1) := by rw [e22]; exact (fz_up_s (by decide)).trans k17
  have k25 : H19 40 3 = (h 43 2) := by rw [e22]; exact fz_up_e
  clear e22
  refine fz_aload_n kX1_layBack rfl rfl ?_
  refine fz_aload_n kX1_layBack rfl rfl ?_
  refine fz_getR (t := 43) kX1_layBack rfl rfl ?_
  refine fz_iconst ⟨by decide, by decide⟩ kX1_layBack rfl ?_
  refine fz_ialdV (n := 5) (v := h 43 3) kX1_layBack rfl rfl (by omega) (by omega) (hf21 43 _ rfl) ?_
  have b26 : (-2147483648) ≤ h 43 3 ∧ h 43 3 ≤ 2147483647 := hI.1 43 _
  refine fz_putI kX1_layBack rfl rfl rfl ?_
  refine fz_nmu (S := [(40, 1), (40, 2), (40, 3), (40, 4), (40, 5), (41, 99999)]) (h0 := h) (fz_Iv_up hI20 (by decide) (show (-2147483648) ≤ (h 43 3) by omega) (show (h 43 3) ≤ 2147483647 by omega)) (fz_fr_up hf21 rfl) (fun H27 hI28 hf29 e30 => ?_)
  have k31 : H27 40 1 = (h 43 0) := by rw [e30]; exact (fz_up_s (by decide)).trans k23
  have k32 : H27 40 2 = (h 43 1) := by rw [e30]; exact (fz_up_s (by decide)).trans k24
  have k33 : H27 40 3 = (h 43 2) := by rw [e30]; exact (fz_up_s (by decide)).trans k25
  have k34 : H27 40 4 = (h 43 3) := by rw [e30]; exact fz_up_e
  clear e30
  refine fz_aload_n kX1_layBack rfl rfl ?_
  refine fz_aload_n kX1_layBack rfl rfl ?_
  refine fz_getR (t := 43) kX1_layBack rfl rfl ?_
  refine fz_iconst ⟨by decide, by decide⟩ kX1_layBack rfl ?_
  refine fz_ialdV (n := 5) (v := h 43 4) kX1_layBack rfl rfl (by omega) (by omega) (hf29 43 _ rfl) ?_
  have b35 : (-2147483648) ≤ h 43 4 ∧ h 43 4 ≤ 2147483647 := hI.1 43 _
  refine fz_putI kX1_layBack rfl rfl rfl ?_
  refine fz_nmu (S := [(40, 1), (40, 2), (40, 3), (40, 4), (40, 5), (41, 99999)]) (h0 := h) (fz_Iv_up hI28 (by decide) (show (-2147483648) ≤ (h 43 4) by omega) (show (h 43 4) ≤ 2147483647 by omega)) (fz_fr_up hf29 rfl) (fun H36 hI37 hf38 e39 => ?_)
  have k40 : H36 40 1 = (h 43 0) := by rw [e39]; exact (fz_up_s (by decide)).trans k31
  have k41 : H36 40 2 = (h 43 1) := by rw [e39]; exact (fz_up_s (by decide)).trans k32
  have k42 : H36 40 3 = (h 43 2) := by rw [e39]; exact (fz_up_s (by decide)).trans k33
  have k43 : H36 40 4 = (h 43 3) := by rw [e39]; exact (fz_up_s (by decide)).trans k34
  have k44 : H36 40 5 = (h 43 4) := by rw [e39]; exact fz_up_e
  clear e39
  exact fz_vret kX1_layBack rfl rfl ⟨hI37, hf38, rfl⟩

abbrev qX0_stepBack (h : fz_H) : fz_H → Option fz_V → Prop := fun h' r0 => fz_Iv h' ∧ fz_fr [(35, 4)] h h' ∧ ∃ r : Int, r0 = some (fz_i r) ∧ ((-5) ≤ r ∧ r ≤ 39)
set_option maxHeartbeats 1000000 in
set_option maxRecDepth 100000 in
theorem sX0_stepBack (h : fz_H) (hI : fz_Iv h) : fz_R 0 mX0_stepBack 0 [(0, fz_r 35)] [] h (qX0_stepBack h) := by
  have hf : fz_fr [(35, 4)] h h := fz_fr_rf
  refine fz_aload_n kX0_stepBack rfl rfl ?_
  refine fz_getV (v := h 35 4) kX0_stepBack rfl rfl rfl ?_
  have b1 : 0 ≤ h 35 4 ∧ h 35 4 ≤ 40 := hI.1 35 _
  refine fz_if_gt (tgt := 10) kX0_stepBack rfl (by decide) (fun c2 => ?_) (fun c2 => ?_)
  · refine fz_aload_n kX0_stepBack rfl rfl ?_
    refine fz_dup rfl kX0_stepBack rfl ?_
    refine fz_getV (v := h 35 4) kX0_stepBack rfl rfl rfl ?_
    refine fz_iconst ⟨by decide, by decide⟩ kX0_stepBack rfl ?_
    refine fz_isubN kX0_stepBack rfl (by omega) ?_
    refine fz_putI kX0_stepBack rfl rfl rfl ?_
    refine fz_nmu (S := [(35, 4)]) (h0 := h) (fz_Iv_up hI (by decide) (show 0 ≤ ((h 35 4) - 1) by omega) (show ((h 35 4) - 1) ≤ 40 by omega)) (fz_fr_up hf rfl) (fun H3 hI4 hf5 e6 => ?_)
    have k7 : H3 35 4 = ((h 35 4) - 1) := by rw [e6]; exact fz_up_e
    clear e6
    refine fz_aload_n kX0_stepBack rfl rfl ?_
    refine fz_getV (v := ((h 35 4) - 1)) kX0_stepBack rfl rfl k7 ?_
    exact fz_iret kX0_stepBack rfl rfl (fun _ => ⟨hI4, hf5, _, rfl, (by omega)⟩)
  · refine fz_bipush ⟨by decide, by decide⟩ kX0_stepBack rfl ?_
    exact fz_iret kX0_stepBack rfl rfl (fun _ => ⟨hI, hf, _, rfl, (by omega)⟩)

abbrev qX0_stepAhead (h : fz_H) : fz_H → Option fz_V → Prop := fun h' r0 => fz_Iv h' ∧ fz_fr [(35, 4)] h h' ∧ ∃ r : Int, r0 = some (fz_i r) ∧ ((-5) ≤ r ∧ r ≤ 39)
set_option maxHeartbeats 1000000 in
set_option maxRecDepth 100000 in
theorem sX0_stepAhead (h : fz_H) (hI : fz_Iv h) : fz_R 0 mX0_stepAhead 0 [(0, fz_r 35)] [] h (qX0_stepAhead h) := by
  have hf : fz_fr [(35, 4)] h h := fz_fr_rf
  refine fz_aload_n kX0_stepAhead rfl rfl ?_
  refine fz_getV (v := h 35 4) kX0_stepAhead rfl rfl rfl ?_
  have b1 : 0 ≤ h 35 4 ∧ h 35 4 ≤ 40 := hI.1 35 _
  refine fz_aload_n kX0_stepAhead rfl rfl ?_
  refine fz_getV (v := h 35 5) kX0_stepAhead rfl rfl rfl ?_
  have b2 : 0 ≤ h 35 5 ∧ h 35 5 ≤ 40 := hI.1 35 _
  refine fz_icmp_lt (tgt := 14) kX0_stepAhead rfl (by decide) (fun c3 => ?_) (fun c3 => ?_)
  · refine fz_aload_n kX0_stepAhead rfl rfl ?_
    refine fz_dup rfl kX0_stepAhead rfl ?_
    refine fz_getV (v := h 35 4) kX0_stepAhead rfl rfl rfl ?_
    refine fz_iconst ⟨by decide, by decide⟩ kX0_stepAhead rfl ?_
    refine fz_iaddN kX0_stepAhead rfl (by omega) ?_
    refine fz_putI kX0_stepAhead rfl rfl rfl ?_
    refine fz_nmu (S := [(35, 4)]) (h0 := h) (fz_Iv_up hI (by decide) (show 0 ≤ ((h 35 4) + 1) by omega) (show ((h 35 4) + 1) ≤ 40 by omega)) (fz_fr_up hf rfl) (fun H4 hI5 hf6 e7 => ?_)
    have k8 : H4 35 4 = ((h 35 4) + 1) := by rw [e7]; exact fz_up_e
    clear e7
    refine fz_aload_n kX0_stepAhead rfl rfl ?_
    refine fz_getV (v := ((h 35 4) + 1)) kX0_stepAhead rfl rfl k8 ?_
    refine fz_iconst ⟨by decide, by decide⟩ kX0_stepAhead rfl ?_
    refine fz_isubN kX0_stepAhead rfl (by omega) ?_
    exact fz_iret kX0_stepAhead rfl rfl (fun _ => ⟨hI5, hf6, _, rfl, (by omega)⟩)
  · refine fz_bipush ⟨by decide, by decide⟩ kX0_stepAhead rfl ?_
    exact fz_iret kX0_stepAhead rfl rfl (fun _ => ⟨hI, hf, _, rfl, (by omega)⟩)
