/-! ===== what the methods keep ===== -/
abbrev qX1_go (h : fz_H) (on to hr : Int) : fz_H → Option fz_V → Prop := fun h' r0 => fz_Iv h' ∧ fz_fr [(40, 1), (40, 2), (40, 3), (41, 99999)] h h' ∧ fz_RT h' ∧ r0 = none ∧ h' 40 1 = h 40 1 + hr ∧ h' 41 = fz_up h 41 on.toNat to 41 ∧ h' 40 2 = fz_w (h 40 2 + 1) ∧ h' 40 3 = fz_w (h 40 3 + hr)
set_option maxHeartbeats 1000000 in
set_option maxRecDepth 100000 in
theorem sX1_go (h : fz_H) (hI : fz_Iv h) (on to hr : Int) (hRT : fz_RT h) (hp0 : to < h 1 7) (hp1 : 0 ≤ on ∧ on < 4) (hp2 : 0 ≤ to ∧ to < 8) (hp3 : 0 ≤ hr ∧ hr ≤ 999) (hp4 : h 40 1 + hr ≤ 999) : fz_R 0 mX1_go 0 [(0, fz_r 40), (1, fz_i on), (2, fz_i to), (3, fz_i hr)] [] h (qX1_go h on to hr) := by
  refine fz_knowl (fun hk => ?_)
  have hr_on : -2147483648 ≤ on ∧ on < 2147483648 := hk _ (List.Mem.tail _ (List.Mem.head _))
  have hr_to : -2147483648 ≤ to ∧ to < 2147483648 := hk _ (List.Mem.tail _ (List.Mem.tail _ (List.Mem.head _)))
  have hr_hr : -2147483648 ≤ hr ∧ hr < 2147483648 := hk _ (List.Mem.tail _ (List.Mem.tail _ (List.Mem.tail _ (List.Mem.head _))))
  clear hk
  have hf : fz_fr [(40, 1), (40, 2), (40, 3), (41, 99999)] h h := fz_fr_rf
  have b1 : 0 ≤ h 1 7 ∧ h 1 7 ≤ 8 := hI.1 1 _
  have b2 : 0 ≤ h 40 1 ∧ h 40 1 ≤ 999 := hI.1 40 _
  have b3 : (-2147483648) ≤ h 40 2 ∧ h 40 2 ≤ 2147483647 := hI.1 40 _
  have b4 : (-2147483648) ≤ h 40 3 ∧ h 40 3 ≤ 2147483647 := hI.1 40 _
  refine fz_aload_n kX1_go rfl rfl ?_
  refine fz_getR (t := 41) kX1_go rfl rfl ?_
  refine fz_iload_n kX1_go rfl rfl ?_
  refine fz_iload_n kX1_go rfl rfl ?_
  refine fz_iast (n := 4) kX1_go rfl rfl (by omega) (by omega) ?_
  refine fz_nmu (S := [(40, 1), (40, 2), (40, 3), (41, 99999)]) (h0 := h) (fz_Iv_up hI (by decide) (show (0 : Int) ≤ to by omega) (show (to : Int) ≤ 7 by omega)) (fz_fr_up hf rfl) (fun H5 hI6 hf7 e8 => ?_)
  have k9 : H5 40 1 = (h 40 1) := by rw [e8]; exact (fz_up_o (by decide)).trans rfl
  have k10 : H5 40 2 = (h 40 2) := by rw [e8]; exact (fz_up_o (by decide)).trans rfl
  have k11 : H5 40 3 = (h 40 3) := by rw [e8]; exact (fz_up_o (by decide)).trans rfl
  have hRT12 : fz_RT H5 := by exact fz_RT_st e8 (by omega) hRT
  refine fz_aload_n kX1_go rfl rfl ?_
  refine fz_dup rfl kX1_go rfl ?_
  refine fz_getV (v := (h 40 1)) kX1_go rfl rfl k9 ?_
  refine fz_iload_n kX1_go rfl rfl ?_
  refine fz_iaddN kX1_go rfl (by omega) ?_
  refine fz_putI kX1_go rfl rfl rfl ?_
  refine fz_nmu (S := [(40, 1), (40, 2), (40, 3), (41, 99999)]) (h0 := h) (fz_Iv_up hI6 (by decide) (show (0 : Int) ≤ ((h 40 1) + hr) by omega) (show (((h 40 1) + hr) : Int) ≤ 999 by omega)) (fz_fr_up hf7 rfl) (fun H14 hI15 hf16 e17 => ?_)
  have k18 : H14 40 2 = (h 40 2) := by rw [e17]; exact (fz_up_s (by decide)).trans k10
  have k19 : H14 40 3 = (h 40 3) := by rw [e17]; exact (fz_up_s (by decide)).trans k11
  have k20 : H14 40 1 = ((h 40 1) + hr) := by rw [e17]; exact fz_up_e
  have hRT21 : fz_RT H14 := fz_RT_eq (by rw [e17]; exact fz_up_ne (by decide)) (by rw [e17]; exact fz_up_ne (by decide)) (by rw [e17]; exact fz_up_o (by decide)) hRT12
  refine fz_aload_n kX1_go rfl rfl ?_
  refine fz_dup rfl kX1_go rfl ?_
  refine fz_getV (v := (h 40 2)) kX1_go rfl rfl k18 ?_
  refine fz_iconst ⟨by decide, by decide⟩ kX1_go rfl ?_
  refine fz_iadd kX1_go rfl ?_
  have b22 := fz_w_b ((h 40 2) + 1)
  refine fz_putI kX1_go rfl rfl rfl ?_
  refine fz_nmu (S := [(40, 1), (40, 2), (40, 3), (41, 99999)]) (h0 := h) (fz_Iv_up hI15 (by decide) (show ((-2147483648) : Int) ≤ (fz_w ((h 40 2) + 1)) by omega) (show ((fz_w ((h 40 2) + 1)) : Int) ≤ 2147483647 by omega)) (fz_fr_up hf16 rfl) (fun H23 hI24 hf25 e26 => ?_)
  have k27 : H23 40 3 = (h 40 3) := by rw [e26]; exact (fz_up_s (by decide)).trans k19
  have k28 : H23 40 1 = ((h 40 1) + hr) := by rw [e26]; exact (fz_up_s (by decide)).trans k20
  have k29 : H23 40 2 = (fz_w ((h 40 2) + 1)) := by rw [e26]; exact fz_up_e
  have hRT30 : fz_RT H23 := fz_RT_eq (by rw [e26]; exact fz_up_ne (by decide)) (by rw [e26]; exact fz_up_ne (by decide)) (by rw [e26]; exact fz_up_o (by decide)) hRT21
  refine fz_aload_n kX1_go rfl rfl ?_
  refine fz_dup rfl kX1_go rfl ?_
  refine fz_getV (v := (h 40 3)) kX1_go rfl rfl k27 ?_
  refine fz_iload_n kX1_go rfl rfl ?_
  refine fz_iadd kX1_go rfl ?_
  have b31 := fz_w_b ((h 40 3) + hr)
  refine fz_putI kX1_go rfl rfl rfl ?_
  refine fz_nmu (S := [(40, 1), (40, 2), (40, 3), (41, 99999)]) (h0 := h) (fz_Iv_up hI24 (by decide) (show ((-2147483648) : Int) ≤ (fz_w ((h 40 3) + hr)) by omega) (show ((fz_w ((h 40 3) + hr)) : Int) ≤ 2147483647 by omega)) (fz_fr_up hf25 rfl) (fun H32 hI33 hf34 e35 => ?_)
  have k36 : H32 40 1 = ((h 40 1) + hr) := by rw [e35]; exact (fz_up_s (by decide)).trans k28
  have k37 : H32 40 2 = (fz_w ((h 40 2) + 1)) := by rw [e35]; exact (fz_up_s (by decide)).trans k29
  have k38 : H32 40 3 = (fz_w ((h 40 3) + hr)) := by rw [e35]; exact fz_up_e
  have hRT39 : fz_RT H32 := fz_RT_eq (by rw [e35]; exact fz_up_ne (by decide)) (by rw [e35]; exact fz_up_ne (by decide)) (by rw [e35]; exact fz_up_o (by decide)) hRT30
  exact fz_vret kX1_go rfl rfl ⟨hI33, hf34, hRT39, rfl, (by omega), (by rw [e35, fz_up_ne (by decide), e26, fz_up_ne (by decide), e17, fz_up_ne (by decide), e8]), (by omega), (by omega)⟩

abbrev qX1_keepImage (h : fz_H) : fz_H → Option fz_V → Prop := fun h' r0 => fz_Iv h' ∧ fz_fr [(40, 6), (42, 99999), (43, 99999)] h h' ∧ fz_RT h' ∧ r0 = none ∧ fz_imC h h' ∧ fl_kiC h h'
set_option maxHeartbeats 1000000 in
set_option maxRecDepth 100000 in
theorem sX1_keepImage (h : fz_H) (hI : fz_Iv h) (hRT : fz_RT h) : fz_R 1 mX1_keepImage 0 [(0, fz_r 40)] [] h (qX1_keepImage h) := by
  have hf : fz_fr [(40, 6), (42, 99999), (43, 99999)] h h := fz_fr_rf
  refine fz_aload_n kX1_keepImage rfl rfl ?_
  refine fz_getR (t := 41) kX1_keepImage rfl rfl ?_
  refine fz_iconst ⟨by decide, by decide⟩ kX1_keepImage rfl ?_
  refine fz_aload_n kX1_keepImage rfl rfl ?_
  refine fz_getR (t := 42) kX1_keepImage rfl rfl ?_
  refine fz_iconst ⟨by decide, by decide⟩ kX1_keepImage rfl ?_
  refine fz_iconst ⟨by decide, by decide⟩ kX1_keepImage rfl ?_
  refine fz_copyi (n1 := 4) (n2 := 4) kX1_keepImage rfl rfl rfl rfl (by omega) (by omega) (by omega) (by omega) (by omega) (by decide) (Nat.le_of_ble_eq_true rfl) ?_
  refine fz_nmu (S := [(40, 6), (42, 99999), (43, 99999)]) (h0 := h) (fz_Iv_cp hI (by decide) (fun k l _ _ _ => hI.1 41 k)) (fz_fr_cp hf (fun _ => rfl)) (fun H1 hI2 hf3 e4 => ?_)
  have hRT5 : fz_RT H1 := by exact fz_RT_c1 e4 hRT
  refine fz_aload_n kX1_keepImage rfl rfl ?_
  refine fz_getR (t := 43) kX1_keepImage rfl rfl ?_
  refine fz_iconst ⟨by decide, by decide⟩ kX1_keepImage rfl ?_
  refine fz_aload_n kX1_keepImage rfl rfl ?_
  refine fz_getV (v := h 40 1) kX1_keepImage rfl rfl (hf3 40 1 rfl) ?_
  have b7 : 0 ≤ h 40 1 ∧ h 40 1 ≤ 999 := hI.1 40 _
  refine fz_iast (n := 5) kX1_keepImage rfl rfl (by omega) (by omega) ?_
  refine fz_nmu (S := [(40, 6), (42, 99999), (43, 99999)]) (h0 := h) (fz_Iv_up hI2 (by decide) (show (0 : Int) ≤ (h 40 1) by omega) (show ((h 40 1) : Int) ≤ 999 by omega)) (fz_fr_up hf3 rfl) (fun H8 hI9 hf10 e11 => ?_)
  have hRT12 : fz_RT H8 := fz_RT_eq (by rw [e11]; exact fz_up_ne (by decide)) (by rw [e11]; exact fz_up_ne (by decide)) (by rw [e11]; exact fz_up_o (by decide)) hRT5
  refine fz_aload_n kX1_keepImage rfl rfl ?_
  refine fz_getR (t := 43) kX1_keepImage rfl rfl ?_
  refine fz_iconst ⟨by decide, by decide⟩ kX1_keepImage rfl ?_
  refine fz_aload_n kX1_keepImage rfl rfl ?_
  refine fz_getV (v := h 40 2) kX1_keepImage rfl rfl (hf10 40 2 rfl) ?_
  have b13 : (-2147483648) ≤ h 40 2 ∧ h 40 2 ≤ 2147483647 := hI.1 40 _
  refine fz_iast (n := 5) kX1_keepImage rfl rfl (by omega) (by omega) ?_
  refine fz_nmu (S := [(40, 6), (42, 99999), (43, 99999)]) (h0 := h) (fz_Iv_up hI9 (by decide) (show ((-2147483648) : Int) ≤ (h 40 2) by omega) (show ((h 40 2) : Int) ≤ 2147483647 by omega)) (fz_fr_up hf10 rfl) (fun H14 hI15 hf16 e17 => ?_)
  have hRT18 : fz_RT H14 := fz_RT_eq (by rw [e17]; exact fz_up_ne (by decide)) (by rw [e17]; exact fz_up_ne (by decide)) (by rw [e17]; exact fz_up_o (by decide)) hRT12
  refine fz_aload_n kX1_keepImage rfl rfl ?_
  refine fz_getR (t := 43) kX1_keepImage rfl rfl ?_
  refine fz_iconst ⟨by decide, by decide⟩ kX1_keepImage rfl ?_
  refine fz_aload_n kX1_keepImage rfl rfl ?_
  refine fz_getV (v := h 40 3) kX1_keepImage rfl rfl (hf16 40 3 rfl) ?_
  have b19 : (-2147483648) ≤ h 40 3 ∧ h 40 3 ≤ 2147483647 := hI.1 40 _
  refine fz_iast (n := 5) kX1_keepImage rfl rfl (by omega) (by omega) ?_
  refine fz_nmu (S := [(40, 6), (42, 99999), (43, 99999)]) (h0 := h) (fz_Iv_up hI15 (by decide) (show ((-2147483648) : Int) ≤ (h 40 3) by omega) (show ((h 40 3) : Int) ≤ 2147483647 by omega)) (fz_fr_up hf16 rfl) (fun H20 hI21 hf22 e23 => ?_)
  have hRT24 : fz_RT H20 := fz_RT_eq (by rw [e23]; exact fz_up_ne (by decide)) (by rw [e23]; exact fz_up_ne (by decide)) (by rw [e23]; exact fz_up_o (by decide)) hRT18
  refine fz_aload_n kX1_keepImage rfl rfl ?_
  refine fz_getR (t := 43) kX1_keepImage rfl rfl ?_
  refine fz_iconst ⟨by decide, by decide⟩ kX1_keepImage rfl ?_
  refine fz_aload_n kX1_keepImage rfl rfl ?_
  refine fz_getV (v := h 40 4) kX1_keepImage rfl rfl (hf22 40 4 rfl) ?_
  have b25 : (-2147483648) ≤ h 40 4 ∧ h 40 4 ≤ 2147483647 := hI.1 40 _
  refine fz_iast (n := 5) kX1_keepImage rfl rfl (by omega) (by omega) ?_
  refine fz_nmu (S := [(40, 6), (42, 99999), (43, 99999)]) (h0 := h) (fz_Iv_up hI21 (by decide) (show ((-2147483648) : Int) ≤ (h 40 4) by omega) (show ((h 40 4) : Int) ≤ 2147483647 by omega)) (fz_fr_up hf22 rfl) (fun H26 hI27 hf28 e29 => ?_)
  have hRT30 : fz_RT H26 := fz_RT_eq (by rw [e29]; exact fz_up_ne (by decide)) (by rw [e29]; exact fz_up_ne (by decide)) (by rw [e29]; exact fz_up_o (by decide)) hRT24
  refine fz_aload_n kX1_keepImage rfl rfl ?_
  refine fz_getR (t := 43) kX1_keepImage rfl rfl ?_
  refine fz_iconst ⟨by decide, by decide⟩ kX1_keepImage rfl ?_
  refine fz_aload_n kX1_keepImage rfl rfl ?_
  refine fz_getV (v := h 40 5) kX1_keepImage rfl rfl (hf28 40 5 rfl) ?_
  have b31 : (-2147483648) ≤ h 40 5 ∧ h 40 5 ≤ 2147483647 := hI.1 40 _
  refine fz_iast (n := 5) kX1_keepImage rfl rfl (by omega) (by omega) ?_
  refine fz_nmu (S := [(40, 6), (42, 99999), (43, 99999)]) (h0 := h) (fz_Iv_up hI27 (by decide) (show ((-2147483648) : Int) ≤ (h 40 5) by omega) (show ((h 40 5) : Int) ≤ 2147483647 by omega)) (fz_fr_up hf28 rfl) (fun H32 hI33 hf34 e35 => ?_)
  have hRT36 : fz_RT H32 := fz_RT_eq (by rw [e35]; exact fz_up_ne (by decide)) (by rw [e35]; exact fz_up_ne (by decide)) (by rw [e35]; exact fz_up_o (by decide)) hRT30
  refine fz_aload_n kX1_keepImage rfl rfl ?_
  refine fz_iconst ⟨by decide, by decide⟩ kX1_keepImage rfl ?_
  refine fz_putZ kX1_keepImage rfl rfl rfl (by omega) ?_
  refine fz_nmu (S := [(40, 6), (42, 99999), (43, 99999)]) (h0 := h) (fz_Iv_up hI33 (by decide) (show (0 : Int) ≤ 1 by decide) (show (1 : Int) ≤ 1 by decide)) (fz_fr_up hf34 rfl) (fun H37 hI38 hf39 e40 => ?_)
  have k41 : H37 40 6 = 1 := by rw [e40]; exact fz_up_e
  have hRT42 : fz_RT H37 := fz_RT_eq (by rw [e40]; exact fz_up_ne (by decide)) (by rw [e40]; exact fz_up_ne (by decide)) (by rw [e40]; exact fz_up_o (by decide)) hRT36
  exact fz_vret kX1_keepImage rfl rfl ⟨hI38, hf39, hRT42, rfl, (by exact fz_imC_in e4 e11 e17 e23 e29 e35 e40 rfl), (by exact fl_kiC_in e11 e17 e23 e29 e35 e40 rfl rfl rfl rfl)⟩

abbrev qX1_layBack (h : fz_H) : fz_H → Option fz_V → Prop := fun h' r0 => fz_Iv h' ∧ fz_fr [(40, 1), (40, 2), (40, 3), (40, 4), (40, 5), (41, 99999)] h h' ∧ fz_RT h' ∧ r0 = none ∧ fz_lbC h h' ∧ fl_lkC h h'
set_option maxHeartbeats 1000000 in
set_option maxRecDepth 100000 in
theorem sX1_layBack (h : fz_H) (hI : fz_Iv h) (hRT : fz_RT h) : fz_R 1 mX1_layBack 0 [(0, fz_r 40)] [] h (qX1_layBack h) := by
  have hf : fz_fr [(40, 1), (40, 2), (40, 3), (40, 4), (40, 5), (41, 99999)] h h := fz_fr_rf
  refine fz_aload_n kX1_layBack rfl rfl ?_
  refine fz_getR (t := 42) kX1_layBack rfl rfl ?_
  refine fz_iconst ⟨by decide, by decide⟩ kX1_layBack rfl ?_
  refine fz_aload_n kX1_layBack rfl rfl ?_
  refine fz_getR (t := 41) kX1_layBack rfl rfl ?_
  refine fz_iconst ⟨by decide, by decide⟩ kX1_layBack rfl ?_
  refine fz_iconst ⟨by decide, by decide⟩ kX1_layBack rfl ?_
  refine fz_copyi (n1 := 4) (n2 := 4) kX1_layBack rfl rfl rfl rfl (by omega) (by omega) (by omega) (by omega) (by omega) (by decide) (Nat.le_of_ble_eq_true rfl) ?_
  refine fz_nmu (S := [(40, 1), (40, 2), (40, 3), (40, 4), (40, 5), (41, 99999)]) (h0 := h) (fz_Iv_cp hI (by decide) (fun k l _ _ _ => hI.1 42 k)) (fz_fr_cp hf (fun _ => rfl)) (fun H1 hI2 hf3 e4 => ?_)
  have hRT5 : fz_RT H1 := by exact fz_RT_c2 e4 hRT
  refine fz_aload_n kX1_layBack rfl rfl ?_
  refine fz_aload_n kX1_layBack rfl rfl ?_
  refine fz_getR (t := 43) kX1_layBack rfl rfl ?_
  refine fz_iconst ⟨by decide, by decide⟩ kX1_layBack rfl ?_
  refine fz_ialdV (n := 5) (v := h 43 0) kX1_layBack rfl rfl (by omega) (by omega) (hf3 43 _ rfl) ?_
  have b7 : 0 ≤ h 43 0 ∧ h 43 0 ≤ 999 := hI.1 43 _
  refine fz_putI kX1_layBack rfl rfl rfl ?_
  refine fz_nmu (S := [(40, 1), (40, 2), (40, 3), (40, 4), (40, 5), (41, 99999)]) (h0 := h) (fz_Iv_up hI2 (by decide) (show (0 : Int) ≤ (h 43 0) by omega) (show ((h 43 0) : Int) ≤ 999 by omega)) (fz_fr_up hf3 rfl) (fun H8 hI9 hf10 e11 => ?_)
  have k12 : H8 40 1 = (h 43 0) := by rw [e11]; exact fz_up_e
  have hRT13 : fz_RT H8 := fz_RT_eq (by rw [e11]; exact fz_up_ne (by decide)) (by rw [e11]; exact fz_up_ne (by decide)) (by rw [e11]; exact fz_up_o (by decide)) hRT5
  refine fz_aload_n kX1_layBack rfl rfl ?_
  refine fz_aload_n kX1_layBack rfl rfl ?_
  refine fz_getR (t := 43) kX1_layBack rfl rfl ?_
  refine fz_iconst ⟨by decide, by decide⟩ kX1_layBack rfl ?_
  refine fz_ialdV (n := 5) (v := h 43 1) kX1_layBack rfl rfl (by omega) (by omega) (hf10 43 _ rfl) ?_
  have b14 : (-2147483648) ≤ h 43 1 ∧ h 43 1 ≤ 2147483647 := hI.1 43 _
  refine fz_putI kX1_layBack rfl rfl rfl ?_
  refine fz_nmu (S := [(40, 1), (40, 2), (40, 3), (40, 4), (40, 5), (41, 99999)]) (h0 := h) (fz_Iv_up hI9 (by decide) (show ((-2147483648) : Int) ≤ (h 43 1) by omega) (show ((h 43 1) : Int) ≤ 2147483647 by omega)) (fz_fr_up hf10 rfl) (fun H15 hI16 hf17 e18 => ?_)
  have k19 : H15 40 1 = (h 43 0) := by rw [e18]; exact (fz_up_s (by decide)).trans k12
  have k20 : H15 40 2 = (h 43 1) := by rw [e18]; exact fz_up_e
  have hRT21 : fz_RT H15 := fz_RT_eq (by rw [e18]; exact fz_up_ne (by decide)) (by rw [e18]; exact fz_up_ne (by decide)) (by rw [e18]; exact fz_up_o (by decide)) hRT13
  refine fz_aload_n kX1_layBack rfl rfl ?_
  refine fz_aload_n kX1_layBack rfl rfl ?_
  refine fz_getR (t := 43) kX1_layBack rfl rfl ?_
  refine fz_iconst ⟨by decide, by decide⟩ kX1_layBack rfl ?_
  refine fz_ialdV (n := 5) (v := h 43 2) kX1_layBack rfl rfl (by omega) (by omega) (hf17 43 _ rfl) ?_
  have b22 : (-2147483648) ≤ h 43 2 ∧ h 43 2 ≤ 2147483647 := hI.1 43 _
  refine fz_putI kX1_layBack rfl rfl rfl ?_
  refine fz_nmu (S := [(40, 1), (40, 2), (40, 3), (40, 4), (40, 5), (41, 99999)]) (h0 := h) (fz_Iv_up hI16 (by decide) (show ((-2147483648) : Int) ≤ (h 43 2) by omega) (show ((h 43 2) : Int) ≤ 2147483647 by omega)) (fz_fr_up hf17 rfl) (fun H23 hI24 hf25 e26 => ?_)
  have k27 : H23 40 1 = (h 43 0) := by rw [e26]; exact (fz_up_s (by decide)).trans k19
  have k28 : H23 40 2 = (h 43 1) := by rw [e26]; exact (fz_up_s (by decide)).trans k20
  have k29 : H23 40 3 = (h 43 2) := by rw [e26]; exact fz_up_e
  have hRT30 : fz_RT H23 := fz_RT_eq (by rw [e26]; exact fz_up_ne (by decide)) (by rw [e26]; exact fz_up_ne (by decide)) (by rw [e26]; exact fz_up_o (by decide)) hRT21
  refine fz_aload_n kX1_layBack rfl rfl ?_
  refine fz_aload_n kX1_layBack rfl rfl ?_
  refine fz_getR (t := 43) kX1_layBack rfl rfl ?_
  refine fz_iconst ⟨by decide, by decide⟩ kX1_layBack rfl ?_
  refine fz_ialdV (n := 5) (v := h 43 3) kX1_layBack rfl rfl (by omega) (by omega) (hf25 43 _ rfl) ?_
  have b31 : (-2147483648) ≤ h 43 3 ∧ h 43 3 ≤ 2147483647 := hI.1 43 _
  refine fz_putI kX1_layBack rfl rfl rfl ?_
  refine fz_nmu (S := [(40, 1), (40, 2), (40, 3), (40, 4), (40, 5), (41, 99999)]) (h0 := h) (fz_Iv_up hI24 (by decide) (show ((-2147483648) : Int) ≤ (h 43 3) by omega) (show ((h 43 3) : Int) ≤ 2147483647 by omega)) (fz_fr_up hf25 rfl) (fun H32 hI33 hf34 e35 => ?_)
  have k36 : H32 40 1 = (h 43 0) := by rw [e35]; exact (fz_up_s (by decide)).trans k27
  have k37 : H32 40 2 = (h 43 1) := by rw [e35]; exact (fz_up_s (by decide)).trans k28
  have k38 : H32 40 3 = (h 43 2) := by rw [e35]; exact (fz_up_s (by decide)).trans k29
  have k39 : H32 40 4 = (h 43 3) := by rw [e35]; exact fz_up_e
  have hRT40 : fz_RT H32 := fz_RT_eq (by rw [e35]; exact fz_up_ne (by decide)) (by rw [e35]; exact fz_up_ne (by decide)) (by rw [e35]; exact fz_up_o (by decide)) hRT30
  refine fz_aload_n kX1_layBack rfl rfl ?_
  refine fz_aload_n kX1_layBack rfl rfl ?_
  refine fz_getR (t := 43) kX1_layBack rfl rfl ?_
  refine fz_iconst ⟨by decide, by decide⟩ kX1_layBack rfl ?_
  refine fz_ialdV (n := 5) (v := h 43 4) kX1_layBack rfl rfl (by omega) (by omega) (hf34 43 _ rfl) ?_
  have b41 : (-2147483648) ≤ h 43 4 ∧ h 43 4 ≤ 2147483647 := hI.1 43 _
  refine fz_putI kX1_layBack rfl rfl rfl ?_
  refine fz_nmu (S := [(40, 1), (40, 2), (40, 3), (40, 4), (40, 5), (41, 99999)]) (h0 := h) (fz_Iv_up hI33 (by decide) (show ((-2147483648) : Int) ≤ (h 43 4) by omega) (show ((h 43 4) : Int) ≤ 2147483647 by omega)) (fz_fr_up hf34 rfl) (fun H42 hI43 hf44 e45 => ?_)
  have k46 : H42 40 1 = (h 43 0) := by rw [e45]; exact (fz_up_s (by decide)).trans k36
  have k47 : H42 40 2 = (h 43 1) := by rw [e45]; exact (fz_up_s (by decide)).trans k37
  have k48 : H42 40 3 = (h 43 2) := by rw [e45]; exact (fz_up_s (by decide)).trans k38
  have k49 : H42 40 4 = (h 43 3) := by rw [e45]; exact (fz_up_s (by decide)).trans k39
  have k50 : H42 40 5 = (h 43 4) := by rw [e45]; exact fz_up_e
  have hRT51 : fz_RT H42 := fz_RT_eq (by rw [e45]; exact fz_up_ne (by decide)) (by rw [e45]; exact fz_up_ne (by decide)) (by rw [e45]; exact fz_up_o (by decide)) hRT40
  exact fz_vret kX1_layBack rfl rfl ⟨hI43, hf44, hRT51, rfl, (by exact fz_lbC_in e4 e11 e18 e26 e35 e45 rfl), (by exact fl_lkC_in e11 e18 e26 e35 e45 rfl rfl rfl rfl)⟩

abbrev qX0_stepBack (h : fz_H) : fz_H → Option fz_V → Prop := fun h' r0 => fz_Iv h' ∧ fz_fr [(35, 4)] h h' ∧ ∃ r : Int, r0 = some (fz_i r) ∧ ((-5) ≤ r ∧ r ≤ 39) ∧ (fz_sbC h h' r)
set_option maxHeartbeats 1000000 in
set_option maxRecDepth 100000 in
theorem sX0_stepBack (h : fz_H) (hI : fz_Iv h) : fz_R 0 mX0_stepBack 0 [(0, fz_r 35)] [] h (qX0_stepBack h) := by
  have hf : fz_fr [(35, 4)] h h := fz_fr_rf
  refine fz_aload_n kX0_stepBack rfl rfl ?_
  refine fz_getV (v := h 35 4) kX0_stepBack rfl rfl rfl ?_
  have b1 : 0 ≤ h 35 4 ∧ h 35 4 ≤ 40 := hI.1 35 _
  refine fz_if_gt (tgt := 10) kX0_stepBack rfl (by decide) (fun c2 => ?_) (fun c2 => ?_)
  · refine fz_aload_n kX0_stepBack rfl rfl ?_
    refine fz_dup rfl kX0_stepBack rfl ?_
    refine fz_getV (v := h 35 4) kX0_stepBack rfl rfl rfl ?_
    refine fz_iconst ⟨by decide, by decide⟩ kX0_stepBack rfl ?_
    refine fz_isubN kX0_stepBack rfl (by omega) ?_
    refine fz_putI kX0_stepBack rfl rfl rfl ?_
    refine fz_nmu (S := [(35, 4)]) (h0 := h) (fz_Iv_up hI (by decide) (show (0 : Int) ≤ ((h 35 4) - 1) by omega) (show (((h 35 4) - 1) : Int) ≤ 40 by omega)) (fz_fr_up hf rfl) (fun H3 hI4 hf5 e6 => ?_)
    have k7 : H3 35 4 = ((h 35 4) - 1) := by rw [e6]; exact fz_up_e
    refine fz_aload_n kX0_stepBack rfl rfl ?_
    refine fz_getV (v := ((h 35 4) - 1)) kX0_stepBack rfl rfl k7 ?_
    exact fz_iret kX0_stepBack rfl rfl (fun _ => ⟨hI4, hf5, _, rfl, (by omega), (by first | exact Or.inl ⟨by omega, by omega, rfl⟩ | exact Or.inr ⟨by omega, by omega, e6⟩)⟩)
  · refine fz_bipush ⟨by decide, by decide⟩ kX0_stepBack rfl ?_
    exact fz_iret kX0_stepBack rfl rfl (fun _ => ⟨hI, hf, _, rfl, (by omega), (by first | exact Or.inl ⟨by omega, by omega, rfl⟩ | exact Or.inr ⟨by omega, by omega, lost⟩)⟩)

abbrev qX0_stepAhead (h : fz_H) : fz_H → Option fz_V → Prop := fun h' r0 => fz_Iv h' ∧ fz_fr [(35, 4)] h h' ∧ ∃ r : Int, r0 = some (fz_i r) ∧ ((-5) ≤ r ∧ r ≤ 39) ∧ (fz_saC h h' r)
set_option maxHeartbeats 1000000 in
set_option maxRecDepth 100000 in
theorem sX0_stepAhead (h : fz_H) (hI : fz_Iv h) : fz_R 0 mX0_stepAhead 0 [(0, fz_r 35)] [] h (qX0_stepAhead h) := by
  have hf : fz_fr [(35, 4)] h h := fz_fr_rf
  refine fz_aload_n kX0_stepAhead rfl rfl ?_
  refine fz_getV (v := h 35 4) kX0_stepAhead rfl rfl rfl ?_
  have b1 : 0 ≤ h 35 4 ∧ h 35 4 ≤ 40 := hI.1 35 _
  refine fz_aload_n kX0_stepAhead rfl rfl ?_
  refine fz_getV (v := h 35 5) kX0_stepAhead rfl rfl rfl ?_
  have b2 : 0 ≤ h 35 5 ∧ h 35 5 ≤ 40 := hI.1 35 _
  refine fz_icmp_lt (tgt := 14) kX0_stepAhead rfl (by decide) (fun c3 => ?_) (fun c3 => ?_)
  · refine fz_aload_n kX0_stepAhead rfl rfl ?_
    refine fz_dup rfl kX0_stepAhead rfl ?_
    refine fz_getV (v := h 35 4) kX0_stepAhead rfl rfl rfl ?_
    refine fz_iconst ⟨by decide, by decide⟩ kX0_stepAhead rfl ?_
    refine fz_iaddN kX0_stepAhead rfl (by omega) ?_
    refine fz_putI kX0_stepAhead rfl rfl rfl ?_
    refine fz_nmu (S := [(35, 4)]) (h0 := h) (fz_Iv_up hI (by decide) (show (0 : Int) ≤ ((h 35 4) + 1) by omega) (show (((h 35 4) + 1) : Int) ≤ 40 by omega)) (fz_fr_up hf rfl) (fun H4 hI5 hf6 e7 => ?_)
    have k8 : H4 35 4 = ((h 35 4) + 1) := by rw [e7]; exact fz_up_e
    refine fz_aload_n kX0_stepAhead rfl rfl ?_
    refine fz_getV (v := ((h 35 4) + 1)) kX0_stepAhead rfl rfl k8 ?_
    refine fz_iconst ⟨by decide, by decide⟩ kX0_stepAhead rfl ?_
    refine fz_isubN kX0_stepAhead rfl (by omega) ?_
    exact fz_iret kX0_stepAhead rfl rfl (fun _ => ⟨hI5, hf6, _, rfl, (by omega), (by first | exact Or.inl ⟨by omega, by omega, rfl⟩ | exact Or.inr ⟨by omega, by omega, e7⟩)⟩)
  · refine fz_bipush ⟨by decide, by decide⟩ kX0_stepAhead rfl ?_
    exact fz_iret kX0_stepAhead rfl rfl (fun _ => ⟨hI, hf, _, rfl, (by omega), (by first | exact Or.inl ⟨by omega, by omega, rfl⟩ | exact Or.inr ⟨by omega, by omega, lost⟩)⟩)
