/-! ===== what the methods keep ===== -/
abbrev qX11_isEnough (h : fz_H) (pm t hr wt to x : Int) : fz_H → Option fz_V → Prop := fun h' r0 => fz_Iv h' ∧ fz_fr [(53, 10), (60, 99999), (61, 99999), (62, 99999), (63, 99999), (64, 99999), (74, 99999), (75, 99999), (86, 99999), (87, 99999), (88, 99999)] h h' ∧ fz_Xw h' ∧ fl_HB h' ∧ fz_RM h' ∧ fl_RPm h' ∧ ∃ r : Int, r0 = some (fz_i r) ∧ (r = 0 ∨ r = 1) ∧ (h' 53 10 = h 53 10) ∧ (fz_apM h h' 0 (fun _ => (0, 0, 0, 0, 0))) ∧ (fl_enM h pm t hr wt to x r) ∧ (fl_lo88 h h')
set_option maxHeartbeats 1000000 in
set_option maxRecDepth 100000 in
theorem sX11_isEnough (h : fz_H) (hI : fz_Iv h) (pm t hr wt to x : Int) (hXw : fz_Xw h) (hHB : fl_HB h) (hRM : fz_RM h) (hRPm : fl_RPm h) (hp0 : 0 ≤ pm ∧ pm ≤ 39) (hp1 : pm % 10 ≤ 4) (hp2 : 0 ≤ t ∧ t ≤ 7) (hp3 : 0 ≤ hr ∧ hr ≤ 999) (hp4 : 1 ≤ wt ∧ wt ≤ 9) (hp5 : 0 ≤ to ∧ to / 1000 ≤ 7) (hp6 : h 53 10 ≤ 10) (hp7 : t < h 53 0 ∧ to / 1000 < h 53 0) : fz_R 4 mX11_isEnough 0 [(0, fz_r 53), (1, fz_i pm), (2, fz_i t), (3, fz_i hr), (4, fz_i wt), (5, fz_i to), (6, fz_i x)] [] h (qX11_isEnough h pm t hr wt to x) := by
  refine fz_knowl (fun hk => ?_)
  have hr_pm : -2147483648 ≤ pm ∧ pm < 2147483648 := hk _ (List.Mem.tail _ (List.Mem.head _))
  have hr_t : -2147483648 ≤ t ∧ t < 2147483648 := hk _ (List.Mem.tail _ (List.Mem.tail _ (List.Mem.head _)))
  have hr_hr : -2147483648 ≤ hr ∧ hr < 2147483648 := hk _ (List.Mem.tail _ (List.Mem.tail _ (List.Mem.tail _ (List.Mem.head _))))
  have hr_wt : -2147483648 ≤ wt ∧ wt < 2147483648 := hk _ (List.Mem.tail _ (List.Mem.tail _ (List.Mem.tail _ (List.Mem.tail _ (List.Mem.head _)))))
  have hr_to : -2147483648 ≤ to ∧ to < 2147483648 := hk _ (List.Mem.tail _ (List.Mem.tail _ (List.Mem.tail _ (List.Mem.tail _ (List.Mem.tail _ (List.Mem.head _))))))
  have hr_x : -2147483648 ≤ x ∧ x < 2147483648 := hk _ (List.Mem.tail _ (List.Mem.tail _ (List.Mem.tail _ (List.Mem.tail _ (List.Mem.tail _ (List.Mem.tail _ (List.Mem.head _)))))))
  clear hk
  have hf : fz_fr [(53, 10), (60, 99999), (61, 99999), (62, 99999), (63, 99999), (64, 99999), (74, 99999), (75, 99999), (86, 99999), (87, 99999), (88, 99999)] h h := fz_fr_rf
  have b1 : 0 ≤ h 53 10 ∧ h 53 10 ≤ 11 := hI.1 53 _
  have b2 : 0 ≤ h 53 0 ∧ h 53 0 ≤ 8 := hI.1 53 _
  have k3 : 0 ≤ h 53 0 ∧ h 53 0 ≤ 8 := hI.1 53 _
  refine fz_aload_n kX11_isEnough rfl rfl ?_
  refine fz_iload_n kX11_isEnough rfl rfl ?_
  refine fz_bipush ⟨by decide, by decide⟩ kX11_isEnough rfl ?_
  refine fz_idivN kX11_isEnough rfl (by omega) (by omega) (by omega) ?_
  refine fz_iload_n kX11_isEnough rfl rfl ?_
  refine fz_iload_n kX11_isEnough rfl rfl ?_
  refine fz_iload_n kX11_isEnough rfl rfl ?_
  refine fz_bipush ⟨by decide, by decide⟩ kX11_isEnough rfl ?_
  refine fz_iremN kX11_isEnough rfl (by omega) (by omega) (by omega) ?_
  refine fz_iload kX11_isEnough rfl rfl ?_
  refine fz_callV (d' := 0) (M' := mX11_newDeed) (As := [fz_i (pm / 10), fz_i t, fz_i hr, fz_i (pm % 10), fz_i wt]) (st := []) kX11_isEnough rfl rfl vX11_newDeed rfl rfl rfl rfl (Nat.le_of_ble_eq_true rfl) (Nat.le_of_ble_eq_true rfl) (by decide) (sX11_newDeed h hI (pm / 10) t hr (pm % 10) wt (by omega) (by omega) (by omega) (by omega) (by omega)) (fun H4 r5 q6 o7 => ?_)
  obtain ⟨hI8, hf9, y14, rfl, f10, f11, f12, f13⟩ := q6
  clear o7
  have hf15 := fz_fr_tr hf hf9 (show fz_su [(53, 10), (60, 99999), (61, 99999), (62, 99999), (63, 99999), (64, 99999)] [(53, 10), (60, 99999), (61, 99999), (62, 99999), (63, 99999), (64, 99999), (74, 99999), (75, 99999), (86, 99999), (87, 99999), (88, 99999)] = true from rfl)
  have hXw16 : fz_Xw H4 := fz_Xw_eq (hf9 53 19 rfl) (funext fun s => hf9 66 s rfl) (funext fun s => hf9 67 s rfl) (funext fun s => hf9 68 s rfl) (funext fun s => hf9 69 s rfl) hXw
  have hRM17 : fz_RM H4 := fz_RM_eq (funext fun s => hf9 55 s rfl) (funext fun s => hf9 56 s rfl) (hf9 53 0 rfl) (hf9 53 2 rfl) hRM
  have t18 : H4 53 0 = h 53 0 := hf9 53 0 rfl
  have hRPm19 : fl_RPm H4 := fl_RPm_nd hRPm f13 (by omega)
  refine fz_pop rfl kX11_isEnough rfl ?_
  refine fz_aload_n kX11_isEnough rfl rfl ?_
  refine fz_aload_n kX11_isEnough rfl rfl ?_
  obtain ⟨v21, e22⟩ : ∃ z, H4 53 (10) = z := ⟨_, rfl⟩
  refine fz_getV (v := v21) kX11_isEnough rfl rfl e22 ?_
  have b23 : 0 ≤ v21 ∧ v21 ≤ 11 := by rw [← e22]; exact hI8.1 53 _
  refine fz_iconst ⟨by decide, by decide⟩ kX11_isEnough rfl ?_
  refine fz_isubN kX11_isEnough rfl (by omega) ?_
  have k24 := fl_RPm_i (d := (v21 - 1)) hRPm19 (by omega)
  have e25 : H4 53 0 = h 53 0 := hf15 53 0 rfl
  refine fz_callV (d' := 2) (M' := mX11_hears) (As := [fz_i (v21 - 1)]) (st := []) kX11_isEnough rfl rfl vX11_hears rfl rfl rfl rfl (Nat.le_of_ble_eq_true rfl) (Nat.le_of_ble_eq_true rfl) (by decide) (sX11_hears H4 hI8 (v21 - 1) hRM17 (by omega) (by omega)) (fun H26 r27 q28 o29 => ?_)
  obtain ⟨hI30, hf31, hRM32, rfl, f33⟩ := q28
  clear o29
  have hf34 := fz_fr_tr hf15 hf31 (show fz_su [(86, 99999), (87, 99999), (88, 99999)] [(53, 10), (60, 99999), (61, 99999), (62, 99999), (63, 99999), (64, 99999), (74, 99999), (75, 99999), (86, 99999), (87, 99999), (88, 99999)] = true from rfl)
  have k35 : H26 53 10 = v21 := (hf31 53 10 rfl).trans e22
  have hXw36 : fz_Xw H26 := fz_Xw_eq (hf31 53 19 rfl) (funext fun s => hf31 66 s rfl) (funext fun s => hf31 67 s rfl) (funext fun s => hf31 68 s rfl) (funext fun s => hf31 69 s rfl) hXw16
  have hRPm37 : fl_RPm H26 := fl_RPm_eq (funext fun s => hf31 61 s rfl) (hf31 53 10 rfl) (hf31 53 0 rfl) hRPm19
  have t38 : H26 53 10 = H4 53 10 := hf31 53 10 rfl
  have t39 : H26 53 0 = H4 53 0 := hf31 53 0 rfl
  have hHB40 : fl_HB H26 := fl_HB_nd hHB f13 f33 (by omega) (funext fun s => hf31 62 s rfl) (hf31 53 10 rfl) (hf31 53 0 rfl) (by omega) (by omega) (fun q => (hI8.1 54 q).1)
  refine fz_aload_n kX11_isEnough rfl rfl ?_
  refine fz_iload_n kX11_isEnough rfl rfl ?_
  refine fz_bipush ⟨by decide, by decide⟩ kX11_isEnough rfl ?_
  refine fz_idivN kX11_isEnough rfl (by omega) (by omega) (by omega) ?_
  refine fz_iload_n kX11_isEnough rfl rfl ?_
  refine fz_bipush ⟨by decide, by decide⟩ kX11_isEnough rfl ?_
  refine fz_iremN kX11_isEnough rfl (by omega) (by omega) (by omega) ?_
  refine fz_iload kX11_isEnough rfl rfl ?_
  refine fz_sipush ⟨by decide, by decide⟩ kX11_isEnough rfl ?_
  refine fz_idivN kX11_isEnough rfl (by omega) (by omega) (by omega) ?_
  refine fz_iload kX11_isEnough rfl rfl ?_
  refine fz_sipush ⟨by decide, by decide⟩ kX11_isEnough rfl ?_
  refine fz_iremN kX11_isEnough rfl (by omega) (by omega) (by omega) ?_
  have e42 : H26 53 0 = h 53 0 := hf34 53 0 rfl
  refine fz_callV (d' := 3) (M' := mX11_saidOf) (As := [fz_i (pm / 10), fz_i (pm % 10), fz_i (to / 1000), fz_i (to % 1000)]) (st := []) kX11_isEnough rfl rfl vX11_saidOf rfl rfl rfl rfl (Nat.le_of_ble_eq_true rfl) (Nat.le_of_ble_eq_true rfl) (by decide) (sX11_saidOf H26 hI30 (pm / 10) (pm % 10) (to / 1000) (to % 1000) hXw36 hHB40 (by omega) (by omega)) (fun H43 r44 q45 o46 => ?_)
  obtain ⟨hI47, hf48, hXw49, hHB50, y53, rfl, f51, f52⟩ := q45
  clear o46
  have hf54 := fz_fr_tr hf34 hf48 (show fz_su [(74, 99999), (75, 99999)] [(53, 10), (60, 99999), (61, 99999), (62, 99999), (63, 99999), (64, 99999), (74, 99999), (75, 99999), (86, 99999), (87, 99999), (88, 99999)] = true from rfl)
  have k55 : H43 53 10 = v21 := (hf48 53 10 rfl).trans k35
  have hRM56 : fz_RM H43 := fz_RM_eq (funext fun s => hf48 55 s rfl) (funext fun s => hf48 56 s rfl) (hf48 53 0 rfl) (hf48 53 2 rfl) hRM32
  have hRPm57 : fl_RPm H43 := fl_RPm_eq (funext fun s => hf48 61 s rfl) (hf48 53 10 rfl) (hf48 53 0 rfl) hRPm37
  have t58 : H43 53 10 = H26 53 10 := hf48 53 10 rfl
  have t59 : H43 53 0 = H26 53 0 := hf48 53 0 rfl
  have k60 := fl_en_v f13 f33 (by omega) (funext fun s => hf31 60 s rfl) (funext fun s => hf31 62 s rfl) (funext fun s => hf31 63 s rfl) (funext fun s => hf31 64 s rfl) (funext fun s => hf31 66 s rfl) (funext fun s => hf31 67 s rfl) (funext fun s => hf31 68 s rfl) (funext fun s => hf31 69 s rfl) (hf31 53 18 rfl) (hf31 53 19 rfl) (hf31 53 10 rfl) (by omega) (by omega) ⟨by omega, by omega⟩ f52
  refine fz_iload kX11_isEnough rfl rfl ?_
  refine fz_icmp_lt (tgt := 60) kX11_isEnough rfl (by decide) (fun c62 => ?_) (fun c62 => ?_)
  · refine fz_iconst ⟨by decide, by decide⟩ kX11_isEnough rfl ?_
    refine fz_istore (ls' := [(7, fz_i 0), (0, fz_r 53), (1, fz_i pm), (2, fz_i t), (3, fz_i hr), (4, fz_i wt), (5, fz_i to), (6, fz_i x)]) kX11_isEnough rfl (by decide) rfl ?_
    refine fz_aload_n kX11_isEnough rfl rfl ?_
    refine fz_dup rfl kX11_isEnough rfl ?_
    refine fz_getV (v := v21) kX11_isEnough rfl rfl k55 ?_
    refine fz_iconst ⟨by decide, by decide⟩ kX11_isEnough rfl ?_
    refine fz_isubN kX11_isEnough rfl (by omega) ?_
    refine fz_putI kX11_isEnough rfl rfl rfl ?_
    refine fz_nmu (S := [(53, 10), (60, 99999), (61, 99999), (62, 99999), (63, 99999), (64, 99999), (74, 99999), (75, 99999), (86, 99999), (87, 99999), (88, 99999)]) (h0 := h) (fz_Iv_up hI47 (by decide) (show (0 : Int) ≤ (v21 - 1) by omega) (show ((v21 - 1) : Int) ≤ 11 by omega)) (fz_fr_up hf54 rfl) (fun H63 hI64 hf65 e66 => ?_)
    have k67 : H63 53 10 = (v21 - 1) := by rw [e66]; exact fz_up_e
    have t68 : H63 53 0 = H43 53 0 := by rw [e66]; exact fz_up_s (by decide)
    have hXw69 : fz_Xw H63 := fz_Xw_eq (by rw [e66]; exact fz_up_s (by decide)) (by rw [e66]; exact fz_up_ne (by decide)) (by rw [e66]; exact fz_up_ne (by decide)) (by rw [e66]; exact fz_up_ne (by decide)) (by rw [e66]; exact fz_up_ne (by decide)) hXw49
    have hHB70 : fl_HB H63 := by exact fl_HB_dn e66 (by omega) hHB50
    have hRM72 : fz_RM H63 := fz_RM_eq (by rw [e66]; exact fz_up_ne (by decide)) (by rw [e66]; exact fz_up_ne (by decide)) (by rw [e66]; exact fz_up_s (by decide)) (by rw [e66]; exact fz_up_s (by decide)) hRM56
    have hRPm73 : fl_RPm H63 := by exact fl_RPm_dn e66 (by omega) hRPm57
    refine fz_iload kX11_isEnough rfl rfl ?_
    exact fz_zret kX11_isEnough rfl rfl (by omega) ⟨hI64, hf65, hXw69, hHB70, hRM72, hRPm73, _, rfl, (by omega), (by omega), (by exact fz_apM_up (fz_apM_f (fz_apM_f (fz_apM_lo (fz_apM_1 f13 (by omega) rfl)) (funext fun s => hf31 60 s rfl) (funext fun s => hf31 61 s rfl) (funext fun s => hf31 62 s rfl) (funext fun s => hf31 63 s rfl) (funext fun s => hf31 64 s rfl)) (funext fun s => hf48 60 s rfl) (funext fun s => hf48 61 s rfl) (funext fun s => hf48 62 s rfl) (funext fun s => hf48 63 s rfl) (funext fun s => hf48 64 s rfl)) e66 (by decide)), (by first | exact fl_en_in k60 (Or.inl ⟨by omega, by omega⟩) | exact fl_en_in k60 (Or.inr ⟨by omega, by omega⟩)), (by exact fl_lo88_in f13 f33 (by omega) (funext fun s => hf48 88 s rfl) e66)⟩
  · refine fz_iconst ⟨by decide, by decide⟩ kX11_isEnough rfl ?_
    refine fz_goto (tgt := 61) kX11_isEnough rfl (by decide) ?_
    refine fz_istore (ls' := [(7, fz_i 1), (0, fz_r 53), (1, fz_i pm), (2, fz_i t), (3, fz_i hr), (4, fz_i wt), (5, fz_i to), (6, fz_i x)]) kX11_isEnough rfl (by decide) rfl ?_
    refine fz_aload_n kX11_isEnough rfl rfl ?_
    refine fz_dup rfl kX11_isEnough rfl ?_
    refine fz_getV (v := v21) kX11_isEnough rfl rfl k55 ?_
    refine fz_iconst ⟨by decide, by decide⟩ kX11_isEnough rfl ?_
    refine fz_isubN kX11_isEnough rfl (by omega) ?_
    refine fz_putI kX11_isEnough rfl rfl rfl ?_
    refine fz_nmu (S := [(53, 10), (60, 99999), (61, 99999), (62, 99999), (63, 99999), (64, 99999), (74, 99999), (75, 99999), (86, 99999), (87, 99999), (88, 99999)]) (h0 := h) (fz_Iv_up hI47 (by decide) (show (0 : Int) ≤ (v21 - 1) by omega) (show ((v21 - 1) : Int) ≤ 11 by omega)) (fz_fr_up hf54 rfl) (fun H78 hI79 hf80 e81 => ?_)
    have k82 : H78 53 10 = (v21 - 1) := by rw [e81]; exact fz_up_e
    have t83 : H78 53 0 = H43 53 0 := by rw [e81]; exact fz_up_s (by decide)
    have hXw84 : fz_Xw H78 := fz_Xw_eq (by rw [e81]; exact fz_up_s (by decide)) (by rw [e81]; exact fz_up_ne (by decide)) (by rw [e81]; exact fz_up_ne (by decide)) (by rw [e81]; exact fz_up_ne (by decide)) (by rw [e81]; exact fz_up_ne (by decide)) hXw49
    have hHB85 : fl_HB H78 := by exact fl_HB_dn e81 (by omega) hHB50
    have hRM87 : fz_RM H78 := fz_RM_eq (by rw [e81]; exact fz_up_ne (by decide)) (by rw [e81]; exact fz_up_ne (by decide)) (by rw [e81]; exact fz_up_s (by decide)) (by rw [e81]; exact fz_up_s (by decide)) hRM56
    have hRPm88 : fl_RPm H78 := by exact fl_RPm_dn e81 (by omega) hRPm57
    refine fz_iload kX11_isEnough rfl rfl ?_
    exact fz_zret kX11_isEnough rfl rfl (by omega) ⟨hI79, hf80, hXw84, hHB85, hRM87, hRPm88, _, rfl, (by omega), (by omega), (by exact fz_apM_up (fz_apM_f (fz_apM_f (fz_apM_lo (fz_apM_1 f13 (by omega) rfl)) (funext fun s => hf31 60 s rfl) (funext fun s => hf31 61 s rfl) (funext fun s => hf31 62 s rfl) (funext fun s => hf31 63 s rfl) (funext fun s => hf31 64 s rfl)) (funext fun s => hf48 60 s rfl) (funext fun s => hf48 61 s rfl) (funext fun s => hf48 62 s rfl) (funext fun s => hf48 63 s rfl) (funext fun s => hf48 64 s rfl)) e81 (by decide)), (by first | exact fl_en_in k60 (Or.inl ⟨by omega, by omega⟩) | exact fl_en_in k60 (Or.inr ⟨by omega, by omega⟩)), (by exact fl_lo88_in f13 f33 (by omega) (funext fun s => hf48 88 s rfl) e81)⟩

abbrev qX11_needs (h : fz_H) (pm th to x : Int) : fz_H → Option fz_V → Prop := fun h' r0 => fz_Iv h' ∧ fz_fr [(53, 10), (60, 99999), (61, 99999), (62, 99999), (63, 99999), (64, 99999), (74, 99999), (75, 99999), (86, 99999), (87, 99999), (88, 99999)] h h' ∧ fz_Xw h' ∧ fz_RM h' ∧ fl_RPm h' ∧ ∃ r : Int, r0 = some (fz_i r) ∧ ((-2) ≤ r ∧ r ≤ 9) ∧ (h' 53 10 = h 53 10) ∧ (fz_apM h h' 0 (fun _ => (0, 0, 0, 0, 0))) ∧ (fl_ndM h pm th to x r)
set_option maxHeartbeats 1000000 in
set_option maxRecDepth 100000 in
theorem sX11_needs (h : fz_H) (hI : fz_Iv h) (pm th to x : Int) (hXw : fz_Xw h) (hRM : fz_RM h) (hRPm : fl_RPm h) (hp0 : h 53 10 ≤ 10) : fz_R 5 mX11_needs 0 [(0, fz_r 53), (1, fz_i pm), (2, fz_i th), (3, fz_i to), (4, fz_i x)] [] h (qX11_needs h pm th to x) := by
  refine fz_knowl (fun hk => ?_)
  have hr_pm : -2147483648 ≤ pm ∧ pm < 2147483648 := hk _ (List.Mem.tail _ (List.Mem.head _))
  have hr_th : -2147483648 ≤ th ∧ th < 2147483648 := hk _ (List.Mem.tail _ (List.Mem.tail _ (List.Mem.head _)))
  have hr_to : -2147483648 ≤ to ∧ to < 2147483648 := hk _ (List.Mem.tail _ (List.Mem.tail _ (List.Mem.tail _ (List.Mem.head _))))
  have hr_x : -2147483648 ≤ x ∧ x < 2147483648 := hk _ (List.Mem.tail _ (List.Mem.tail _ (List.Mem.tail _ (List.Mem.tail _ (List.Mem.head _)))))
  clear hk
  have hf : fz_fr [(53, 10), (60, 99999), (61, 99999), (62, 99999), (63, 99999), (64, 99999), (74, 99999), (75, 99999), (86, 99999), (87, 99999), (88, 99999)] h h := fz_fr_rf
  have b1 : 0 ≤ h 53 10 ∧ h 53 10 ≤ 11 := hI.1 53 _
  have k2 : 0 ≤ h 53 0 ∧ h 53 0 ≤ 8 := hI.1 53 _
  refine fz_iload_n kX11_needs rfl rfl ?_
  refine fz_callS (d' := 2) (M' := mX11_isMarked) (As := [fz_i pm]) (st := []) kX11_needs rfl rfl vX11_isMarked rfl rfl (Nat.le_of_ble_eq_true rfl) (Nat.le_of_ble_eq_true rfl) (by decide) (sX11_isMarked h hI pm ) (fun H3 r4 q5 o6 => ?_)
  obtain ⟨e7, y8, rfl, p9⟩ := q5
  subst H3
  clear o6
  rcases p9 with ⟨rfl, c10⟩ | ⟨rfl, c10⟩
  · refine fz_if_eq (tgt := 34) kX11_needs rfl (by decide) (fun c11 => ?_) (fun c11 => ?_)
    · exfalso; omega
    · refine fz_aload_n kX11_needs rfl rfl ?_
      refine fz_iload_n kX11_needs rfl rfl ?_
      have b12 : 0 ≤ h 53 0 ∧ h 53 0 ≤ 8 := hI.1 53 _
      refine fz_callV (d' := 2) (M' := mX11_isWhen) (As := [fz_i th]) (st := []) kX11_needs rfl rfl vX11_isWhen rfl rfl rfl rfl (Nat.le_of_ble_eq_true rfl) (Nat.le_of_ble_eq_true rfl) (by decide) (sX11_isWhen h hI th ) (fun H13 r14 q15 o16 => ?_)
      obtain ⟨e17, y18, rfl, p19⟩ := q15
      subst H13
      clear o16
      rcases p19 with ⟨rfl, c20⟩ | ⟨rfl, c20⟩
      · refine fz_if_eq (tgt := 34) kX11_needs rfl (by decide) (fun c21 => ?_) (fun c21 => ?_)
        · exfalso; omega
        · refine fz_aload_n kX11_needs rfl rfl ?_
          refine fz_iload_n kX11_needs rfl rfl ?_
          refine fz_callV (d' := 2) (M' := mX11_isWhen) (As := [fz_i to]) (st := []) kX11_needs rfl rfl vX11_isWhen rfl rfl rfl rfl (Nat.le_of_ble_eq_true rfl) (Nat.le_of_ble_eq_true rfl) (by decide) (sX11_isWhen h hI to ) (fun H22 r23 q24 o25 => ?_)
          obtain ⟨e26, y27, rfl, p28⟩ := q24
          subst H22
          clear o25
          rcases p28 with ⟨rfl, c29⟩ | ⟨rfl, c29⟩
          · refine fz_if_eq (tgt := 34) kX11_needs rfl (by decide) (fun c30 => ?_) (fun c30 => ?_)
            · exfalso; omega
            · refine fz_iload kX11_needs rfl rfl ?_
              refine fz_iconst ⟨by decide, by decide⟩ kX11_needs rfl ?_
              refine fz_bipush ⟨by decide, by decide⟩ kX11_needs rfl ?_
              refine fz_callS (d' := 0) (M' := mX11_within) (As := [fz_i x, fz_i 1, fz_i 99]) (st := []) kX11_needs rfl rfl vX11_within rfl rfl (Nat.le_of_ble_eq_true rfl) (Nat.le_of_ble_eq_true rfl) (by decide) (sX11_within h hI x 1 99 ) (fun H31 r32 q33 o34 => ?_)
              obtain ⟨e35, y36, rfl, p37⟩ := q33
              subst H31
              clear o34
              rcases p37 with ⟨rfl, c38⟩ | ⟨rfl, c38⟩
              · refine fz_if_ne (tgt := 36) kX11_needs rfl (by decide) (fun c39 => ?_) (fun c39 => ?_)
                · refine fz_aload_n kX11_needs rfl rfl ?_
                  refine fz_callV (d' := 3) (M' := mX11_allHear) (As := []) (st := []) kX11_needs rfl rfl vX11_allHear rfl rfl rfl rfl (Nat.le_of_ble_eq_true rfl) (Nat.le_of_ble_eq_true rfl) (by decide) (sX11_allHear h hI  hRM hRPm) (fun H40 r41 q42 o43 => ?_)
                  obtain ⟨hI44, hf45, hRM46, hRPm47, rfl, f48⟩ := q42
                  clear o43
                  have hf49 := fz_fr_tr hf hf45 (show fz_su [(86, 99999), (87, 99999), (88, 99999)] [(53, 10), (60, 99999), (61, 99999), (62, 99999), (63, 99999), (64, 99999), (74, 99999), (75, 99999), (86, 99999), (87, 99999), (88, 99999)] = true from rfl)
                  have k50 : H40 53 10 = (h 53 10) := (hf45 53 10 rfl).trans rfl
                  have hXw51 : fz_Xw H40 := fz_Xw_eq (hf45 53 19 rfl) (funext fun s => hf45 66 s rfl) (funext fun s => hf45 67 s rfl) (funext fun s => hf45 68 s rfl) (funext fun s => hf45 69 s rfl) hXw
                  have t52 : H40 53 10 = h 53 10 := hf45 53 10 rfl
                  have t53 : H40 53 0 = h 53 0 := hf45 53 0 rfl
                  have hHB54 : fl_HB H40 := fl_HB_of2 f48 (funext fun s => hf45 62 s rfl) (hf45 53 10 rfl) (hf45 53 0 rfl) (funext fun s => hf45 54 s rfl) (fun q => (hI44.1 54 q).1)
                  have hHT56 : fl_HTh h H40 := f48
                  refine fz_iconst ⟨by decide, by decide⟩ kX11_needs rfl ?_
                  refine fz_istore (ls' := [(5, fz_i 1), (0, fz_r 53), (1, fz_i pm), (2, fz_i th), (3, fz_i to), (4, fz_i x)]) kX11_needs rfl (by decide) rfl ?_
                  have lp68 : ∀ (n67 : Nat) (x58 : Int) (H64 : fz_H), fz_Iv H64 → fz_fr [(53, 10), (60, 99999), (61, 99999), (62, 99999), (63, 99999), (64, 99999), (74, 99999), (75, 99999), (86, 99999), (87, 99999), (88, 99999)] h H64 → fz_Xw H64 → fz_RM H64 → fl_RPm H64 → fl_HB H64 → fl_HTh h H64 → (1 ≤ x58 ∧ x58 ≤ 2147483647) → (H64 53 10 = h 53 10) → (fz_apM h H64 0 (fun _ => (0, 0, 0, 0, 0))) → (fl_up1 (fl_n2 (fl_SM h (pm / 10) (pm % 10) (to / 1000) (to % 1000)) (fl_nxM h pm th to)) x 1 x58) → (10 - x58).toNat < n67 → fz_R 5 mX11_needs 43 [(5, fz_i x58), (0, fz_r 53), (1, fz_i pm), (2, fz_i th), (3, fz_i to), (4, fz_i x)] [] H64 (qX11_needs h pm th to x) := by
                    intro n67
                    induction n67 with
                    | zero => intro x58 H64 hI65 hf66 hXw59 hRM60 hRPm61 hHB62 hHT63 hv71 hv72 hv73 hv74 hm70; exact absurd hm70 (by omega)
                    | succ n67 ih69 =>
                      intro x58 H64 hI65 hf66 hXw59 hRM60 hRPm61 hHB62 hHT63 hv71 hv72 hv73 hv74 hm70
                      refine fz_iload kX11_needs rfl rfl ?_
                      refine fz_bipush ⟨by decide, by decide⟩ kX11_needs rfl ?_
                      refine fz_icmp_ge (tgt := 82) kX11_needs rfl (by decide) (fun c75 => ?_) (fun c75 => ?_)
                      · refine fz_bipush ⟨by decide, by decide⟩ kX11_needs rfl ?_
                        exact fz_iret kX11_needs rfl rfl (fun _ => ⟨hI65, hf66, hXw59, hRM60, hRPm61, _, rfl, (by omega), (by omega), (by first | exact fz_apM_s0 hv73 lost (by omega) (by omega) (by omega) rfl | exact hv73 | exact fz_apM_z (by omega)), (by first | exact Or.inl ⟨(by unfold fl_oN; omega), fl_fsM hv74 (fl_en_1 lost (by omega)) (by omega)⟩ | exact Or.inl ⟨(by unfold fl_oN; omega), fl_fsN hv74 (by omega) rfl⟩ | exact Or.inr ⟨(by unfold fl_oN; omega), rfl⟩)⟩)
                      · refine fz_aload_n kX11_needs rfl rfl ?_
                        refine fz_iload_n kX11_needs rfl rfl ?_
                        refine fz_iload_n kX11_needs rfl rfl ?_
                        refine fz_sipush ⟨by decide, by decide⟩ kX11_needs rfl ?_
                        refine fz_idivN kX11_needs rfl (by omega) (by omega) (by omega) ?_
                        refine fz_iload_n kX11_needs rfl rfl ?_
                        refine fz_sipush ⟨by decide, by decide⟩ kX11_needs rfl ?_
                        refine fz_iremN kX11_needs rfl (by omega) (by omega) (by omega) ?_
                        refine fz_iload kX11_needs rfl rfl ?_
                        refine fz_iload_n kX11_needs rfl rfl ?_
                        refine fz_iload kX11_needs rfl rfl ?_
                        have b78 : 0 ≤ H64 53 10 ∧ H64 53 10 ≤ 11 := hI65.1 53 _
                        have b79 : 0 ≤ h 53 0 ∧ h 53 0 ≤ 8 := hI.1 53 _
                        have e80 : H64 53 0 = h 53 0 := hf66 53 0 rfl
                        refine fz_callV (d' := 4) (M' := mX11_isEnough) (As := [fz_i pm, fz_i (th / 1000), fz_i (th % 1000), fz_i x58, fz_i to, fz_i x]) (st := []) kX11_needs rfl rfl vX11_isEnough rfl rfl rfl rfl (Nat.le_of_ble_eq_true rfl) (Nat.le_of_ble_eq_true rfl) (by decide) (sX11_isEnough H64 hI65 pm (th / 1000) (th % 1000) x58 to x hXw59 hHB62 hRM60 hRPm61 (by omega) (by omega) (by omega) (by omega) (by omega) (by omega) (by omega) (by omega)) (fun H81 r82 q83 o84 => ?_)
                        obtain ⟨hI85, hf86, hXw87, hHB88, hRM89, hRPm90, y95, rfl, p96, f91, f92, f93, f94⟩ := q83
                        clear o84
                        have hf97 := fz_fr_tr hf66 hf86 (show fz_su [(53, 10), (60, 99999), (61, 99999), (62, 99999), (63, 99999), (64, 99999), (74, 99999), (75, 99999), (86, 99999), (87, 99999), (88, 99999)] [(53, 10), (60, 99999), (61, 99999), (62, 99999), (63, 99999), (64, 99999), (74, 99999), (75, 99999), (86, 99999), (87, 99999), (88, 99999)] = true from rfl)
                        have t98 : H81 53 0 = H64 53 0 := hf86 53 0 rfl
                        have hHT99 : fl_HTh h H81 := fl_HTh_lo hHT63 f94 (by omega) (by omega)
                        have k101 := fl_en_h hf66 rfl hv73 hHT63 (by omega) ⟨by omega, by omega⟩ f93
                        refine fz_if_eq (tgt := 76) kX11_needs rfl (by decide) (fun c103 => ?_) (fun c103 => ?_)
                        · refine fz_iincN (ls' := [(5, fz_i (x58 + 1)), (0, fz_r 53), (1, fz_i pm), (2, fz_i th), (3, fz_i to), (4, fz_i x)]) kX11_needs rfl (by decide) rfl (by omega) rfl ?_
                          refine fz_goto (tgt := 43) kX11_needs rfl (by decide) ?_
                          exact ih69 (x58 + 1) H81 hI85 hf97 hXw87 hRM89 hRPm90 hHB88 hHT99 (by omega) (by omega) (fz_apM_s0 hv73 f92 (by omega) (by omega) (by omega) rfl) (fl_up1_s hv74 rfl (fl_en_0 k101 (by omega))) (by omega)
                        · refine fz_iload kX11_needs rfl rfl ?_
                          exact fz_iret kX11_needs rfl rfl (fun _ => ⟨hI85, hf97, hXw87, hRM89, hRPm90, _, rfl, (by omega), (by omega), (by first | exact fz_apM_s0 hv73 f92 (by omega) (by omega) (by omega) rfl | exact hv73 | exact fz_apM_z (by omega)), (by first | exact Or.inl ⟨(by unfold fl_oN; omega), fl_fsM hv74 (fl_en_1 k101 (by omega)) (by omega)⟩ | exact Or.inl ⟨(by unfold fl_oN; omega), fl_fsN hv74 (by omega) rfl⟩ | exact Or.inr ⟨(by unfold fl_oN; omega), rfl⟩)⟩)
                  exact lp68 _ 1 H40 hI44 hf49 hXw51 hRM46 hRPm47 hHB54 hHT56 (by omega) (by omega) (fz_apM_f (fz_apM_z (by omega)) (funext fun s => hf45 60 s rfl) (funext fun s => hf45 61 s rfl) (funext fun s => hf45 62 s rfl) (funext fun s => hf45 63 s rfl) (funext fun s => hf45 64 s rfl)) (fl_up1_0 (by omega)) (Nat.lt_succ_self _)
                · exfalso; omega
              · refine fz_if_ne (tgt := 36) kX11_needs rfl (by decide) (fun c110 => ?_) (fun c110 => ?_)
                · exfalso; omega
                · refine fz_iconst ⟨by decide, by decide⟩ kX11_needs rfl ?_
                  exact fz_iret kX11_needs rfl rfl (fun _ => ⟨hI, hf, hXw, hRM, hRPm, _, rfl, (by omega), (by omega), (by first | exact fz_apM_s0 lost lost (by omega) (by omega) (by omega) rfl | exact lost | exact fz_apM_z (by omega)), (by first | exact Or.inl ⟨(by unfold fl_oN; omega), fl_fsM lost (fl_en_1 lost (by omega)) (by omega)⟩ | exact Or.inl ⟨(by unfold fl_oN; omega), fl_fsN lost (by omega) rfl⟩ | exact Or.inr ⟨(by unfold fl_oN; omega), rfl⟩)⟩)
          · refine fz_if_eq (tgt := 34) kX11_needs rfl (by decide) (fun c113 => ?_) (fun c113 => ?_)
            · refine fz_iconst ⟨by decide, by decide⟩ kX11_needs rfl ?_
              exact fz_iret kX11_needs rfl rfl (fun _ => ⟨hI, hf, hXw, hRM, hRPm, _, rfl, (by omega), (by omega), (by first | exact fz_apM_s0 lost lost (by omega) (by omega) (by omega) rfl | exact lost | exact fz_apM_z (by omega)), (by first | exact Or.inl ⟨(by unfold fl_oN; omega), fl_fsM lost (fl_en_1 lost (by omega)) (by omega)⟩ | exact Or.inl ⟨(by unfold fl_oN; omega), fl_fsN lost (by omega) rfl⟩ | exact Or.inr ⟨(by unfold fl_oN; omega), rfl⟩)⟩)
            · exfalso; omega
      · refine fz_if_eq (tgt := 34) kX11_needs rfl (by decide) (fun c116 => ?_) (fun c116 => ?_)
        · refine fz_iconst ⟨by decide, by decide⟩ kX11_needs rfl ?_
          exact fz_iret kX11_needs rfl rfl (fun _ => ⟨hI, hf, hXw, hRM, hRPm, _, rfl, (by omega), (by omega), (by first | exact fz_apM_s0 lost lost (by omega) (by omega) (by omega) rfl | exact lost | exact fz_apM_z (by omega)), (by first | exact Or.inl ⟨(by unfold fl_oN; omega), fl_fsM lost (fl_en_1 lost (by omega)) (by omega)⟩ | exact Or.inl ⟨(by unfold fl_oN; omega), fl_fsN lost (by omega) rfl⟩ | exact Or.inr ⟨(by unfold fl_oN; omega), rfl⟩)⟩)
        · exfalso; omega
  · refine fz_if_eq (tgt := 34) kX11_needs rfl (by decide) (fun c119 => ?_) (fun c119 => ?_)
    · refine fz_iconst ⟨by decide, by decide⟩ kX11_needs rfl ?_
      exact fz_iret kX11_needs rfl rfl (fun _ => ⟨hI, hf, hXw, hRM, hRPm, _, rfl, (by omega), (by omega), (by first | exact fz_apM_s0 lost lost (by omega) (by omega) (by omega) rfl | exact lost | exact fz_apM_z (by omega)), (by first | exact Or.inl ⟨(by unfold fl_oN; omega), fl_fsM lost (fl_en_1 lost (by omega)) (by omega)⟩ | exact Or.inl ⟨(by unfold fl_oN; omega), fl_fsN lost (by omega) rfl⟩ | exact Or.inr ⟨(by unfold fl_oN; omega), rfl⟩)⟩)
    · exfalso; omega

abbrev qX11_latest (h : fz_H) (pm t to wx : Int) : fz_H → Option fz_V → Prop := fun h' r0 => fz_Iv h' ∧ fz_fr [(53, 10), (60, 99999), (61, 99999), (62, 99999), (63, 99999), (64, 99999), (74, 99999), (75, 99999), (86, 99999), (87, 99999), (88, 99999)] h h' ∧ fz_Xw h' ∧ fz_RM h' ∧ fl_RPm h' ∧ ∃ r : Int, r0 = some (fz_i r) ∧ ((-2) ≤ r ∧ r ≤ 999) ∧ (h' 53 10 = h 53 10) ∧ (fz_apM h h' 0 (fun _ => (0, 0, 0, 0, 0))) ∧ (fl_lyMM h pm t to wx r)
set_option maxHeartbeats 1000000 in
set_option maxRecDepth 100000 in
theorem sX11_latest (h : fz_H) (hI : fz_Iv h) (pm t to wx : Int) (hXw : fz_Xw h) (hRM : fz_RM h) (hRPm : fl_RPm h) (hp0 : h 53 10 ≤ 10) : fz_R 5 mX11_latest 0 [(0, fz_r 53), (1, fz_i pm), (2, fz_i t), (3, fz_i to), (4, fz_i wx)] [] h (qX11_latest h pm t to wx) := by
  refine fz_knowl (fun hk => ?_)
  have hr_pm : -2147483648 ≤ pm ∧ pm < 2147483648 := hk _ (List.Mem.tail _ (List.Mem.head _))
  have hr_t : -2147483648 ≤ t ∧ t < 2147483648 := hk _ (List.Mem.tail _ (List.Mem.tail _ (List.Mem.head _)))
  have hr_to : -2147483648 ≤ to ∧ to < 2147483648 := hk _ (List.Mem.tail _ (List.Mem.tail _ (List.Mem.tail _ (List.Mem.head _))))
  have hr_wx : -2147483648 ≤ wx ∧ wx < 2147483648 := hk _ (List.Mem.tail _ (List.Mem.tail _ (List.Mem.tail _ (List.Mem.tail _ (List.Mem.head _)))))
  clear hk
  have hf : fz_fr [(53, 10), (60, 99999), (61, 99999), (62, 99999), (63, 99999), (64, 99999), (74, 99999), (75, 99999), (86, 99999), (87, 99999), (88, 99999)] h h := fz_fr_rf
  have b1 : 0 ≤ h 53 10 ∧ h 53 10 ≤ 11 := hI.1 53 _
  have k2 : 0 ≤ h 53 0 ∧ h 53 0 ≤ 8 := hI.1 53 _
  refine fz_iload_n kX11_latest rfl rfl ?_
  refine fz_callS (d' := 2) (M' := mX11_isMarked) (As := [fz_i pm]) (st := []) kX11_latest rfl rfl vX11_isMarked rfl rfl (Nat.le_of_ble_eq_true rfl) (Nat.le_of_ble_eq_true rfl) (by decide) (sX11_isMarked h hI pm ) (fun H3 r4 q5 o6 => ?_)
  obtain ⟨e7, y8, rfl, p9⟩ := q5
  subst H3
  clear o6
  rcases p9 with ⟨rfl, c10⟩ | ⟨rfl, c10⟩
  · refine fz_if_eq (tgt := 50) kX11_latest rfl (by decide) (fun c11 => ?_) (fun c11 => ?_)
    · exfalso; omega
    · refine fz_aload_n kX11_latest rfl rfl ?_
      refine fz_iload_n kX11_latest rfl rfl ?_
      have b12 : 0 ≤ h 53 0 ∧ h 53 0 ≤ 8 := hI.1 53 _
      refine fz_callV (d' := 1) (M' := mX11_isTown) (As := [fz_i t]) (st := []) kX11_latest rfl rfl vX11_isTown rfl rfl rfl rfl (Nat.le_of_ble_eq_true rfl) (Nat.le_of_ble_eq_true rfl) (by decide) (sX11_isTown h hI t ) (fun H13 r14 q15 o16 => ?_)
      obtain ⟨e17, y18, rfl, p19⟩ := q15
      subst H13
      clear o16
      rcases p19 with ⟨rfl, c20⟩ | ⟨rfl, c20⟩
      · refine fz_if_eq (tgt := 50) kX11_latest rfl (by decide) (fun c21 => ?_) (fun c21 => ?_)
        · exfalso; omega
        · refine fz_aload_n kX11_latest rfl rfl ?_
          refine fz_iload_n kX11_latest rfl rfl ?_
          refine fz_callV (d' := 2) (M' := mX11_isWhen) (As := [fz_i to]) (st := []) kX11_latest rfl rfl vX11_isWhen rfl rfl rfl rfl (Nat.le_of_ble_eq_true rfl) (Nat.le_of_ble_eq_true rfl) (by decide) (sX11_isWhen h hI to ) (fun H22 r23 q24 o25 => ?_)
          obtain ⟨e26, y27, rfl, p28⟩ := q24
          subst H22
          clear o25
          rcases p28 with ⟨rfl, c29⟩ | ⟨rfl, c29⟩
          · refine fz_if_eq (tgt := 50) kX11_latest rfl (by decide) (fun c30 => ?_) (fun c30 => ?_)
            · exfalso; omega
            · refine fz_iload kX11_latest rfl rfl ?_
              refine fz_if_lt (tgt := 50) kX11_latest rfl (by decide) (fun c31 => ?_) (fun c31 => ?_)
              · refine fz_iconst ⟨by decide, by decide⟩ kX11_latest rfl ?_
                exact fz_iret kX11_latest rfl rfl (fun _ => ⟨hI, hf, hXw, hRM, hRPm, _, rfl, (by omega), (by omega), (by first | exact fz_apM_s0 lost lost (by omega) (by omega) (by omega) rfl | exact lost | exact fz_apM_z (by omega)), (by first | exact Or.inl ⟨(by unfold fl_oL2; omega), fl_lsM lost (fl_en_1 lost (by omega)) (by omega)⟩ | exact Or.inl ⟨(by unfold fl_oL2; omega), fl_lsN lost (by omega) rfl⟩ | exact Or.inr ⟨(by unfold fl_oL2; omega), rfl⟩)⟩)
              · refine fz_iload kX11_latest rfl rfl ?_
                refine fz_bipush ⟨by decide, by decide⟩ kX11_latest rfl ?_
                refine fz_idivN kX11_latest rfl (by omega) (by omega) (by omega) ?_
                refine fz_iconst ⟨by decide, by decide⟩ kX11_latest rfl ?_
                refine fz_bipush ⟨by decide, by decide⟩ kX11_latest rfl ?_
                refine fz_callS (d' := 0) (M' := mX11_within) (As := [fz_i (wx / 100), fz_i 1, fz_i 9]) (st := []) kX11_latest rfl rfl vX11_within rfl rfl (Nat.le_of_ble_eq_true rfl) (Nat.le_of_ble_eq_true rfl) (by decide) (sX11_within h hI (wx / 100) 1 9 ) (fun H34 r35 q36 o37 => ?_)
                obtain ⟨e38, y39, rfl, p40⟩ := q36
                subst H34
                clear o37
                rcases p40 with ⟨rfl, c41⟩ | ⟨rfl, c41⟩
                · refine fz_if_eq (tgt := 50) kX11_latest rfl (by decide) (fun c42 => ?_) (fun c42 => ?_)
                  · exfalso; omega
                  · refine fz_iload kX11_latest rfl rfl ?_
                    refine fz_bipush ⟨by decide, by decide⟩ kX11_latest rfl ?_
                    refine fz_iremN kX11_latest rfl (by omega) (by omega) (by omega) ?_
                    refine fz_if_ne (tgt := 52) kX11_latest rfl (by decide) (fun c43 => ?_) (fun c43 => ?_)
                    · refine fz_aload_n kX11_latest rfl rfl ?_
                      refine fz_callV (d' := 3) (M' := mX11_allHear) (As := []) (st := []) kX11_latest rfl rfl vX11_allHear rfl rfl rfl rfl (Nat.le_of_ble_eq_true rfl) (Nat.le_of_ble_eq_true rfl) (by decide) (sX11_allHear h hI  hRM hRPm) (fun H44 r45 q46 o47 => ?_)
                      obtain ⟨hI48, hf49, hRM50, hRPm51, rfl, f52⟩ := q46
                      clear o47
                      have hf53 := fz_fr_tr hf hf49 (show fz_su [(86, 99999), (87, 99999), (88, 99999)] [(53, 10), (60, 99999), (61, 99999), (62, 99999), (63, 99999), (64, 99999), (74, 99999), (75, 99999), (86, 99999), (87, 99999), (88, 99999)] = true from rfl)
                      have k54 : H44 53 10 = (h 53 10) := (hf49 53 10 rfl).trans rfl
                      have hXw55 : fz_Xw H44 := fz_Xw_eq (hf49 53 19 rfl) (funext fun s => hf49 66 s rfl) (funext fun s => hf49 67 s rfl) (funext fun s => hf49 68 s rfl) (funext fun s => hf49 69 s rfl) hXw
                      have t56 : H44 53 10 = h 53 10 := hf49 53 10 rfl
                      have t57 : H44 53 0 = h 53 0 := hf49 53 0 rfl
                      have hHB58 : fl_HB H44 := fl_HB_of2 f52 (funext fun s => hf49 62 s rfl) (hf49 53 10 rfl) (hf49 53 0 rfl) (funext fun s => hf49 54 s rfl) (fun q => (hI48.1 54 q).1)
                      have hHT60 : fl_HTh h H44 := f52
                      refine fz_sipush ⟨by decide, by decide⟩ kX11_latest rfl ?_
                      refine fz_istore (ls' := [(5, fz_i 999), (0, fz_r 53), (1, fz_i pm), (2, fz_i t), (3, fz_i to), (4, fz_i wx)]) kX11_latest rfl (by decide) rfl ?_
                      have lp72 : ∀ (n71 : Nat) (x62 : Int) (H68 : fz_H), fz_Iv H68 → fz_fr [(53, 10), (60, 99999), (61, 99999), (62, 99999), (63, 99999), (64, 99999), (74, 99999), (75, 99999), (86, 99999), (87, 99999), (88, 99999)] h H68 → fz_Xw H68 → fz_RM H68 → fl_RPm H68 → fl_HB H68 → fl_HTh h H68 → ((-2147483648) ≤ x62 ∧ x62 ≤ 999) → (H68 53 10 = h 53 10) → (fz_apM h H68 0 (fun _ => (0, 0, 0, 0, 0))) → (fl_dn1 (fl_n2 (fl_SM h (pm / 10) (pm % 10) (to / 1000) (to % 1000)) (fl_lyM h pm t to (wx / 100))) (wx % 100) x62 999) → (x62 + 1 - 0).toNat < n71 → fz_R 5 mX11_latest 61 [(5, fz_i x62), (0, fz_r 53), (1, fz_i pm), (2, fz_i t), (3, fz_i to), (4, fz_i wx)] [] H68 (qX11_latest h pm t to wx) := by
                        intro n71
                        induction n71 with
                        | zero => intro x62 H68 hI69 hf70 hXw63 hRM64 hRPm65 hHB66 hHT67 hv75 hv76 hv77 hv78 hm74; exact absurd hm74 (by omega)
                        | succ n71 ih73 =>
                          intro x62 H68 hI69 hf70 hXw63 hRM64 hRPm65 hHB66 hHT67 hv75 hv76 hv77 hv78 hm74
                          refine fz_iload kX11_latest rfl rfl ?_
                          refine fz_if_lt (tgt := 97) kX11_latest rfl (by decide) (fun c79 => ?_) (fun c79 => ?_)
                          · refine fz_bipush ⟨by decide, by decide⟩ kX11_latest rfl ?_
                            exact fz_iret kX11_latest rfl rfl (fun _ => ⟨hI69, hf70, hXw63, hRM64, hRPm65, _, rfl, (by omega), (by omega), (by first | exact fz_apM_s0 hv77 lost (by omega) (by omega) (by omega) rfl | exact hv77 | exact fz_apM_z (by omega)), (by first | exact Or.inl ⟨(by unfold fl_oL2; omega), fl_lsM hv78 (fl_en_1 lost (by omega)) (by omega)⟩ | exact Or.inl ⟨(by unfold fl_oL2; omega), fl_lsN hv78 (by omega) rfl⟩ | exact Or.inr ⟨(by unfold fl_oL2; omega), rfl⟩)⟩)
                          · refine fz_aload_n kX11_latest rfl rfl ?_
                            refine fz_iload_n kX11_latest rfl rfl ?_
                            refine fz_iload_n kX11_latest rfl rfl ?_
                            refine fz_iload kX11_latest rfl rfl ?_
                            refine fz_iload kX11_latest rfl rfl ?_
                            refine fz_bipush ⟨by decide, by decide⟩ kX11_latest rfl ?_
                            refine fz_idivN kX11_latest rfl (by omega) (by omega) (by omega) ?_
                            refine fz_iload_n kX11_latest rfl rfl ?_
                            refine fz_iload kX11_latest rfl rfl ?_
                            refine fz_bipush ⟨by decide, by decide⟩ kX11_latest rfl ?_
                            refine fz_iremN kX11_latest rfl (by omega) (by omega) (by omega) ?_
                            have b82 : 0 ≤ H68 53 10 ∧ H68 53 10 ≤ 11 := hI69.1 53 _
                            have b83 : 0 ≤ h 53 0 ∧ h 53 0 ≤ 8 := hI.1 53 _
                            have e84 : H68 53 0 = h 53 0 := hf70 53 0 rfl
                            refine fz_callV (d' := 4) (M' := mX11_isEnough) (As := [fz_i pm, fz_i t, fz_i x62, fz_i (wx / 100), fz_i to, fz_i (wx % 100)]) (st := []) kX11_latest rfl rfl vX11_isEnough rfl rfl rfl rfl (Nat.le_of_ble_eq_true rfl) (Nat.le_of_ble_eq_true rfl) (by decide) (sX11_isEnough H68 hI69 pm t x62 (wx / 100) to (wx % 100) hXw63 hHB66 hRM64 hRPm65 (by omega) (by omega) (by omega) (by omega) (by omega) (by omega) (by omega) (by omega)) (fun H85 r86 q87 o88 => ?_)
                            obtain ⟨hI89, hf90, hXw91, hHB92, hRM93, hRPm94, y99, rfl, p100, f95, f96, f97, f98⟩ := q87
                            clear o88
                            have hf101 := fz_fr_tr hf70 hf90 (show fz_su [(53, 10), (60, 99999), (61, 99999), (62, 99999), (63, 99999), (64, 99999), (74, 99999), (75, 99999), (86, 99999), (87, 99999), (88, 99999)] [(53, 10), (60, 99999), (61, 99999), (62, 99999), (63, 99999), (64, 99999), (74, 99999), (75, 99999), (86, 99999), (87, 99999), (88, 99999)] = true from rfl)
                            have t102 : H85 53 0 = H68 53 0 := hf90 53 0 rfl
                            have hHT103 : fl_HTh h H85 := fl_HTh_lo hHT67 f98 (by omega) (by omega)
                            have k105 := fl_en_h hf70 rfl hv77 hHT67 (by omega) ⟨by omega, by omega⟩ f97
                            refine fz_if_eq (tgt := 91) kX11_latest rfl (by decide) (fun c107 => ?_) (fun c107 => ?_)
                            · refine fz_iincN (ls' := [(5, fz_i (x62 + (-1))), (0, fz_r 53), (1, fz_i pm), (2, fz_i t), (3, fz_i to), (4, fz_i wx)]) kX11_latest rfl (by decide) rfl (by omega) rfl ?_
                              refine fz_goto (tgt := 61) kX11_latest rfl (by decide) ?_
                              exact ih73 (x62 + (-1)) H85 hI89 hf101 hXw91 hRM93 hRPm94 hHB92 hHT103 (by omega) (by omega) (fz_apM_s0 hv77 f96 (by omega) (by omega) (by omega) rfl) (fl_dn1_s hv78 rfl (fl_en_0 k105 (by omega)) (by omega)) (by omega)
                            · refine fz_iload kX11_latest rfl rfl ?_
                              exact fz_iret kX11_latest rfl rfl (fun _ => ⟨hI89, hf101, hXw91, hRM93, hRPm94, _, rfl, (by omega), (by omega), (by first | exact fz_apM_s0 hv77 f96 (by omega) (by omega) (by omega) rfl | exact hv77 | exact fz_apM_z (by omega)), (by first | exact Or.inl ⟨(by unfold fl_oL2; omega), fl_lsM hv78 (fl_en_1 k105 (by omega)) (by omega)⟩ | exact Or.inl ⟨(by unfold fl_oL2; omega), fl_lsN hv78 (by omega) rfl⟩ | exact Or.inr ⟨(by unfold fl_oL2; omega), rfl⟩)⟩)
                      exact lp72 _ 999 H44 hI48 hf53 hXw55 hRM50 hRPm51 hHB58 hHT60 (by omega) (by omega) (fz_apM_f (fz_apM_z (by omega)) (funext fun s => hf49 60 s rfl) (funext fun s => hf49 61 s rfl) (funext fun s => hf49 62 s rfl) (funext fun s => hf49 63 s rfl) (funext fun s => hf49 64 s rfl)) (fl_dn1_0 (by omega)) (Nat.lt_succ_self _)
                    · refine fz_iconst ⟨by decide, by decide⟩ kX11_latest rfl ?_
                      exact fz_iret kX11_latest rfl rfl (fun _ => ⟨hI, hf, hXw, hRM, hRPm, _, rfl, (by omega), (by omega), (by first | exact fz_apM_s0 lost lost (by omega) (by omega) (by omega) rfl | exact lost | exact fz_apM_z (by omega)), (by first | exact Or.inl ⟨(by unfold fl_oL2; omega), fl_lsM lost (fl_en_1 lost (by omega)) (by omega)⟩ | exact Or.inl ⟨(by unfold fl_oL2; omega), fl_lsN lost (by omega) rfl⟩ | exact Or.inr ⟨(by unfold fl_oL2; omega), rfl⟩)⟩)
                · refine fz_if_eq (tgt := 50) kX11_latest rfl (by decide) (fun c116 => ?_) (fun c116 => ?_)
                  · refine fz_iconst ⟨by decide, by decide⟩ kX11_latest rfl ?_
                    exact fz_iret kX11_latest rfl rfl (fun _ => ⟨hI, hf, hXw, hRM, hRPm, _, rfl, (by omega), (by omega), (by first | exact fz_apM_s0 lost lost (by omega) (by omega) (by omega) rfl | exact lost | exact fz_apM_z (by omega)), (by first | exact Or.inl ⟨(by unfold fl_oL2; omega), fl_lsM lost (fl_en_1 lost (by omega)) (by omega)⟩ | exact Or.inl ⟨(by unfold fl_oL2; omega), fl_lsN lost (by omega) rfl⟩ | exact Or.inr ⟨(by unfold fl_oL2; omega), rfl⟩)⟩)
                  · exfalso; omega
          · refine fz_if_eq (tgt := 50) kX11_latest rfl (by decide) (fun c119 => ?_) (fun c119 => ?_)
            · refine fz_iconst ⟨by decide, by decide⟩ kX11_latest rfl ?_
              exact fz_iret kX11_latest rfl rfl (fun _ => ⟨hI, hf, hXw, hRM, hRPm, _, rfl, (by omega), (by omega), (by first | exact fz_apM_s0 lost lost (by omega) (by omega) (by omega) rfl | exact lost | exact fz_apM_z (by omega)), (by first | exact Or.inl ⟨(by unfold fl_oL2; omega), fl_lsM lost (fl_en_1 lost (by omega)) (by omega)⟩ | exact Or.inl ⟨(by unfold fl_oL2; omega), fl_lsN lost (by omega) rfl⟩ | exact Or.inr ⟨(by unfold fl_oL2; omega), rfl⟩)⟩)
            · exfalso; omega
      · refine fz_if_eq (tgt := 50) kX11_latest rfl (by decide) (fun c122 => ?_) (fun c122 => ?_)
        · refine fz_iconst ⟨by decide, by decide⟩ kX11_latest rfl ?_
          exact fz_iret kX11_latest rfl rfl (fun _ => ⟨hI, hf, hXw, hRM, hRPm, _, rfl, (by omega), (by omega), (by first | exact fz_apM_s0 lost lost (by omega) (by omega) (by omega) rfl | exact lost | exact fz_apM_z (by omega)), (by first | exact Or.inl ⟨(by unfold fl_oL2; omega), fl_lsM lost (fl_en_1 lost (by omega)) (by omega)⟩ | exact Or.inl ⟨(by unfold fl_oL2; omega), fl_lsN lost (by omega) rfl⟩ | exact Or.inr ⟨(by unfold fl_oL2; omega), rfl⟩)⟩)
        · exfalso; omega
  · refine fz_if_eq (tgt := 50) kX11_latest rfl (by decide) (fun c125 => ?_) (fun c125 => ?_)
    · refine fz_iconst ⟨by decide, by decide⟩ kX11_latest rfl ?_
      exact fz_iret kX11_latest rfl rfl (fun _ => ⟨hI, hf, hXw, hRM, hRPm, _, rfl, (by omega), (by omega), (by first | exact fz_apM_s0 lost lost (by omega) (by omega) (by omega) rfl | exact lost | exact fz_apM_z (by omega)), (by first | exact Or.inl ⟨(by unfold fl_oL2; omega), fl_lsM lost (fl_en_1 lost (by omega)) (by omega)⟩ | exact Or.inl ⟨(by unfold fl_oL2; omega), fl_lsN lost (by omega) rfl⟩ | exact Or.inr ⟨(by unfold fl_oL2; omega), rfl⟩)⟩)
    · exfalso; omega

abbrev qX11_cut (h : fz_H) (d t wh : Int) : fz_H → Option fz_V → Prop := fun h' r0 => fz_Iv h' ∧ fz_fr [(58, 99999), (86, 99999), (87, 99999)] h h' ∧ fl_RPm h' ∧ fz_RM h' ∧ ∃ r : Int, r0 = some (fz_i r) ∧ ((-2147483648) ≤ r ∧ r ≤ 2147483647) ∧ (h' 58 = h 58) ∧ (fl_cuM h d t wh r)
set_option maxHeartbeats 1000000 in
set_option maxRecDepth 100000 in
theorem sX11_cut (h : fz_H) (hI : fz_Iv h) (d t wh : Int) (hRPm : fl_RPm h) (hRM : fz_RM h) : fz_R 3 mX11_cut 0 [(0, fz_r 53), (1, fz_i d), (2, fz_i t), (3, fz_i wh)] [] h (qX11_cut h d t wh) := by
  refine fz_knowl (fun hk => ?_)
  have hr_d : -2147483648 ≤ d ∧ d < 2147483648 := hk _ (List.Mem.tail _ (List.Mem.head _))
  have hr_t : -2147483648 ≤ t ∧ t < 2147483648 := hk _ (List.Mem.tail _ (List.Mem.tail _ (List.Mem.head _)))
  have hr_wh : -2147483648 ≤ wh ∧ wh < 2147483648 := hk _ (List.Mem.tail _ (List.Mem.tail _ (List.Mem.tail _ (List.Mem.head _))))
  clear hk
  have hf : fz_fr [(58, 99999), (86, 99999), (87, 99999)] h h := fz_fr_rf
  have k1 : 0 ≤ h 53 0 ∧ h 53 0 ≤ 8 := hI.1 53 _
  have k2 : 0 ≤ h 53 10 ∧ h 53 10 ≤ 11 := hI.1 53 _
  have k3 : 0 ≤ h 53 2 ∧ h 53 2 ≤ 12 := hI.1 53 _
  refine fz_aload_n kX11_cut rfl rfl ?_
  refine fz_iload_n kX11_cut rfl rfl ?_
  have b4 : 0 ≤ h 53 10 ∧ h 53 10 ≤ 11 := hI.1 53 _
  refine fz_callV (d' := 1) (M' := mX11_isDeed) (As := [fz_i d]) (st := []) kX11_cut rfl rfl vX11_isDeed rfl rfl rfl rfl (Nat.le_of_ble_eq_true rfl) (Nat.le_of_ble_eq_true rfl) (by decide) (sX11_isDeed h hI d ) (fun H5 r6 q7 o8 => ?_)
  obtain ⟨e9, y10, rfl, p11⟩ := q7
  subst H5
  clear o8
  rcases p11 with ⟨rfl, c12⟩ | ⟨rfl, c12⟩
  · refine fz_if_eq (tgt := 25) kX11_cut rfl (by decide) (fun c13 => ?_) (fun c13 => ?_)
    · exfalso; omega
    · refine fz_aload_n kX11_cut rfl rfl ?_
      refine fz_iload_n kX11_cut rfl rfl ?_
      have b14 : 0 ≤ h 53 0 ∧ h 53 0 ≤ 8 := hI.1 53 _
      refine fz_callV (d' := 1) (M' := mX11_isTown) (As := [fz_i t]) (st := []) kX11_cut rfl rfl vX11_isTown rfl rfl rfl rfl (Nat.le_of_ble_eq_true rfl) (Nat.le_of_ble_eq_true rfl) (by decide) (sX11_isTown h hI t ) (fun H15 r16 q17 o18 => ?_)
      obtain ⟨e19, y20, rfl, p21⟩ := q17
      subst H15
      clear o18
      rcases p21 with ⟨rfl, c22⟩ | ⟨rfl, c22⟩
      · refine fz_if_eq (tgt := 25) kX11_cut rfl (by decide) (fun c23 => ?_) (fun c23 => ?_)
        · exfalso; omega
        · refine fz_iload_n kX11_cut rfl rfl ?_
          refine fz_iconst ⟨by decide, by decide⟩ kX11_cut rfl ?_
          refine fz_iconst ⟨by decide, by decide⟩ kX11_cut rfl ?_
          refine fz_callS (d' := 0) (M' := mX11_within) (As := [fz_i wh, fz_i 0, fz_i 1]) (st := []) kX11_cut rfl rfl vX11_within rfl rfl (Nat.le_of_ble_eq_true rfl) (Nat.le_of_ble_eq_true rfl) (by decide) (sX11_within h hI wh 0 1 ) (fun H24 r25 q26 o27 => ?_)
          obtain ⟨e28, y29, rfl, p30⟩ := q26
          subst H24
          clear o27
          rcases p30 with ⟨rfl, c31⟩ | ⟨rfl, c31⟩
          · refine fz_if_ne (tgt := 27) kX11_cut rfl (by decide) (fun c32 => ?_) (fun c32 => ?_)
            · have k33 := fl_RPm_i (d := d) hRPm (by omega)
              have k34 : 0 ≤ h 61 d.toNat := (hI.1 61 _).1
              have k35 := fl_shl_nn (n := h 53 2) ⟨by omega, by omega⟩
              refine fz_iconst ⟨by decide, by decide⟩ kX11_cut rfl ?_
              refine fz_istore (ls' := [(4, fz_i 0), (0, fz_r 53), (1, fz_i d), (2, fz_i t), (3, fz_i wh)]) kX11_cut rfl (by decide) rfl ?_
              refine fz_iconst ⟨by decide, by decide⟩ kX11_cut rfl ?_
              refine fz_istore (ls' := [(5, fz_i 0), (4, fz_i 0), (0, fz_r 53), (1, fz_i d), (2, fz_i t), (3, fz_i wh)]) kX11_cut rfl (by decide) rfl ?_
              have lp39 : ∀ (n38 : Nat) (x36 : Int) (x37 : Int), (0 ≤ x36 ∧ x36 ≤ 2147483647) → ((-2147483648) ≤ x37 ∧ x37 ≤ 2147483647) → (x36 ≤ h 53 2) → (fz_cb (h 58) 1 x37 x36) → ((h 53 2) - x36).toNat < n38 → fz_R 3 mX11_cut 33 [(5, fz_i x36), (4, fz_i x37), (0, fz_r 53), (1, fz_i d), (2, fz_i t), (3, fz_i wh)] [] h (qX11_cut h d t wh) := by
                intro n38
                induction n38 with
                | zero => intro x36 x37 hv42 hv43 hv44 hv45 hm41; exact absurd hm41 (by omega)
                | succ n38 ih40 =>
                  intro x36 x37 hv42 hv43 hv44 hv45 hm41
                  refine fz_iload kX11_cut rfl rfl ?_
                  refine fz_aload_n kX11_cut rfl rfl ?_
                  refine fz_getV (v := h 53 2) kX11_cut rfl rfl rfl ?_
                  have b46 : 0 ≤ h 53 2 ∧ h 53 2 ≤ 12 := hI.1 53 _
                  refine fz_icmp_ge (tgt := 68) kX11_cut rfl (by decide) (fun c47 => ?_) (fun c47 => ?_)
                  · have k48 := fz_cb_e (m := h 53 2) hv45 (by omega)
                    refine fz_bipush ⟨by decide, by decide⟩ kX11_cut rfl ?_
                    refine fz_istore (ls' := [(5, fz_i (-2)), (4, fz_i x37), (0, fz_r 53), (1, fz_i d), (2, fz_i t), (3, fz_i wh)]) kX11_cut rfl (by decide) rfl ?_
                    refine fz_iconst ⟨by decide, by decide⟩ kX11_cut rfl ?_
                    refine fz_istore (ls' := [(6, fz_i 0), (5, fz_i (-2)), (4, fz_i x37), (0, fz_r 53), (1, fz_i d), (2, fz_i t), (3, fz_i wh)]) kX11_cut rfl (by decide) rfl ?_
                    have lp58 : ∀ (n57 : Nat) (x50 : Int) (x51 : Int) (H54 : fz_H), fz_Iv H54 → fz_fr [(58, 99999), (86, 99999), (87, 99999)] h H54 → fl_RPm H54 → fz_RM H54 → (0 ≤ x50 ∧ x50 ≤ 2147483647) → ((-2147483648) ≤ x51 ∧ x51 ≤ 2147483647) → (x50 ≤ fz_shl 1 (h 53 2)) → (fz_o8 h H54) → (fl_cI (fun k => ¬ fl_catM h k (h 61 d.toNat) t) x50 x51) → ((fz_shl 1 (h 53 2)) - x50).toNat < n57 → fz_R 3 mX11_cut 75 [(6, fz_i x50), (5, fz_i x51), (4, fz_i x37), (0, fz_r 53), (1, fz_i d), (2, fz_i t), (3, fz_i wh)] [] H54 (qX11_cut h d t wh) := by
                      intro n57
                      induction n57 with
                      | zero => intro x50 x51 H54 hI55 hf56 hRPm52 hRM53 hv61 hv62 hv63 hv64 hv65 hm60; exact absurd hm60 (by omega)
                      | succ n57 ih59 =>
                        intro x50 x51 H54 hI55 hf56 hRPm52 hRM53 hv61 hv62 hv63 hv64 hv65 hm60
                        refine fz_iload kX11_cut rfl rfl ?_
                        refine fz_iconst ⟨by decide, by decide⟩ kX11_cut rfl ?_
                        refine fz_aload_n kX11_cut rfl rfl ?_
                        refine fz_getV (v := h 53 2) kX11_cut rfl rfl (hf56 53 2 rfl) ?_
                        refine fz_ishl kX11_cut rfl ?_
                        have b66 : -2147483648 ≤ (fz_shl 1 (h 53 2)) ∧ (fz_shl 1 (h 53 2)) < 2147483648 := fz_b32 _
                        refine fz_icmp_ge (tgt := 177) kX11_cut rfl (by decide) (fun c68 => ?_) (fun c68 => ?_)
                        · refine fz_iconst ⟨by decide, by decide⟩ kX11_cut rfl ?_
                          refine fz_istore (ls' := [(6, fz_i 0), (5, fz_i x51), (4, fz_i x37), (0, fz_r 53), (1, fz_i d), (2, fz_i t), (3, fz_i wh)]) kX11_cut rfl (by decide) rfl ?_
                          have lp76 : ∀ (n75 : Nat) (x69 : Int) (H72 : fz_H), fz_Iv H72 → fz_fr [(58, 99999), (86, 99999), (87, 99999)] h H72 → fl_RPm H72 → fz_RM H72 → (0 ≤ x69 ∧ x69 ≤ 2147483647) → (fz_rs h H72 x69) → ((h 53 2) - x69).toNat < n75 → fz_R 3 mX11_cut 180 [(6, fz_i x69), (5, fz_i x51), (4, fz_i x37), (0, fz_r 53), (1, fz_i d), (2, fz_i t), (3, fz_i wh)] [] H72 (qX11_cut h d t wh) := by
                            intro n75
                            induction n75 with
                            | zero => intro x69 H72 hI73 hf74 hRPm70 hRM71 hv79 hv80 hm78; exact absurd hm78 (by omega)
                            | succ n75 ih77 =>
                              intro x69 H72 hI73 hf74 hRPm70 hRM71 hv79 hv80 hm78
                              refine fz_iload kX11_cut rfl rfl ?_
                              refine fz_aload_n kX11_cut rfl rfl ?_
                              refine fz_getV (v := h 53 2) kX11_cut rfl rfl (hf74 53 2 rfl) ?_
                              refine fz_icmp_ge (tgt := 209) kX11_cut rfl (by decide) (fun c81 => ?_) (fun c81 => ?_)
                              · refine fz_iload kX11_cut rfl rfl ?_
                                refine fz_bipush ⟨by decide, by decide⟩ kX11_cut rfl ?_
                                refine fz_icmp_eq (tgt := 221) kX11_cut rfl (by decide) (fun c82 => ?_) (fun c82 => ?_)
                                · refine fz_iload kX11_cut rfl rfl ?_
                                  refine fz_goto (tgt := 231) kX11_cut rfl (by decide) ?_
                                  exact fz_iret kX11_cut rfl rfl (fun _ => ⟨hI73, hf74, hRPm70, hRM71, _, rfl, (by omega), (by first | rfl | exact fz_rs_e hv80 (by omega)), (by first | exact Or.inl ⟨(by unfold fl_oC; omega), ⟨x51, fl_cI_e hv65 (by omega), fl_cux_1 (by omega)⟩⟩ | exact Or.inl ⟨(by unfold fl_oC; omega), ⟨x51, fl_cI_e hv65 (by omega), fl_cux_2 (by omega) lost⟩⟩ | exact Or.inr ⟨(by unfold fl_oC; omega), rfl⟩)⟩)
                                · refine fz_iload_n kX11_cut rfl rfl ?_
                                  refine fz_iconst ⟨by decide, by decide⟩ kX11_cut rfl ?_
                                  refine fz_icmp_ne (tgt := 226) kX11_cut rfl (by decide) (fun c85 => ?_) (fun c85 => ?_)
                                  · refine fz_iload kX11_cut rfl rfl ?_
                                    refine fz_callS (d' := 0) (M' := mJ6_bitCount_0f7a4) (As := [fz_i x51]) (st := []) kX11_cut rfl rfl vJ6_bitCount_0f7a4 rfl rfl (Nat.le_of_ble_eq_true rfl) (Nat.le_of_ble_eq_true rfl) (by decide) (sJ6_bitCount_0f7a4 H72 hI73 x51 ) (fun H86 r87 q88 o89 => ?_)
                                    obtain ⟨e90, y93, rfl, f91, f92⟩ := q88
                                    subst H86
                                    clear o89
                                    exact fz_iret kX11_cut rfl rfl (fun _ => ⟨hI73, hf74, hRPm70, hRM71, _, rfl, (by omega), (by first | rfl | exact fz_rs_e hv80 (by omega)), (by first | exact Or.inl ⟨(by unfold fl_oC; omega), ⟨x51, fl_cI_e hv65 (by omega), fl_cux_1 (by omega)⟩⟩ | exact Or.inl ⟨(by unfold fl_oC; omega), ⟨x51, fl_cI_e hv65 (by omega), fl_cux_2 (by omega) f92⟩⟩ | exact Or.inr ⟨(by unfold fl_oC; omega), rfl⟩)⟩)
                                  · refine fz_iload kX11_cut rfl rfl ?_
                                    refine fz_goto (tgt := 231) kX11_cut rfl (by decide) ?_
                                    exact fz_iret kX11_cut rfl rfl (fun _ => ⟨hI73, hf74, hRPm70, hRM71, _, rfl, (by omega), (by first | rfl | exact fz_rs_e hv80 (by omega)), (by first | exact Or.inl ⟨(by unfold fl_oC; omega), ⟨x51, fl_cI_e hv65 (by omega), fl_cux_1 (by omega)⟩⟩ | exact Or.inl ⟨(by unfold fl_oC; omega), ⟨x51, fl_cI_e hv65 (by omega), fl_cux_2 (by omega) lost⟩⟩ | exact Or.inr ⟨(by unfold fl_oC; omega), rfl⟩)⟩)
                              · refine fz_aload_n kX11_cut rfl rfl ?_
                                refine fz_getR (t := 58) kX11_cut rfl rfl ?_
                                refine fz_iload kX11_cut rfl rfl ?_
                                refine fz_iload kX11_cut rfl rfl ?_
                                refine fz_iload kX11_cut rfl rfl ?_
                                refine fz_ishr kX11_cut rfl ?_
                                have b98 : -2147483648 ≤ (fz_shr x37 x69) ∧ (fz_shr x37 x69) < 2147483648 := fz_b32 _
                                refine fz_iconst ⟨by decide, by decide⟩ kX11_cut rfl ?_
                                refine fz_iand kX11_cut rfl ?_
                                have b100 : -2147483648 ≤ (fz_and (fz_shr x37 x69) 1) ∧ (fz_and (fz_shr x37 x69) 1) < 2147483648 := fz_b32 _
                                have b101 : 0 ≤ (fz_and (fz_shr x37 x69) 1) ∧ (fz_and (fz_shr x37 x69) 1) ≤ 1 := fz_and_m (by omega) (by omega)
                                refine fz_iast (n := 12) kX11_cut rfl rfl (by omega) (by omega) ?_
                                refine fz_nmu (S := [(58, 99999), (86, 99999), (87, 99999)]) (h0 := h) (fz_Iv_up hI73 (by decide) (show (0 : Int) ≤ (fz_and (fz_shr x37 x69) 1) by omega) (show ((fz_and (fz_shr x37 x69) 1) : Int) ≤ 1 by omega)) (fz_fr_up hf74 rfl) (fun H102 hI103 hf104 e105 => ?_)
                                have t106 : H102 53 0 = H72 53 0 := by rw [e105]; exact fz_up_o (by decide)
                                have t107 : H102 53 2 = H72 53 2 := by rw [e105]; exact fz_up_o (by decide)
                                have hRPm108 : fl_RPm H102 := fl_RPm_eq (by rw [e105]; exact fz_up_ne (by decide)) (by rw [e105]; exact fz_up_o (by decide)) (by rw [e105]; exact fz_up_o (by decide)) hRPm70
                                have hRM109 : fz_RM H102 := fz_RM_eq (by rw [e105]; exact fz_up_ne (by decide)) (by rw [e105]; exact fz_up_ne (by decide)) (by rw [e105]; exact fz_up_o (by decide)) (by rw [e105]; exact fz_up_o (by decide)) hRM71
                                refine fz_iincN (ls' := [(6, fz_i (x69 + 1)), (5, fz_i x51), (4, fz_i x37), (0, fz_r 53), (1, fz_i d), (2, fz_i t), (3, fz_i wh)]) kX11_cut rfl (by decide) rfl (by omega) rfl ?_
                                refine fz_goto (tgt := 180) kX11_cut rfl (by decide) ?_
                                exact ih77 (x69 + 1) H102 hI103 hf104 hRPm108 hRM109 (by omega) (fz_rs_st hv80 e105 (by omega) (fz_cb_g hv45 (by omega) (hI.1 58 _))) (by omega)
                          exact lp76 _ 0 H54 hI55 hf56 hRPm52 hRM53 (by omega) (fz_rs_0 hv64 (by omega)) (Nat.lt_succ_self _)
                        · refine fz_iload kX11_cut rfl rfl ?_
                          refine fz_callS (d' := 0) (M' := mJ6_bitCount_0f7a4) (As := [fz_i x50]) (st := []) kX11_cut rfl rfl vJ6_bitCount_0f7a4 rfl rfl (Nat.le_of_ble_eq_true rfl) (Nat.le_of_ble_eq_true rfl) (by decide) (sJ6_bitCount_0f7a4 H54 hI55 x50 ) (fun H112 r113 q114 o115 => ?_)
                          obtain ⟨e116, y119, rfl, f117, f118⟩ := q114
                          subst H112
                          clear o115
                          refine fz_istore (ls' := [(7, fz_i y119), (6, fz_i x50), (5, fz_i x51), (4, fz_i x37), (0, fz_r 53), (1, fz_i d), (2, fz_i t), (3, fz_i wh)]) kX11_cut rfl (by decide) rfl ?_
                          refine fz_iload kX11_cut rfl rfl ?_
                          refine fz_iconst ⟨by decide, by decide⟩ kX11_cut rfl ?_
                          refine fz_icmp_gt (tgt := 171) kX11_cut rfl (by decide) (fun c120 => ?_) (fun c120 => ?_)
                          · refine fz_iincN (ls' := [(6, fz_i (x50 + 1)), (7, fz_i y119), (5, fz_i x51), (4, fz_i x37), (0, fz_r 53), (1, fz_i d), (2, fz_i t), (3, fz_i wh)]) kX11_cut rfl (by decide) rfl (by omega) rfl ?_
                            refine fz_goto (tgt := 75) kX11_cut rfl (by decide) ?_
                            refine fz_sub (fz_pk_sub (ls' := [(6, fz_i (x50 + 1)), (5, fz_i x51), (4, fz_i x37), (0, fz_r 53), (1, fz_i d), (2, fz_i t), (3, fz_i wh)]) [0, 2, 3, 4, 5, 6, 7] rfl) ?_
                            exact ih59 (x50 + 1) x51 H54 hI55 hf56 hRPm52 hRM53 (by omega) (by omega) (by omega) (by first | exact fz_o8_f lost (funext fun s => lost 58 s rfl) | exact hv64) (by first | exact fl_cI_y hv65 (by omega) (by have a := f118; omega) (by first | exact Or.inl (by omega) | exact Or.inr (by have a := f118; have b := lost; omega)) (lost.mp (by omega)) | exact fl_cI_n hv65 (Or.inr (Or.inr (fun z => by have q := lost.mpr z; omega))) | exact fl_cI_n hv65 (Or.inl (by have a := f118; omega)) | exact fl_cI_n hv65 (Or.inr (Or.inl ⟨by omega, (by have a := f118; have b := lost; omega)⟩))) (by omega)
                          · refine fz_iload kX11_cut rfl rfl ?_
                            refine fz_bipush ⟨by decide, by decide⟩ kX11_cut rfl ?_
                            refine fz_icmp_eq (tgt := 119) kX11_cut rfl (by decide) (fun c123 => ?_) (fun c123 => ?_)
                            · refine fz_iconst ⟨by decide, by decide⟩ kX11_cut rfl ?_
                              refine fz_istore (ls' := [(8, fz_i 0), (7, fz_i y119), (6, fz_i x50), (5, fz_i x51), (4, fz_i x37), (0, fz_r 53), (1, fz_i d), (2, fz_i t), (3, fz_i wh)]) kX11_cut rfl (by decide) rfl ?_
                              have lp131 : ∀ (n130 : Nat) (x124 : Int) (H127 : fz_H), fz_Iv H127 → fz_fr [(58, 99999), (86, 99999), (87, 99999)] h H127 → fl_RPm H127 → fz_RM H127 → (0 ≤ x124 ∧ x124 ≤ 2147483647) → (x124 ≤ h 53 2) → (fz_o8 h H127) → (fl_cuI H127 x37 x50 x124) → ((h 53 2) - x124).toNat < n130 → fz_R 3 mX11_cut 122 [(8, fz_i x124), (7, fz_i y119), (6, fz_i x50), (5, fz_i x51), (4, fz_i x37), (0, fz_r 53), (1, fz_i d), (2, fz_i t), (3, fz_i wh)] [] H127 (qX11_cut h d t wh) := by
                                intro n130
                                induction n130 with
                                | zero => intro x124 H127 hI128 hf129 hRPm125 hRM126 hv134 hv135 hv136 hv137 hm133; exact absurd hm133 (by omega)
                                | succ n130 ih132 =>
                                  intro x124 H127 hI128 hf129 hRPm125 hRM126 hv134 hv135 hv136 hv137 hm133
                                  refine fz_iload kX11_cut rfl rfl ?_
                                  refine fz_aload_n kX11_cut rfl rfl ?_
                                  refine fz_getV (v := h 53 2) kX11_cut rfl rfl (hf129 53 2 rfl) ?_
                                  refine fz_icmp_ge (tgt := 156) kX11_cut rfl (by decide) (fun c138 => ?_) (fun c138 => ?_)
                                  · refine fz_aload_n kX11_cut rfl rfl ?_
                                    refine fz_iload_n kX11_cut rfl rfl ?_
                                    refine fz_iload_n kX11_cut rfl rfl ?_
                                    refine fz_callV (d' := 2) (M' := mX11_heardAt) (As := [fz_i d, fz_i t]) (st := []) kX11_cut rfl rfl vX11_heardAt rfl rfl rfl rfl (Nat.le_of_ble_eq_true rfl) (Nat.le_of_ble_eq_true rfl) (by decide) (sX11_heardAt H127 hI128 d t hRM126 (by omega) (by omega)) (fun H139 r140 q141 o142 => ?_)
                                    obtain ⟨hI143, hf144, hRM145, y148, rfl, f146, f147⟩ := q141
                                    clear o142
                                    have hf149 := fz_fr_tr hf129 hf144 (show fz_su [(86, 99999), (87, 99999)] [(58, 99999), (86, 99999), (87, 99999)] = true from rfl)
                                    have hRPm150 : fl_RPm H139 := fl_RPm_eq (funext fun s => hf144 61 s rfl) (hf144 53 10 rfl) (hf144 53 0 rfl) hRPm125
                                    have t151 : H139 53 0 = H127 53 0 := hf144 53 0 rfl
                                    have t152 : H139 53 2 = H127 53 2 := hf144 53 2 rfl
                                    have k153 := hf129 53 0 rfl
                                    have k154 : y148 = -2 ↔ ¬ fl_catM h x50 (h 61 d.toNat) t := fl_cu_h f147 (fz_EM_d hRM126 (fun r => (hI128.1 57 r).1) (fun r => ⟨(hI128.1 55 r).1, (hI128.1 56 r).1⟩)) (by omega) (fun q => ⟨(hI128.1 55 q).1, (hI128.1 56 q).1⟩) (by rw [hf129 61 _ rfl, hf129 53 0 rfl]; omega) (by omega) (by exact (hI128.1 62 _).1) (by exact (hI128.1 54 _).1) hv137 k48 (hf129 53 2 rfl) (by omega) (by omega) (funext fun z => hf129 55 z rfl) (funext fun z => hf129 56 z rfl) (funext fun z => hf129 61 z rfl)
                                    refine fz_bipush ⟨by decide, by decide⟩ kX11_cut rfl ?_
                                    refine fz_icmp_ne (tgt := 171) kX11_cut rfl (by decide) (fun c156 => ?_) (fun c156 => ?_)
                                    · refine fz_iincN (ls' := [(6, fz_i (x50 + 1)), (8, fz_i x124), (7, fz_i y119), (5, fz_i x51), (4, fz_i x37), (0, fz_r 53), (1, fz_i d), (2, fz_i t), (3, fz_i wh)]) kX11_cut rfl (by decide) rfl (by omega) rfl ?_
                                      refine fz_goto (tgt := 75) kX11_cut rfl (by decide) ?_
                                      refine fz_sub (fz_pk_sub (ls' := [(6, fz_i (x50 + 1)), (5, fz_i x51), (4, fz_i x37), (0, fz_r 53), (1, fz_i d), (2, fz_i t), (3, fz_i wh)]) [0, 3, 4, 5, 6, 7, 8] rfl) ?_
                                      exact ih59 (x50 + 1) x51 H139 hI143 hf149 hRPm150 hRM145 (by omega) (by omega) (by omega) (by first | exact fz_o8_f hv136 (funext fun s => hf144 58 s rfl) | exact hv64) (by first | exact fl_cI_y hv65 (by omega) (by have a := f118; omega) (by first | exact Or.inl (by omega) | exact Or.inr (by have a := f118; have b := lost; omega)) (k154.mp (by omega)) | exact fl_cI_n hv65 (Or.inr (Or.inr (fun z => by have q := k154.mpr z; omega))) | exact fl_cI_n hv65 (Or.inl (by have a := f118; omega)) | exact fl_cI_n hv65 (Or.inr (Or.inl ⟨by omega, (by have a := f118; have b := lost; omega)⟩))) (by omega)
                                    · refine fz_iload kX11_cut rfl rfl ?_
                                      refine fz_istore (ls' := [(5, fz_i x50), (8, fz_i x124), (7, fz_i y119), (6, fz_i x50), (4, fz_i x37), (0, fz_r 53), (1, fz_i d), (2, fz_i t), (3, fz_i wh)]) kX11_cut rfl (by decide) rfl ?_
                                      refine fz_iincN (ls' := [(6, fz_i (x50 + 1)), (5, fz_i x50), (8, fz_i x124), (7, fz_i y119), (4, fz_i x37), (0, fz_r 53), (1, fz_i d), (2, fz_i t), (3, fz_i wh)]) kX11_cut rfl (by decide) rfl (by omega) rfl ?_
                                      refine fz_goto (tgt := 75) kX11_cut rfl (by decide) ?_
                                      refine fz_sub (fz_pk_sub (ls' := [(6, fz_i (x50 + 1)), (5, fz_i x50), (4, fz_i x37), (0, fz_r 53), (1, fz_i d), (2, fz_i t), (3, fz_i wh)]) [0, 1, 4, 5, 6, 7, 8] rfl) ?_
                                      exact ih59 (x50 + 1) x50 H139 hI143 hf149 hRPm150 hRM145 (by omega) (by omega) (by omega) (by first | exact fz_o8_f hv136 (funext fun s => hf144 58 s rfl) | exact hv64) (by first | exact fl_cI_y hv65 (by omega) (by have a := f118; omega) (by first | exact Or.inl (by omega) | exact Or.inr (by have a := f118; have b := lost; omega)) (k154.mp (by omega)) | exact fl_cI_n hv65 (Or.inr (Or.inr (fun z => by have q := k154.mpr z; omega))) | exact fl_cI_n hv65 (Or.inl (by have a := f118; omega)) | exact fl_cI_n hv65 (Or.inr (Or.inl ⟨by omega, (by have a := f118; have b := lost; omega)⟩))) (by omega)
                                  · refine fz_aload_n kX11_cut rfl rfl ?_
                                    refine fz_getR (t := 58) kX11_cut rfl rfl ?_
                                    refine fz_iload kX11_cut rfl rfl ?_
                                    refine fz_iload kX11_cut rfl rfl ?_
                                    refine fz_iload kX11_cut rfl rfl ?_
                                    refine fz_iconst ⟨by decide, by decide⟩ kX11_cut rfl ?_
                                    refine fz_ixor kX11_cut rfl ?_
                                    have b161 : -2147483648 ≤ (fz_xor x50 (-1)) ∧ (fz_xor x50 (-1)) < 2147483648 := fz_b32 _
                                    refine fz_iand kX11_cut rfl ?_
                                    have b163 : -2147483648 ≤ (fz_and x37 (fz_xor x50 (-1))) ∧ (fz_and x37 (fz_xor x50 (-1))) < 2147483648 := fz_b32 _
                                    refine fz_iload kX11_cut rfl rfl ?_
                                    refine fz_ishr kX11_cut rfl ?_
                                    have b165 : -2147483648 ≤ (fz_shr (fz_and x37 (fz_xor x50 (-1))) x124) ∧ (fz_shr (fz_and x37 (fz_xor x50 (-1))) x124) < 2147483648 := fz_b32 _
                                    refine fz_iconst ⟨by decide, by decide⟩ kX11_cut rfl ?_
                                    refine fz_iand kX11_cut rfl ?_
                                    have b167 : -2147483648 ≤ (fz_and (fz_shr (fz_and x37 (fz_xor x50 (-1))) x124) 1) ∧ (fz_and (fz_shr (fz_and x37 (fz_xor x50 (-1))) x124) 1) < 2147483648 := fz_b32 _
                                    have b168 : 0 ≤ (fz_and (fz_shr (fz_and x37 (fz_xor x50 (-1))) x124) 1) ∧ (fz_and (fz_shr (fz_and x37 (fz_xor x50 (-1))) x124) 1) ≤ 1 := fz_and_m (by omega) (by omega)
                                    refine fz_iast (n := 12) kX11_cut rfl rfl (by omega) (by omega) ?_
                                    refine fz_nmu (S := [(58, 99999), (86, 99999), (87, 99999)]) (h0 := h) (fz_Iv_up hI128 (by decide) (show (0 : Int) ≤ (fz_and (fz_shr (fz_and x37 (fz_xor x50 (-1))) x124) 1) by omega) (show ((fz_and (fz_shr (fz_and x37 (fz_xor x50 (-1))) x124) 1) : Int) ≤ 1 by omega)) (fz_fr_up hf129 rfl) (fun H169 hI170 hf171 e172 => ?_)
                                    have t173 : H169 53 0 = H127 53 0 := by rw [e172]; exact fz_up_o (by decide)
                                    have t174 : H169 53 2 = H127 53 2 := by rw [e172]; exact fz_up_o (by decide)
                                    have hRPm175 : fl_RPm H169 := fl_RPm_eq (by rw [e172]; exact fz_up_ne (by decide)) (by rw [e172]; exact fz_up_o (by decide)) (by rw [e172]; exact fz_up_o (by decide)) hRPm125
                                    have hRM176 : fz_RM H169 := fz_RM_eq (by rw [e172]; exact fz_up_ne (by decide)) (by rw [e172]; exact fz_up_ne (by decide)) (by rw [e172]; exact fz_up_o (by decide)) (by rw [e172]; exact fz_up_o (by decide)) hRM126
                                    refine fz_iincN (ls' := [(8, fz_i (x124 + 1)), (7, fz_i y119), (6, fz_i x50), (5, fz_i x51), (4, fz_i x37), (0, fz_r 53), (1, fz_i d), (2, fz_i t), (3, fz_i wh)]) kX11_cut rfl (by decide) rfl (by omega) rfl ?_
                                    refine fz_goto (tgt := 122) kX11_cut rfl (by decide) ?_
                                    exact ih132 (x124 + 1) H169 hI170 hf171 hRPm175 hRM176 (by omega) (by omega) (fz_o8_st hv136 e172 (by omega)) (fl_cuI_s hv137 (by omega) e172 rfl) (by omega)
                              exact lp131 _ 0 H54 hI55 hf56 hRPm52 hRM53 (by omega) (by omega) (hv64) (fl_cuI_0) (Nat.lt_succ_self _)
                            · refine fz_iload kX11_cut rfl rfl ?_
                              refine fz_iload kX11_cut rfl rfl ?_
                              refine fz_callS (d' := 0) (M' := mJ6_bitCount_0f7a4) (As := [fz_i x51]) (st := [fz_i y119]) kX11_cut rfl rfl vJ6_bitCount_0f7a4 rfl rfl (Nat.le_of_ble_eq_true rfl) (Nat.le_of_ble_eq_true rfl) (by decide) (sJ6_bitCount_0f7a4 H54 hI55 x51 ) (fun H181 r182 q183 o184 => ?_)
                              obtain ⟨e185, y188, rfl, f186, f187⟩ := q183
                              subst H181
                              clear o184
                              refine fz_icmp_lt (tgt := 119) kX11_cut rfl (by decide) (fun c189 => ?_) (fun c189 => ?_)
                              · refine fz_iconst ⟨by decide, by decide⟩ kX11_cut rfl ?_
                                refine fz_istore (ls' := [(8, fz_i 0), (7, fz_i y119), (6, fz_i x50), (5, fz_i x51), (4, fz_i x37), (0, fz_r 53), (1, fz_i d), (2, fz_i t), (3, fz_i wh)]) kX11_cut rfl (by decide) rfl ?_
                                have lp197 : ∀ (n196 : Nat) (x190 : Int) (H193 : fz_H), fz_Iv H193 → fz_fr [(58, 99999), (86, 99999), (87, 99999)] h H193 → fl_RPm H193 → fz_RM H193 → (0 ≤ x190 ∧ x190 ≤ 2147483647) → (x190 ≤ h 53 2) → (fz_o8 h H193) → (fl_cuI H193 x37 x50 x190) → ((h 53 2) - x190).toNat < n196 → fz_R 3 mX11_cut 122 [(8, fz_i x190), (7, fz_i y119), (6, fz_i x50), (5, fz_i x51), (4, fz_i x37), (0, fz_r 53), (1, fz_i d), (2, fz_i t), (3, fz_i wh)] [] H193 (qX11_cut h d t wh) := by
                                  intro n196
                                  induction n196 with
                                  | zero => intro x190 H193 hI194 hf195 hRPm191 hRM192 hv200 hv201 hv202 hv203 hm199; exact absurd hm199 (by omega)
                                  | succ n196 ih198 =>
                                    intro x190 H193 hI194 hf195 hRPm191 hRM192 hv200 hv201 hv202 hv203 hm199
                                    refine fz_iload kX11_cut rfl rfl ?_
                                    refine fz_aload_n kX11_cut rfl rfl ?_
                                    refine fz_getV (v := h 53 2) kX11_cut rfl rfl (hf195 53 2 rfl) ?_
                                    refine fz_icmp_ge (tgt := 156) kX11_cut rfl (by decide) (fun c204 => ?_) (fun c204 => ?_)
                                    · refine fz_aload_n kX11_cut rfl rfl ?_
                                      refine fz_iload_n kX11_cut rfl rfl ?_
                                      refine fz_iload_n kX11_cut rfl rfl ?_
                                      refine fz_callV (d' := 2) (M' := mX11_heardAt) (As := [fz_i d, fz_i t]) (st := []) kX11_cut rfl rfl vX11_heardAt rfl rfl rfl rfl (Nat.le_of_ble_eq_true rfl) (Nat.le_of_ble_eq_true rfl) (by decide) (sX11_heardAt H193 hI194 d t hRM192 (by omega) (by omega)) (fun H205 r206 q207 o208 => ?_)
                                      obtain ⟨hI209, hf210, hRM211, y214, rfl, f212, f213⟩ := q207
                                      clear o208
                                      have hf215 := fz_fr_tr hf195 hf210 (show fz_su [(86, 99999), (87, 99999)] [(58, 99999), (86, 99999), (87, 99999)] = true from rfl)
                                      have hRPm216 : fl_RPm H205 := fl_RPm_eq (funext fun s => hf210 61 s rfl) (hf210 53 10 rfl) (hf210 53 0 rfl) hRPm191
                                      have t217 : H205 53 0 = H193 53 0 := hf210 53 0 rfl
                                      have t218 : H205 53 2 = H193 53 2 := hf210 53 2 rfl
                                      have k219 := hf195 53 0 rfl
                                      have k220 : y214 = -2 ↔ ¬ fl_catM h x50 (h 61 d.toNat) t := fl_cu_h f213 (fz_EM_d hRM192 (fun r => (hI194.1 57 r).1) (fun r => ⟨(hI194.1 55 r).1, (hI194.1 56 r).1⟩)) (by omega) (fun q => ⟨(hI194.1 55 q).1, (hI194.1 56 q).1⟩) (by rw [hf195 61 _ rfl, hf195 53 0 rfl]; omega) (by omega) (by exact (hI194.1 62 _).1) (by exact (hI194.1 54 _).1) hv203 k48 (hf195 53 2 rfl) (by omega) (by omega) (funext fun z => hf195 55 z rfl) (funext fun z => hf195 56 z rfl) (funext fun z => hf195 61 z rfl)
                                      refine fz_bipush ⟨by decide, by decide⟩ kX11_cut rfl ?_
                                      refine fz_icmp_ne (tgt := 171) kX11_cut rfl (by decide) (fun c222 => ?_) (fun c222 => ?_)
                                      · refine fz_iincN (ls' := [(6, fz_i (x50 + 1)), (8, fz_i x190), (7, fz_i y119), (5, fz_i x51), (4, fz_i x37), (0, fz_r 53), (1, fz_i d), (2, fz_i t), (3, fz_i wh)]) kX11_cut rfl (by decide) rfl (by omega) rfl ?_
                                        refine fz_goto (tgt := 75) kX11_cut rfl (by decide) ?_
                                        refine fz_sub (fz_pk_sub (ls' := [(6, fz_i (x50 + 1)), (5, fz_i x51), (4, fz_i x37), (0, fz_r 53), (1, fz_i d), (2, fz_i t), (3, fz_i wh)]) [0, 3, 4, 5, 6, 7, 8] rfl) ?_
                                        exact ih59 (x50 + 1) x51 H205 hI209 hf215 hRPm216 hRM211 (by omega) (by omega) (by omega) (by first | exact fz_o8_f hv202 (funext fun s => hf210 58 s rfl) | exact hv64) (by first | exact fl_cI_y hv65 (by omega) (by have a := f118; omega) (by first | exact Or.inl (by omega) | exact Or.inr (by have a := f118; have b := f187; omega)) (k220.mp (by omega)) | exact fl_cI_n hv65 (Or.inr (Or.inr (fun z => by have q := k220.mpr z; omega))) | exact fl_cI_n hv65 (Or.inl (by have a := f118; omega)) | exact fl_cI_n hv65 (Or.inr (Or.inl ⟨by omega, (by have a := f118; have b := f187; omega)⟩))) (by omega)
                                      · refine fz_iload kX11_cut rfl rfl ?_
                                        refine fz_istore (ls' := [(5, fz_i x50), (8, fz_i x190), (7, fz_i y119), (6, fz_i x50), (4, fz_i x37), (0, fz_r 53), (1, fz_i d), (2, fz_i t), (3, fz_i wh)]) kX11_cut rfl (by decide) rfl ?_
                                        refine fz_iincN (ls' := [(6, fz_i (x50 + 1)), (5, fz_i x50), (8, fz_i x190), (7, fz_i y119), (4, fz_i x37), (0, fz_r 53), (1, fz_i d), (2, fz_i t), (3, fz_i wh)]) kX11_cut rfl (by decide) rfl (by omega) rfl ?_
                                        refine fz_goto (tgt := 75) kX11_cut rfl (by decide) ?_
                                        refine fz_sub (fz_pk_sub (ls' := [(6, fz_i (x50 + 1)), (5, fz_i x50), (4, fz_i x37), (0, fz_r 53), (1, fz_i d), (2, fz_i t), (3, fz_i wh)]) [0, 1, 4, 5, 6, 7, 8] rfl) ?_
                                        exact ih59 (x50 + 1) x50 H205 hI209 hf215 hRPm216 hRM211 (by omega) (by omega) (by omega) (by first | exact fz_o8_f hv202 (funext fun s => hf210 58 s rfl) | exact hv64) (by first | exact fl_cI_y hv65 (by omega) (by have a := f118; omega) (by first | exact Or.inl (by omega) | exact Or.inr (by have a := f118; have b := f187; omega)) (k220.mp (by omega)) | exact fl_cI_n hv65 (Or.inr (Or.inr (fun z => by have q := k220.mpr z; omega))) | exact fl_cI_n hv65 (Or.inl (by have a := f118; omega)) | exact fl_cI_n hv65 (Or.inr (Or.inl ⟨by omega, (by have a := f118; have b := f187; omega)⟩))) (by omega)
                                    · refine fz_aload_n kX11_cut rfl rfl ?_
                                      refine fz_getR (t := 58) kX11_cut rfl rfl ?_
                                      refine fz_iload kX11_cut rfl rfl ?_
                                      refine fz_iload kX11_cut rfl rfl ?_
                                      refine fz_iload kX11_cut rfl rfl ?_
                                      refine fz_iconst ⟨by decide, by decide⟩ kX11_cut rfl ?_
                                      refine fz_ixor kX11_cut rfl ?_
                                      have b227 : -2147483648 ≤ (fz_xor x50 (-1)) ∧ (fz_xor x50 (-1)) < 2147483648 := fz_b32 _
                                      refine fz_iand kX11_cut rfl ?_
                                      have b229 : -2147483648 ≤ (fz_and x37 (fz_xor x50 (-1))) ∧ (fz_and x37 (fz_xor x50 (-1))) < 2147483648 := fz_b32 _
                                      refine fz_iload kX11_cut rfl rfl ?_
                                      refine fz_ishr kX11_cut rfl ?_
                                      have b231 : -2147483648 ≤ (fz_shr (fz_and x37 (fz_xor x50 (-1))) x190) ∧ (fz_shr (fz_and x37 (fz_xor x50 (-1))) x190) < 2147483648 := fz_b32 _
                                      refine fz_iconst ⟨by decide, by decide⟩ kX11_cut rfl ?_
                                      refine fz_iand kX11_cut rfl ?_
                                      have b233 : -2147483648 ≤ (fz_and (fz_shr (fz_and x37 (fz_xor x50 (-1))) x190) 1) ∧ (fz_and (fz_shr (fz_and x37 (fz_xor x50 (-1))) x190) 1) < 2147483648 := fz_b32 _
                                      have b234 : 0 ≤ (fz_and (fz_shr (fz_and x37 (fz_xor x50 (-1))) x190) 1) ∧ (fz_and (fz_shr (fz_and x37 (fz_xor x50 (-1))) x190) 1) ≤ 1 := fz_and_m (by omega) (by omega)
                                      refine fz_iast (n := 12) kX11_cut rfl rfl (by omega) (by omega) ?_
                                      refine fz_nmu (S := [(58, 99999), (86, 99999), (87, 99999)]) (h0 := h) (fz_Iv_up hI194 (by decide) (show (0 : Int) ≤ (fz_and (fz_shr (fz_and x37 (fz_xor x50 (-1))) x190) 1) by omega) (show ((fz_and (fz_shr (fz_and x37 (fz_xor x50 (-1))) x190) 1) : Int) ≤ 1 by omega)) (fz_fr_up hf195 rfl) (fun H235 hI236 hf237 e238 => ?_)
                                      have t239 : H235 53 0 = H193 53 0 := by rw [e238]; exact fz_up_o (by decide)
                                      have t240 : H235 53 2 = H193 53 2 := by rw [e238]; exact fz_up_o (by decide)
                                      have hRPm241 : fl_RPm H235 := fl_RPm_eq (by rw [e238]; exact fz_up_ne (by decide)) (by rw [e238]; exact fz_up_o (by decide)) (by rw [e238]; exact fz_up_o (by decide)) hRPm191
                                      have hRM242 : fz_RM H235 := fz_RM_eq (by rw [e238]; exact fz_up_ne (by decide)) (by rw [e238]; exact fz_up_ne (by decide)) (by rw [e238]; exact fz_up_o (by decide)) (by rw [e238]; exact fz_up_o (by decide)) hRM192
                                      refine fz_iincN (ls' := [(8, fz_i (x190 + 1)), (7, fz_i y119), (6, fz_i x50), (5, fz_i x51), (4, fz_i x37), (0, fz_r 53), (1, fz_i d), (2, fz_i t), (3, fz_i wh)]) kX11_cut rfl (by decide) rfl (by omega) rfl ?_
                                      refine fz_goto (tgt := 122) kX11_cut rfl (by decide) ?_
                                      exact ih198 (x190 + 1) H235 hI236 hf237 hRPm241 hRM242 (by omega) (by omega) (fz_o8_st hv202 e238 (by omega)) (fl_cuI_s hv203 (by omega) e238 rfl) (by omega)
                                exact lp197 _ 0 H54 hI55 hf56 hRPm52 hRM53 (by omega) (by omega) (hv64) (fl_cuI_0) (Nat.lt_succ_self _)
                              · refine fz_goto (tgt := 171) kX11_cut rfl (by decide) ?_
                                refine fz_iincN (ls' := [(6, fz_i (x50 + 1)), (7, fz_i y119), (5, fz_i x51), (4, fz_i x37), (0, fz_r 53), (1, fz_i d), (2, fz_i t), (3, fz_i wh)]) kX11_cut rfl (by decide) rfl (by omega) rfl ?_
                                refine fz_goto (tgt := 75) kX11_cut rfl (by decide) ?_
                                refine fz_sub (fz_pk_sub (ls' := [(6, fz_i (x50 + 1)), (5, fz_i x51), (4, fz_i x37), (0, fz_r 53), (1, fz_i d), (2, fz_i t), (3, fz_i wh)]) [0, 2, 3, 4, 5, 6, 7] rfl) ?_
                                exact ih59 (x50 + 1) x51 H54 hI55 hf56 hRPm52 hRM53 (by omega) (by omega) (by omega) (by first | exact fz_o8_f lost (funext fun s => lost 58 s rfl) | exact hv64) (by first | exact fl_cI_y hv65 (by omega) (by have a := f118; omega) (by first | exact Or.inl (by omega) | exact Or.inr (by have a := f118; have b := f187; omega)) (lost.mp (by omega)) | exact fl_cI_n hv65 (Or.inr (Or.inr (fun z => by have q := lost.mpr z; omega))) | exact fl_cI_n hv65 (Or.inl (by have a := f118; omega)) | exact fl_cI_n hv65 (Or.inr (Or.inl ⟨by omega, (by have a := f118; have b := f187; omega)⟩))) (by omega)
                    exact lp58 _ 0 (-2) h hI hf hRPm hRM (by omega) (by omega) (by omega) (fz_o8_z) (fl_cI_0) (Nat.lt_succ_self _)
                  · refine fz_aload_n kX11_cut rfl rfl ?_
                    refine fz_getR (t := 58) kX11_cut rfl rfl ?_
                    refine fz_iload kX11_cut rfl rfl ?_
                    refine fz_ialdV (n := 12) (v := h 58 (x36.toNat)) kX11_cut rfl rfl (by omega) (by omega) rfl ?_
                    have b251 : 0 ≤ h 58 (x36.toNat) ∧ h 58 (x36.toNat) ≤ 1 := hI.1 58 _
                    refine fz_iconst ⟨by decide, by decide⟩ kX11_cut rfl ?_
                    refine fz_icmp_ne (tgt := 62) kX11_cut rfl (by decide) (fun c252 => ?_) (fun c252 => ?_)
                    · refine fz_iincN (ls' := [(5, fz_i (x36 + 1)), (4, fz_i x37), (0, fz_r 53), (1, fz_i d), (2, fz_i t), (3, fz_i wh)]) kX11_cut rfl (by decide) rfl (by omega) rfl ?_
                      refine fz_goto (tgt := 33) kX11_cut rfl (by decide) ?_
                      exact ih40 (x36 + 1) x37 (by omega) (by omega) (by omega) (by first | exact fz_cb_1 hv45 (by omega) (by omega) | exact fz_cb_0 hv45 (by omega) (by omega)) (by omega)
                    · refine fz_iload kX11_cut rfl rfl ?_
                      refine fz_iconst ⟨by decide, by decide⟩ kX11_cut rfl ?_
                      refine fz_iload kX11_cut rfl rfl ?_
                      refine fz_ishl kX11_cut rfl ?_
                      have b254 : -2147483648 ≤ (fz_shl 1 x36) ∧ (fz_shl 1 x36) < 2147483648 := fz_b32 _
                      refine fz_ior kX11_cut rfl ?_
                      have b256 : -2147483648 ≤ (fz_or x37 (fz_shl 1 x36)) ∧ (fz_or x37 (fz_shl 1 x36)) < 2147483648 := fz_b32 _
                      refine fz_istore (ls' := [(4, fz_i (fz_or x37 (fz_shl 1 x36))), (5, fz_i x36), (0, fz_r 53), (1, fz_i d), (2, fz_i t), (3, fz_i wh)]) kX11_cut rfl (by decide) rfl ?_
                      refine fz_iincN (ls' := [(5, fz_i (x36 + 1)), (4, fz_i (fz_or x37 (fz_shl 1 x36))), (0, fz_r 53), (1, fz_i d), (2, fz_i t), (3, fz_i wh)]) kX11_cut rfl (by decide) rfl (by omega) rfl ?_
                      refine fz_goto (tgt := 33) kX11_cut rfl (by decide) ?_
                      exact ih40 (x36 + 1) (fz_or x37 (fz_shl 1 x36)) (by omega) (by omega) (by omega) (by first | exact fz_cb_1 hv45 (by omega) (by omega) | exact fz_cb_0 hv45 (by omega) (by omega)) (by omega)
              exact lp39 _ 0 0 (by omega) (by omega) (by omega) (fz_cb_z rfl) (Nat.lt_succ_self _)
            · exfalso; omega
          · refine fz_if_ne (tgt := 27) kX11_cut rfl (by decide) (fun c260 => ?_) (fun c260 => ?_)
            · exfalso; omega
            · refine fz_iconst ⟨by decide, by decide⟩ kX11_cut rfl ?_
              exact fz_iret kX11_cut rfl rfl (fun _ => ⟨hI, hf, hRPm, hRM, _, rfl, (by omega), (by first | rfl | exact fz_rs_e lost (by omega)), (by first | exact Or.inl ⟨(by unfold fl_oC; omega), ⟨{l5}, fl_cI_e lost (by omega), fl_cux_1 (by omega)⟩⟩ | exact Or.inl ⟨(by unfold fl_oC; omega), ⟨{l5}, fl_cI_e lost (by omega), fl_cux_2 (by omega) lost⟩⟩ | exact Or.inr ⟨(by unfold fl_oC; omega), rfl⟩)⟩)
      · refine fz_if_eq (tgt := 25) kX11_cut rfl (by decide) (fun c263 => ?_) (fun c263 => ?_)
        · refine fz_iconst ⟨by decide, by decide⟩ kX11_cut rfl ?_
          exact fz_iret kX11_cut rfl rfl (fun _ => ⟨hI, hf, hRPm, hRM, _, rfl, (by omega), (by first | rfl | exact fz_rs_e lost (by omega)), (by first | exact Or.inl ⟨(by unfold fl_oC; omega), ⟨{l5}, fl_cI_e lost (by omega), fl_cux_1 (by omega)⟩⟩ | exact Or.inl ⟨(by unfold fl_oC; omega), ⟨{l5}, fl_cI_e lost (by omega), fl_cux_2 (by omega) lost⟩⟩ | exact Or.inr ⟨(by unfold fl_oC; omega), rfl⟩)⟩)
        · exfalso; omega
  · refine fz_if_eq (tgt := 25) kX11_cut rfl (by decide) (fun c266 => ?_) (fun c266 => ?_)
    · refine fz_iconst ⟨by decide, by decide⟩ kX11_cut rfl ?_
      exact fz_iret kX11_cut rfl rfl (fun _ => ⟨hI, hf, hRPm, hRM, _, rfl, (by omega), (by first | rfl | exact fz_rs_e lost (by omega)), (by first | exact Or.inl ⟨(by unfold fl_oC; omega), ⟨{l5}, fl_cI_e lost (by omega), fl_cux_1 (by omega)⟩⟩ | exact Or.inl ⟨(by unfold fl_oC; omega), ⟨{l5}, fl_cI_e lost (by omega), fl_cux_2 (by omega) lost⟩⟩ | exact Or.inr ⟨(by unfold fl_oC; omega), rfl⟩)⟩)
    · exfalso; omega

abbrev qX11_isFree (h : fz_H) (pe hr : Int) : fz_H → Option fz_V → Prop := fun h' r0 => fz_Iv h' ∧ fz_fr [(74, 99999), (75, 99999)] h h' ∧ fz_Xw h' ∧ fl_HB h' ∧ ∃ r : Int, r0 = some (fz_i r) ∧ (r = 0 ∨ r = 1) ∧ (fl_ifM h pe hr r)
set_option maxHeartbeats 1000000 in
set_option maxRecDepth 100000 in
theorem sX11_isFree (h : fz_H) (hI : fz_Iv h) (pe hr : Int) (hXw : fz_Xw h) (hHB : fl_HB h) : fz_R 5 mX11_isFree 0 [(0, fz_r 53), (1, fz_i pe), (2, fz_i hr)] [] h (qX11_isFree h pe hr) := by
  refine fz_knowl (fun hk => ?_)
  have hr_pe : -2147483648 ≤ pe ∧ pe < 2147483648 := hk _ (List.Mem.tail _ (List.Mem.head _))
  have hr_hr : -2147483648 ≤ hr ∧ hr < 2147483648 := hk _ (List.Mem.tail _ (List.Mem.tail _ (List.Mem.head _)))
  clear hk
  have hf : fz_fr [(74, 99999), (75, 99999)] h h := fz_fr_rf
  have k1 : 0 ≤ h 53 0 ∧ h 53 0 ≤ 8 := hI.1 53 _
  refine fz_iconst ⟨by decide, by decide⟩ kX11_isFree rfl ?_
  refine fz_istore_n (ls' := [(3, fz_i 0), (0, fz_r 53), (1, fz_i pe), (2, fz_i hr)]) kX11_isFree rfl (by decide) rfl ?_
  have lp9 : ∀ (n8 : Nat) (x2 : Int) (H5 : fz_H), fz_Iv H5 → fz_fr [(74, 99999), (75, 99999)] h H5 → fz_Xw H5 → fl_HB H5 → (0 ≤ x2 ∧ x2 ≤ 2147483647) → (fl_ifI h pe hr x2) → ((h 53 0) - x2).toNat < n8 → fz_R 5 mX11_isFree 2 [(3, fz_i x2), (0, fz_r 53), (1, fz_i pe), (2, fz_i hr)] [] H5 (qX11_isFree h pe hr) := by
    intro n8
    induction n8 with
    | zero => intro x2 H5 hI6 hf7 hXw3 hHB4 hv12 hv13 hm11; exact absurd hm11 (by omega)
    | succ n8 ih10 =>
      intro x2 H5 hI6 hf7 hXw3 hHB4 hv12 hv13 hm11
      refine fz_iload_n kX11_isFree rfl rfl ?_
      refine fz_aload_n kX11_isFree rfl rfl ?_
      refine fz_getV (v := h 53 0) kX11_isFree rfl rfl (hf7 53 0 rfl) ?_
      have b14 : 0 ≤ h 53 0 ∧ h 53 0 ≤ 8 := hI.1 53 _
      refine fz_icmp_ge (tgt := 28) kX11_isFree rfl (by decide) (fun c15 => ?_) (fun c15 => ?_)
      · refine fz_iconst ⟨by decide, by decide⟩ kX11_isFree rfl ?_
        exact fz_zret kX11_isFree rfl rfl (by omega) ⟨hI6, hf7, hXw3, hHB4, _, rfl, (by omega), (by first | exact fl_ifI_y lost (by omega) ⟨by omega, by omega⟩ rfl | exact fl_ifI_n hv13 (by omega) rfl)⟩
      · refine fz_aload_n kX11_isFree rfl rfl ?_
        refine fz_iload_n kX11_isFree rfl rfl ?_
        refine fz_iload_n kX11_isFree rfl rfl ?_
        refine fz_iload_n kX11_isFree rfl rfl ?_
        have b17 : 0 ≤ h 53 8 ∧ h 53 8 ≤ 99 := hI.1 53 _
        have e18 : H5 53 0 = h 53 0 := hf7 53 0 rfl
        have e19 : H5 53 8 = h 53 8 := hf7 53 8 rfl
        refine fz_callV (d' := 4) (M' := mX11_isArrested) (As := [fz_i pe, fz_i x2, fz_i hr]) (st := []) kX11_isFree rfl rfl vX11_isArrested rfl rfl rfl rfl (Nat.le_of_ble_eq_true rfl) (Nat.le_of_ble_eq_true rfl) (by decide) (sX11_isArrested H5 hI6 pe x2 hr hXw3 hHB4 (by omega) (by omega)) (fun H20 r21 q22 o23 => ?_)
        obtain ⟨hI24, hf25, hXw26, hHB27, y29, rfl, p30, f28⟩ := q22
        clear o23
        have hf31 := fz_fr_tr hf7 hf25 (show fz_su [(74, 99999), (75, 99999)] [(74, 99999), (75, 99999)] = true from rfl)
        have t32 : H20 53 0 = H5 53 0 := hf25 53 0 rfl
        have k33 := fl_if_h hf7 rfl (hf7 53 8 rfl) f28
        refine fz_if_eq (tgt := 22) kX11_isFree rfl (by decide) (fun c35 => ?_) (fun c35 => ?_)
        · refine fz_iincN (ls' := [(3, fz_i (x2 + 1)), (0, fz_r 53), (1, fz_i pe), (2, fz_i hr)]) kX11_isFree rfl (by decide) rfl (by omega) rfl ?_
          refine fz_goto (tgt := 2) kX11_isFree rfl (by decide) ?_
          exact ih10 (x2 + 1) H20 hI24 hf31 hXw26 hHB27 (by omega) (fl_ifI_s hv13 k33 (by omega)) (by omega)
        · refine fz_iconst ⟨by decide, by decide⟩ kX11_isFree rfl ?_
          exact fz_zret kX11_isFree rfl rfl (by omega) ⟨hI24, hf31, hXw26, hHB27, _, rfl, (by omega), (by first | exact fl_ifI_y k33 (by omega) ⟨by omega, by omega⟩ rfl | exact fl_ifI_n hv13 (by omega) rfl)⟩
  exact lp9 _ 0 h hI hf hXw hHB (by omega) (fl_ifI_0) (Nat.lt_succ_self _)

abbrev qX11_free (h : fz_H) (on hr wh : Int) : fz_H → Option fz_V → Prop := fun h' r0 => fz_Iv h' ∧ fz_fr [(60, 99999), (74, 99999), (75, 99999), (86, 99999), (87, 99999), (88, 99999)] h h' ∧ fz_Xw h' ∧ fz_RM h' ∧ fl_RPm h' ∧ ∃ r : Int, r0 = some (fz_i r) ∧ ((-2147483648) ≤ r ∧ r ≤ 2147483647) ∧ (h' 60 = h 60) ∧ (fl_frM h on hr wh r)
set_option maxHeartbeats 1000000 in
set_option maxRecDepth 100000 in
theorem sX11_free (h : fz_H) (hI : fz_Iv h) (on hr wh : Int) (hXw : fz_Xw h) (hRM : fz_RM h) (hRPm : fl_RPm h) : fz_R 6 mX11_free 0 [(0, fz_r 53), (1, fz_i on), (2, fz_i hr), (3, fz_i wh)] [] h (qX11_free h on hr wh) := by
  refine fz_knowl (fun hk => ?_)
  have hr_on : -2147483648 ≤ on ∧ on < 2147483648 := hk _ (List.Mem.tail _ (List.Mem.head _))
  have hr_hr : -2147483648 ≤ hr ∧ hr < 2147483648 := hk _ (List.Mem.tail _ (List.Mem.tail _ (List.Mem.head _)))
  have hr_wh : -2147483648 ≤ wh ∧ wh < 2147483648 := hk _ (List.Mem.tail _ (List.Mem.tail _ (List.Mem.tail _ (List.Mem.head _))))
  clear hk
  have hf : fz_fr [(60, 99999), (74, 99999), (75, 99999), (86, 99999), (87, 99999), (88, 99999)] h h := fz_fr_rf
  have k1 : 0 ≤ h 53 0 ∧ h 53 0 ≤ 8 := hI.1 53 _
  have k2 : 0 ≤ h 53 10 ∧ h 53 10 ≤ 11 := hI.1 53 _
  refine fz_iload_n kX11_free rfl rfl ?_
  refine fz_callS (d' := 1) (M' := mX11_isPerson) (As := [fz_i on]) (st := []) kX11_free rfl rfl vX11_isPerson rfl rfl (Nat.le_of_ble_eq_true rfl) (Nat.le_of_ble_eq_true rfl) (by decide) (sX11_isPerson h hI on ) (fun H3 r4 q5 o6 => ?_)
  obtain ⟨e7, y8, rfl, p9⟩ := q5
  subst H3
  clear o6
  rcases p9 with ⟨rfl, c10⟩ | ⟨rfl, c10⟩
  · refine fz_if_eq (tgt := 23) kX11_free rfl (by decide) (fun c11 => ?_) (fun c11 => ?_)
    · exfalso; omega
    · refine fz_iload_n kX11_free rfl rfl ?_
      refine fz_callS (d' := 1) (M' := mX11_isHour) (As := [fz_i hr]) (st := []) kX11_free rfl rfl vX11_isHour rfl rfl (Nat.le_of_ble_eq_true rfl) (Nat.le_of_ble_eq_true rfl) (by decide) (sX11_isHour h hI hr ) (fun H12 r13 q14 o15 => ?_)
      obtain ⟨e16, y17, rfl, p18⟩ := q14
      subst H12
      clear o15
      rcases p18 with ⟨rfl, c19⟩ | ⟨rfl, c19⟩
      · refine fz_if_eq (tgt := 23) kX11_free rfl (by decide) (fun c20 => ?_) (fun c20 => ?_)
        · exfalso; omega
        · refine fz_iload_n kX11_free rfl rfl ?_
          refine fz_iconst ⟨by decide, by decide⟩ kX11_free rfl ?_
          refine fz_iconst ⟨by decide, by decide⟩ kX11_free rfl ?_
          refine fz_callS (d' := 0) (M' := mX11_within) (As := [fz_i wh, fz_i 0, fz_i 1]) (st := []) kX11_free rfl rfl vX11_within rfl rfl (Nat.le_of_ble_eq_true rfl) (Nat.le_of_ble_eq_true rfl) (by decide) (sX11_within h hI wh 0 1 ) (fun H21 r22 q23 o24 => ?_)
          obtain ⟨e25, y26, rfl, p27⟩ := q23
          subst H21
          clear o24
          rcases p27 with ⟨rfl, c28⟩ | ⟨rfl, c28⟩
          · refine fz_if_ne (tgt := 25) kX11_free rfl (by decide) (fun c29 => ?_) (fun c29 => ?_)
            · refine fz_aload_n kX11_free rfl rfl ?_
              have b30 : 0 ≤ h 53 10 ∧ h 53 10 ≤ 11 := hI.1 53 _
              refine fz_callV (d' := 3) (M' := mX11_allHear) (As := []) (st := []) kX11_free rfl rfl vX11_allHear rfl rfl rfl rfl (Nat.le_of_ble_eq_true rfl) (Nat.le_of_ble_eq_true rfl) (by decide) (sX11_allHear h hI  hRM hRPm) (fun H31 r32 q33 o34 => ?_)
              obtain ⟨hI35, hf36, hRM37, hRPm38, rfl, f39⟩ := q33
              clear o34
              have hf40 := fz_fr_tr hf hf36 (show fz_su [(86, 99999), (87, 99999), (88, 99999)] [(60, 99999), (74, 99999), (75, 99999), (86, 99999), (87, 99999), (88, 99999)] = true from rfl)
              have hXw41 : fz_Xw H31 := fz_Xw_eq (hf36 53 19 rfl) (funext fun s => hf36 66 s rfl) (funext fun s => hf36 67 s rfl) (funext fun s => hf36 68 s rfl) (funext fun s => hf36 69 s rfl) hXw
              have t42 : H31 53 10 = h 53 10 := hf36 53 10 rfl
              have t43 : H31 53 0 = h 53 0 := hf36 53 0 rfl
              have hHB44 : fl_HB H31 := fl_HB_of2 f39 (funext fun s => hf36 62 s rfl) (hf36 53 10 rfl) (hf36 53 0 rfl) (funext fun s => hf36 54 s rfl) (fun q => (hI35.1 54 q).1)
              have hHT46 : fl_HTh h H31 := f39
              refine fz_aload_n kX11_free rfl rfl ?_
              refine fz_iload_n kX11_free rfl rfl ?_
              have e48 : H31 53 10 = h 53 10 := hf40 53 10 rfl
              refine fz_callV (d' := 0) (M' := mX11_deedsOf) (As := [fz_i on]) (st := []) kX11_free rfl rfl vX11_deedsOf rfl rfl rfl rfl (Nat.le_of_ble_eq_true rfl) (Nat.le_of_ble_eq_true rfl) (by decide) (sX11_deedsOf H31 hI35 on ) (fun H49 r50 q51 o52 => ?_)
              obtain ⟨e53, y57, rfl, f54, f55, f56⟩ := q51
              subst H49
              clear o52
              have k58 : ∀ F, fl_isF (fl_fPM h on hr) (h 53 10) F → fl_sb F y57 := fun F hF => fl_F_all f56 (funext fun s => hf36 60 s rfl) (by omega) hF
              refine fz_istore (ls' := [(4, fz_i y57), (0, fz_r 53), (1, fz_i on), (2, fz_i hr), (3, fz_i wh)]) kX11_free rfl (by decide) rfl ?_
              refine fz_bipush ⟨by decide, by decide⟩ kX11_free rfl ?_
              refine fz_istore (ls' := [(5, fz_i (-2)), (4, fz_i y57), (0, fz_r 53), (1, fz_i on), (2, fz_i hr), (3, fz_i wh)]) kX11_free rfl (by decide) rfl ?_
              refine fz_iconst ⟨by decide, by decide⟩ kX11_free rfl ?_
              refine fz_istore (ls' := [(6, fz_i 0), (5, fz_i (-2)), (4, fz_i y57), (0, fz_r 53), (1, fz_i on), (2, fz_i hr), (3, fz_i wh)]) kX11_free rfl (by decide) rfl ?_
              have lp71 : ∀ (n70 : Nat) (x60 : Int) (x61 : Int) (H67 : fz_H), fz_Iv H67 → fz_fr [(60, 99999), (74, 99999), (75, 99999), (86, 99999), (87, 99999), (88, 99999)] h H67 → fz_Xw H67 → fz_RM H67 → fl_RPm H67 → fl_HB H67 → fl_HTh h H67 → (0 ≤ x60 ∧ x60 ≤ 2147483647) → ((-2147483648) ≤ x61 ∧ x61 ≤ 2147483647) → (H67 53 10 = h 53 10) → (H67 60 = h 60) → (fl_frI h on hr y57 x61 x60) → (y57 + 1 - x60).toNat < n70 → fz_R 6 mX11_free 43 [(6, fz_i x60), (5, fz_i x61), (4, fz_i y57), (0, fz_r 53), (1, fz_i on), (2, fz_i hr), (3, fz_i wh)] [] H67 (qX11_free h on hr wh) := by
                intro n70
                induction n70 with
                | zero => intro x60 x61 H67 hI68 hf69 hXw62 hRM63 hRPm64 hHB65 hHT66 hv74 hv75 hv76 hv77 hv78 hm73; exact absurd hm73 (by omega)
                | succ n70 ih72 =>
                  intro x60 x61 H67 hI68 hf69 hXw62 hRM63 hRPm64 hHB65 hHT66 hv74 hv75 hv76 hv77 hv78 hm73
                  refine fz_iload kX11_free rfl rfl ?_
                  refine fz_iload kX11_free rfl rfl ?_
                  refine fz_icmp_gt (tgt := 117) kX11_free rfl (by decide) (fun c79 => ?_) (fun c79 => ?_)
                  · refine fz_iload_n kX11_free rfl rfl ?_
                    refine fz_iconst ⟨by decide, by decide⟩ kX11_free rfl ?_
                    refine fz_icmp_ne (tgt := 127) kX11_free rfl (by decide) (fun c80 => ?_) (fun c80 => ?_)
                    · refine fz_iload kX11_free rfl rfl ?_
                      refine fz_callS (d' := 0) (M' := mJ6_bitCount_0f7a4) (As := [fz_i x61]) (st := []) kX11_free rfl rfl vJ6_bitCount_0f7a4 rfl rfl (Nat.le_of_ble_eq_true rfl) (Nat.le_of_ble_eq_true rfl) (by decide) (sJ6_bitCount_0f7a4 H67 hI68 x61 ) (fun H81 r82 q83 o84 => ?_)
                      obtain ⟨e85, y88, rfl, f86, f87⟩ := q83
                      subst H81
                      clear o84
                      exact fz_iret kX11_free rfl rfl (fun _ => ⟨hI68, hf69, hXw62, hRM63, hRPm64, _, rfl, (by omega), (by first | exact hv77 | rfl), (by first | exact Or.inl ⟨(by unfold fl_oFr; omega), fun F hF => fl_frx_1 (by omega) (fl_frI_e hv78 (by omega) k58 ⟨by omega, by omega⟩ F hF)⟩ | exact Or.inl ⟨(by unfold fl_oFr; omega), fun F hF => fl_frx_0 (by omega) (fl_frI_e hv78 (by omega) k58 ⟨by omega, by omega⟩ F hF) f87⟩ | exact Or.inr ⟨(by unfold fl_oFr; omega), rfl⟩)⟩)
                    · refine fz_iload kX11_free rfl rfl ?_
                      refine fz_goto (tgt := 132) kX11_free rfl (by decide) ?_
                      exact fz_iret kX11_free rfl rfl (fun _ => ⟨hI68, hf69, hXw62, hRM63, hRPm64, _, rfl, (by omega), (by first | exact hv77 | rfl), (by first | exact Or.inl ⟨(by unfold fl_oFr; omega), fun F hF => fl_frx_1 (by omega) (fl_frI_e hv78 (by omega) k58 ⟨by omega, by omega⟩ F hF)⟩ | exact Or.inl ⟨(by unfold fl_oFr; omega), fun F hF => fl_frx_0 (by omega) (fl_frI_e hv78 (by omega) k58 ⟨by omega, by omega⟩ F hF) lost⟩ | exact Or.inr ⟨(by unfold fl_oFr; omega), rfl⟩)⟩)
                  · refine fz_iload kX11_free rfl rfl ?_
                    refine fz_iload kX11_free rfl rfl ?_
                    refine fz_iconst ⟨by decide, by decide⟩ kX11_free rfl ?_
                    refine fz_ixor kX11_free rfl ?_
                    have b93 : -2147483648 ≤ (fz_xor y57 (-1)) ∧ (fz_xor y57 (-1)) < 2147483648 := fz_b32 _
                    refine fz_iand kX11_free rfl ?_
                    have b94 : -2147483648 ≤ (fz_and x60 (fz_xor y57 (-1))) ∧ (fz_and x60 (fz_xor y57 (-1))) < 2147483648 := fz_b32 _
                    refine fz_if_ne (tgt := 111) kX11_free rfl (by decide) (fun c95 => ?_) (fun c95 => ?_)
                    · refine fz_iincN (ls' := [(6, fz_i (x60 + 1)), (5, fz_i x61), (4, fz_i y57), (0, fz_r 53), (1, fz_i on), (2, fz_i hr), (3, fz_i wh)]) kX11_free rfl (by decide) rfl (by omega) rfl ?_
                      refine fz_goto (tgt := 43) kX11_free rfl (by decide) ?_
                      exact ih72 (x60 + 1) x61 H67 hI68 hf69 hXw62 hRM63 hRPm64 hHB65 hHT66 (by omega) (by omega) (by omega) (by first | exact fz_fg_back hv77 lost (funext fun s => lost 60 s rfl) lost (funext fun s => hf36 60 s rfl) f56 (by omega) (by omega) (by omega) (fun _ _ z => z) (fun _ hd z => fz_bt_sub lost hd z) | exact hv77) (by first | exact fl_frI_a hv78 (by omega) ⟨by omega, by omega⟩ | exact fl_frI_y hv78 ⟨by omega, by omega⟩ (by first | exact Or.inl (by omega) | exact Or.inr (by have a := lost; have b := lost; omega)) (fun F hF => (lost F hF).1 (by omega)) k58 | exact fl_frI_n hv78 (fun F hF => (lost F hF).2 (by omega)) | exact fl_frI_b hv78 (by omega)) (by omega)
                    · refine fz_iload kX11_free rfl rfl ?_
                      refine fz_bipush ⟨by decide, by decide⟩ kX11_free rfl ?_
                      refine fz_icmp_eq (tgt := 83) kX11_free rfl (by decide) (fun c98 => ?_) (fun c98 => ?_)
                      · have k99 : fz_and x60 (fz_xor y57 (-1)) = 0 := by omega
                        refine fz_aload_n kX11_free rfl rfl ?_
                        refine fz_iload kX11_free rfl rfl ?_
                        refine fz_bipush ⟨by decide, by decide⟩ kX11_free rfl ?_
                        have b101 : 0 ≤ h 53 10 ∧ h 53 10 ≤ 11 := hI.1 53 _
                        have e102 : H67 53 10 = h 53 10 := hf69 53 10 rfl
                        refine fz_callV (d' := 0) (M' := mX11_forgets) (As := [fz_i x60, fz_i (-2)]) (st := []) kX11_free rfl rfl vX11_forgets rfl rfl rfl rfl (Nat.le_of_ble_eq_true rfl) (Nat.le_of_ble_eq_true rfl) (by decide) (sX11_forgets H67 hI68 x60 (-2) ) (fun H103 r104 q105 o106 => ?_)
                        obtain ⟨hI107, hf108, rfl, f109⟩ := q105
                        clear o106
                        have hf110 := fz_fr_tr hf69 hf108 (show fz_su [(60, 99999)] [(60, 99999), (74, 99999), (75, 99999), (86, 99999), (87, 99999), (88, 99999)] = true from rfl)
                        have hXw111 : fz_Xw H103 := fz_Xw_eq (hf108 53 19 rfl) (funext fun s => hf108 66 s rfl) (funext fun s => hf108 67 s rfl) (funext fun s => hf108 68 s rfl) (funext fun s => hf108 69 s rfl) hXw62
                        have hRM112 : fz_RM H103 := fz_RM_eq (funext fun s => hf108 55 s rfl) (funext fun s => hf108 56 s rfl) (hf108 53 0 rfl) (hf108 53 2 rfl) hRM63
                        have hRPm113 : fl_RPm H103 := fl_RPm_eq (funext fun s => hf108 61 s rfl) (hf108 53 10 rfl) (hf108 53 0 rfl) hRPm64
                        have hHB114 : fl_HB H103 := fl_HB_eq (funext fun s => hf108 88 s rfl) (funext fun s => hf108 62 s rfl) (hf108 53 10 rfl) (hf108 53 0 rfl) hHB65
                        have hHT115 : fl_HTh h H103 := fl_HTh_eq (funext fun s => hf108 88 s rfl) hHT66
                        have t116 : H103 53 10 = H67 53 10 := hf108 53 10 rfl
                        have t117 : H103 53 0 = H67 53 0 := hf108 53 0 rfl
                        refine fz_aload_n kX11_free rfl rfl ?_
                        refine fz_iload_n kX11_free rfl rfl ?_
                        refine fz_iload_n kX11_free rfl rfl ?_
                        refine fz_callV (d' := 5) (M' := mX11_isFree) (As := [fz_i on, fz_i hr]) (st := []) kX11_free rfl rfl vX11_isFree rfl rfl rfl rfl (Nat.le_of_ble_eq_true rfl) (Nat.le_of_ble_eq_true rfl) (by decide) (sX11_isFree H103 hI107 on hr hXw111 hHB114) (fun H118 r119 q120 o121 => ?_)
                        obtain ⟨hI122, hf123, hXw124, hHB125, y127, rfl, p128, f126⟩ := q120
                        clear o121
                        have hf129 := fz_fr_tr hf110 hf123 (show fz_su [(74, 99999), (75, 99999)] [(60, 99999), (74, 99999), (75, 99999), (86, 99999), (87, 99999), (88, 99999)] = true from rfl)
                        have hRM130 : fz_RM H118 := fz_RM_eq (funext fun s => hf123 55 s rfl) (funext fun s => hf123 56 s rfl) (hf123 53 0 rfl) (hf123 53 2 rfl) hRM112
                        have hRPm131 : fl_RPm H118 := fl_RPm_eq (funext fun s => hf123 61 s rfl) (hf123 53 10 rfl) (hf123 53 0 rfl) hRPm113
                        have hHT132 : fl_HTh h H118 := fl_HTh_eq (funext fun s => hf123 88 s rfl) hHT115
                        have t133 : H118 53 10 = H103 53 10 := hf123 53 10 rfl
                        have t134 : H118 53 0 = H103 53 0 := hf123 53 0 rfl
                        have k135 := fun (F : Int) (hF : fl_isF (fl_fPM h on hr) (h 53 10) F) => fl_fr_1 hf110 rfl f109 hv77 (by omega) (by omega) (by omega) hHT115 f126 hF
                        refine fz_if_eq (tgt := 104) kX11_free rfl (by decide) (fun c137 => ?_) (fun c137 => ?_)
                        · refine fz_aload_n kX11_free rfl rfl ?_
                          refine fz_iload kX11_free rfl rfl ?_
                          refine fz_iload_n kX11_free rfl rfl ?_
                          have e138 : H118 53 10 = h 53 10 := hf129 53 10 rfl
                          refine fz_callV (d' := 0) (M' := mX11_forgets) (As := [fz_i x60, fz_i on]) (st := []) kX11_free rfl rfl vX11_forgets rfl rfl rfl rfl (Nat.le_of_ble_eq_true rfl) (Nat.le_of_ble_eq_true rfl) (by decide) (sX11_forgets H118 hI122 x60 on ) (fun H139 r140 q141 o142 => ?_)
                          obtain ⟨hI143, hf144, rfl, f145⟩ := q141
                          clear o142
                          have hf146 := fz_fr_tr hf129 hf144 (show fz_su [(60, 99999)] [(60, 99999), (74, 99999), (75, 99999), (86, 99999), (87, 99999), (88, 99999)] = true from rfl)
                          have hXw147 : fz_Xw H139 := fz_Xw_eq (hf144 53 19 rfl) (funext fun s => hf144 66 s rfl) (funext fun s => hf144 67 s rfl) (funext fun s => hf144 68 s rfl) (funext fun s => hf144 69 s rfl) hXw124
                          have hRM148 : fz_RM H139 := fz_RM_eq (funext fun s => hf144 55 s rfl) (funext fun s => hf144 56 s rfl) (hf144 53 0 rfl) (hf144 53 2 rfl) hRM130
                          have hRPm149 : fl_RPm H139 := fl_RPm_eq (funext fun s => hf144 61 s rfl) (hf144 53 10 rfl) (hf144 53 0 rfl) hRPm131
                          have hHB150 : fl_HB H139 := fl_HB_eq (funext fun s => hf144 88 s rfl) (funext fun s => hf144 62 s rfl) (hf144 53 10 rfl) (hf144 53 0 rfl) hHB125
                          have hHT151 : fl_HTh h H139 := fl_HTh_eq (funext fun s => hf144 88 s rfl) hHT132
                          have t152 : H139 53 10 = H118 53 10 := hf144 53 10 rfl
                          have t153 : H139 53 0 = H118 53 0 := hf144 53 0 rfl
                          refine fz_iincN (ls' := [(6, fz_i (x60 + 1)), (5, fz_i x61), (4, fz_i y57), (0, fz_r 53), (1, fz_i on), (2, fz_i hr), (3, fz_i wh)]) kX11_free rfl (by decide) rfl (by omega) rfl ?_
                          refine fz_goto (tgt := 43) kX11_free rfl (by decide) ?_
                          exact ih72 (x60 + 1) x61 H139 hI143 hf146 hXw147 hRM148 hRPm149 hHB150 hHT151 (by omega) (by omega) (by omega) (by first | exact fz_fg_back hv77 f109 (funext fun s => hf123 60 s rfl) f145 (funext fun s => hf36 60 s rfl) f56 (by omega) (by omega) (by omega) (fun _ _ z => z) (fun _ hd z => fz_bt_sub k99 hd z) | exact hv77) (by first | exact fl_frI_a hv78 (by omega) ⟨by omega, by omega⟩ | exact fl_frI_y hv78 ⟨by omega, by omega⟩ (by first | exact Or.inl (by omega) | exact Or.inr (by have a := lost; have b := lost; omega)) (fun F hF => (k135 F hF).1 (by omega)) k58 | exact fl_frI_n hv78 (fun F hF => (k135 F hF).2 (by omega)) | exact fl_frI_b hv78 (by omega)) (by omega)
                        · refine fz_iload kX11_free rfl rfl ?_
                          refine fz_istore (ls' := [(5, fz_i x60), (6, fz_i x60), (4, fz_i y57), (0, fz_r 53), (1, fz_i on), (2, fz_i hr), (3, fz_i wh)]) kX11_free rfl (by decide) rfl ?_
                          refine fz_aload_n kX11_free rfl rfl ?_
                          refine fz_iload kX11_free rfl rfl ?_
                          refine fz_iload_n kX11_free rfl rfl ?_
                          have e156 : H118 53 10 = h 53 10 := hf129 53 10 rfl
                          refine fz_callV (d' := 0) (M' := mX11_forgets) (As := [fz_i x60, fz_i on]) (st := []) kX11_free rfl rfl vX11_forgets rfl rfl rfl rfl (Nat.le_of_ble_eq_true rfl) (Nat.le_of_ble_eq_true rfl) (by decide) (sX11_forgets H118 hI122 x60 on ) (fun H157 r158 q159 o160 => ?_)
                          obtain ⟨hI161, hf162, rfl, f163⟩ := q159
                          clear o160
                          have hf164 := fz_fr_tr hf129 hf162 (show fz_su [(60, 99999)] [(60, 99999), (74, 99999), (75, 99999), (86, 99999), (87, 99999), (88, 99999)] = true from rfl)
                          have hXw165 : fz_Xw H157 := fz_Xw_eq (hf162 53 19 rfl) (funext fun s => hf162 66 s rfl) (funext fun s => hf162 67 s rfl) (funext fun s => hf162 68 s rfl) (funext fun s => hf162 69 s rfl) hXw124
                          have hRM166 : fz_RM H157 := fz_RM_eq (funext fun s => hf162 55 s rfl) (funext fun s => hf162 56 s rfl) (hf162 53 0 rfl) (hf162 53 2 rfl) hRM130
                          have hRPm167 : fl_RPm H157 := fl_RPm_eq (funext fun s => hf162 61 s rfl) (hf162 53 10 rfl) (hf162 53 0 rfl) hRPm131
                          have hHB168 : fl_HB H157 := fl_HB_eq (funext fun s => hf162 88 s rfl) (funext fun s => hf162 62 s rfl) (hf162 53 10 rfl) (hf162 53 0 rfl) hHB125
                          have hHT169 : fl_HTh h H157 := fl_HTh_eq (funext fun s => hf162 88 s rfl) hHT132
                          have t170 : H157 53 10 = H118 53 10 := hf162 53 10 rfl
                          have t171 : H157 53 0 = H118 53 0 := hf162 53 0 rfl
                          refine fz_iincN (ls' := [(6, fz_i (x60 + 1)), (5, fz_i x60), (4, fz_i y57), (0, fz_r 53), (1, fz_i on), (2, fz_i hr), (3, fz_i wh)]) kX11_free rfl (by decide) rfl (by omega) rfl ?_
                          refine fz_goto (tgt := 43) kX11_free rfl (by decide) ?_
                          exact ih72 (x60 + 1) x60 H157 hI161 hf164 hXw165 hRM166 hRPm167 hHB168 hHT169 (by omega) (by omega) (by omega) (by first | exact fz_fg_back hv77 f109 (funext fun s => hf123 60 s rfl) f163 (funext fun s => hf36 60 s rfl) f56 (by omega) (by omega) (by omega) (fun _ _ z => z) (fun _ hd z => fz_bt_sub k99 hd z) | exact hv77) (by first | exact fl_frI_a hv78 (by omega) ⟨by omega, by omega⟩ | exact fl_frI_y hv78 ⟨by omega, by omega⟩ (by first | exact Or.inl (by omega) | exact Or.inr (by have a := lost; have b := lost; omega)) (fun F hF => (k135 F hF).1 (by omega)) k58 | exact fl_frI_n hv78 (fun F hF => (k135 F hF).2 (by omega)) | exact fl_frI_b hv78 (by omega)) (by omega)
                      · refine fz_iload kX11_free rfl rfl ?_
                        refine fz_callS (d' := 0) (M' := mJ6_bitCount_0f7a4) (As := [fz_i x60]) (st := []) kX11_free rfl rfl vJ6_bitCount_0f7a4 rfl rfl (Nat.le_of_ble_eq_true rfl) (Nat.le_of_ble_eq_true rfl) (by decide) (sJ6_bitCount_0f7a4 H67 hI68 x60 ) (fun H174 r175 q176 o177 => ?_)
                        obtain ⟨e178, y181, rfl, f179, f180⟩ := q176
                        subst H174
                        clear o177
                        refine fz_iload kX11_free rfl rfl ?_
                        refine fz_callS (d' := 0) (M' := mJ6_bitCount_0f7a4) (As := [fz_i x61]) (st := [fz_i y181]) kX11_free rfl rfl vJ6_bitCount_0f7a4 rfl rfl (Nat.le_of_ble_eq_true rfl) (Nat.le_of_ble_eq_true rfl) (by decide) (sJ6_bitCount_0f7a4 H67 hI68 x61 ) (fun H182 r183 q184 o185 => ?_)
                        obtain ⟨e186, y189, rfl, f187, f188⟩ := q184
                        subst H182
                        clear o185
                        refine fz_icmp_lt (tgt := 83) kX11_free rfl (by decide) (fun c190 => ?_) (fun c190 => ?_)
                        · have k191 : fz_and x60 (fz_xor y57 (-1)) = 0 := by omega
                          refine fz_aload_n kX11_free rfl rfl ?_
                          refine fz_iload kX11_free rfl rfl ?_
                          refine fz_bipush ⟨by decide, by decide⟩ kX11_free rfl ?_
                          have b193 : 0 ≤ h 53 10 ∧ h 53 10 ≤ 11 := hI.1 53 _
                          have e194 : H67 53 10 = h 53 10 := hf69 53 10 rfl
                          refine fz_callV (d' := 0) (M' := mX11_forgets) (As := [fz_i x60, fz_i (-2)]) (st := []) kX11_free rfl rfl vX11_forgets rfl rfl rfl rfl (Nat.le_of_ble_eq_true rfl) (Nat.le_of_ble_eq_true rfl) (by decide) (sX11_forgets H67 hI68 x60 (-2) ) (fun H195 r196 q197 o198 => ?_)
                          obtain ⟨hI199, hf200, rfl, f201⟩ := q197
                          clear o198
                          have hf202 := fz_fr_tr hf69 hf200 (show fz_su [(60, 99999)] [(60, 99999), (74, 99999), (75, 99999), (86, 99999), (87, 99999), (88, 99999)] = true from rfl)
                          have hXw203 : fz_Xw H195 := fz_Xw_eq (hf200 53 19 rfl) (funext fun s => hf200 66 s rfl) (funext fun s => hf200 67 s rfl) (funext fun s => hf200 68 s rfl) (funext fun s => hf200 69 s rfl) hXw62
                          have hRM204 : fz_RM H195 := fz_RM_eq (funext fun s => hf200 55 s rfl) (funext fun s => hf200 56 s rfl) (hf200 53 0 rfl) (hf200 53 2 rfl) hRM63
                          have hRPm205 : fl_RPm H195 := fl_RPm_eq (funext fun s => hf200 61 s rfl) (hf200 53 10 rfl) (hf200 53 0 rfl) hRPm64
                          have hHB206 : fl_HB H195 := fl_HB_eq (funext fun s => hf200 88 s rfl) (funext fun s => hf200 62 s rfl) (hf200 53 10 rfl) (hf200 53 0 rfl) hHB65
                          have hHT207 : fl_HTh h H195 := fl_HTh_eq (funext fun s => hf200 88 s rfl) hHT66
                          have t208 : H195 53 10 = H67 53 10 := hf200 53 10 rfl
                          have t209 : H195 53 0 = H67 53 0 := hf200 53 0 rfl
                          refine fz_aload_n kX11_free rfl rfl ?_
                          refine fz_iload_n kX11_free rfl rfl ?_
                          refine fz_iload_n kX11_free rfl rfl ?_
                          refine fz_callV (d' := 5) (M' := mX11_isFree) (As := [fz_i on, fz_i hr]) (st := []) kX11_free rfl rfl vX11_isFree rfl rfl rfl rfl (Nat.le_of_ble_eq_true rfl) (Nat.le_of_ble_eq_true rfl) (by decide) (sX11_isFree H195 hI199 on hr hXw203 hHB206) (fun H210 r211 q212 o213 => ?_)
                          obtain ⟨hI214, hf215, hXw216, hHB217, y219, rfl, p220, f218⟩ := q212
                          clear o213
                          have hf221 := fz_fr_tr hf202 hf215 (show fz_su [(74, 99999), (75, 99999)] [(60, 99999), (74, 99999), (75, 99999), (86, 99999), (87, 99999), (88, 99999)] = true from rfl)
                          have hRM222 : fz_RM H210 := fz_RM_eq (funext fun s => hf215 55 s rfl) (funext fun s => hf215 56 s rfl) (hf215 53 0 rfl) (hf215 53 2 rfl) hRM204
                          have hRPm223 : fl_RPm H210 := fl_RPm_eq (funext fun s => hf215 61 s rfl) (hf215 53 10 rfl) (hf215 53 0 rfl) hRPm205
                          have hHT224 : fl_HTh h H210 := fl_HTh_eq (funext fun s => hf215 88 s rfl) hHT207
                          have t225 : H210 53 10 = H195 53 10 := hf215 53 10 rfl
                          have t226 : H210 53 0 = H195 53 0 := hf215 53 0 rfl
                          have k227 := fun (F : Int) (hF : fl_isF (fl_fPM h on hr) (h 53 10) F) => fl_fr_1 hf202 rfl f201 hv77 (by omega) (by omega) (by omega) hHT207 f218 hF
                          refine fz_if_eq (tgt := 104) kX11_free rfl (by decide) (fun c229 => ?_) (fun c229 => ?_)
                          · refine fz_aload_n kX11_free rfl rfl ?_
                            refine fz_iload kX11_free rfl rfl ?_
                            refine fz_iload_n kX11_free rfl rfl ?_
                            have e230 : H210 53 10 = h 53 10 := hf221 53 10 rfl
                            refine fz_callV (d' := 0) (M' := mX11_forgets) (As := [fz_i x60, fz_i on]) (st := []) kX11_free rfl rfl vX11_forgets rfl rfl rfl rfl (Nat.le_of_ble_eq_true rfl) (Nat.le_of_ble_eq_true rfl) (by decide) (sX11_forgets H210 hI214 x60 on ) (fun H231 r232 q233 o234 => ?_)
                            obtain ⟨hI235, hf236, rfl, f237⟩ := q233
                            clear o234
                            have hf238 := fz_fr_tr hf221 hf236 (show fz_su [(60, 99999)] [(60, 99999), (74, 99999), (75, 99999), (86, 99999), (87, 99999), (88, 99999)] = true from rfl)
                            have hXw239 : fz_Xw H231 := fz_Xw_eq (hf236 53 19 rfl) (funext fun s => hf236 66 s rfl) (funext fun s => hf236 67 s rfl) (funext fun s => hf236 68 s rfl) (funext fun s => hf236 69 s rfl) hXw216
                            have hRM240 : fz_RM H231 := fz_RM_eq (funext fun s => hf236 55 s rfl) (funext fun s => hf236 56 s rfl) (hf236 53 0 rfl) (hf236 53 2 rfl) hRM222
                            have hRPm241 : fl_RPm H231 := fl_RPm_eq (funext fun s => hf236 61 s rfl) (hf236 53 10 rfl) (hf236 53 0 rfl) hRPm223
                            have hHB242 : fl_HB H231 := fl_HB_eq (funext fun s => hf236 88 s rfl) (funext fun s => hf236 62 s rfl) (hf236 53 10 rfl) (hf236 53 0 rfl) hHB217
                            have hHT243 : fl_HTh h H231 := fl_HTh_eq (funext fun s => hf236 88 s rfl) hHT224
                            have t244 : H231 53 10 = H210 53 10 := hf236 53 10 rfl
                            have t245 : H231 53 0 = H210 53 0 := hf236 53 0 rfl
                            refine fz_iincN (ls' := [(6, fz_i (x60 + 1)), (5, fz_i x61), (4, fz_i y57), (0, fz_r 53), (1, fz_i on), (2, fz_i hr), (3, fz_i wh)]) kX11_free rfl (by decide) rfl (by omega) rfl ?_
                            refine fz_goto (tgt := 43) kX11_free rfl (by decide) ?_
                            exact ih72 (x60 + 1) x61 H231 hI235 hf238 hXw239 hRM240 hRPm241 hHB242 hHT243 (by omega) (by omega) (by omega) (by first | exact fz_fg_back hv77 f201 (funext fun s => hf215 60 s rfl) f237 (funext fun s => hf36 60 s rfl) f56 (by omega) (by omega) (by omega) (fun _ _ z => z) (fun _ hd z => fz_bt_sub k191 hd z) | exact hv77) (by first | exact fl_frI_a hv78 (by omega) ⟨by omega, by omega⟩ | exact fl_frI_y hv78 ⟨by omega, by omega⟩ (by first | exact Or.inl (by omega) | exact Or.inr (by have a := f180; have b := f188; omega)) (fun F hF => (k227 F hF).1 (by omega)) k58 | exact fl_frI_n hv78 (fun F hF => (k227 F hF).2 (by omega)) | exact fl_frI_b hv78 (by omega)) (by omega)
                          · refine fz_iload kX11_free rfl rfl ?_
                            refine fz_istore (ls' := [(5, fz_i x60), (6, fz_i x60), (4, fz_i y57), (0, fz_r 53), (1, fz_i on), (2, fz_i hr), (3, fz_i wh)]) kX11_free rfl (by decide) rfl ?_
                            refine fz_aload_n kX11_free rfl rfl ?_
                            refine fz_iload kX11_free rfl rfl ?_
                            refine fz_iload_n kX11_free rfl rfl ?_
                            have e248 : H210 53 10 = h 53 10 := hf221 53 10 rfl
                            refine fz_callV (d' := 0) (M' := mX11_forgets) (As := [fz_i x60, fz_i on]) (st := []) kX11_free rfl rfl vX11_forgets rfl rfl rfl rfl (Nat.le_of_ble_eq_true rfl) (Nat.le_of_ble_eq_true rfl) (by decide) (sX11_forgets H210 hI214 x60 on ) (fun H249 r250 q251 o252 => ?_)
                            obtain ⟨hI253, hf254, rfl, f255⟩ := q251
                            clear o252
                            have hf256 := fz_fr_tr hf221 hf254 (show fz_su [(60, 99999)] [(60, 99999), (74, 99999), (75, 99999), (86, 99999), (87, 99999), (88, 99999)] = true from rfl)
                            have hXw257 : fz_Xw H249 := fz_Xw_eq (hf254 53 19 rfl) (funext fun s => hf254 66 s rfl) (funext fun s => hf254 67 s rfl) (funext fun s => hf254 68 s rfl) (funext fun s => hf254 69 s rfl) hXw216
                            have hRM258 : fz_RM H249 := fz_RM_eq (funext fun s => hf254 55 s rfl) (funext fun s => hf254 56 s rfl) (hf254 53 0 rfl) (hf254 53 2 rfl) hRM222
                            have hRPm259 : fl_RPm H249 := fl_RPm_eq (funext fun s => hf254 61 s rfl) (hf254 53 10 rfl) (hf254 53 0 rfl) hRPm223
                            have hHB260 : fl_HB H249 := fl_HB_eq (funext fun s => hf254 88 s rfl) (funext fun s => hf254 62 s rfl) (hf254 53 10 rfl) (hf254 53 0 rfl) hHB217
                            have hHT261 : fl_HTh h H249 := fl_HTh_eq (funext fun s => hf254 88 s rfl) hHT224
                            have t262 : H249 53 10 = H210 53 10 := hf254 53 10 rfl
                            have t263 : H249 53 0 = H210 53 0 := hf254 53 0 rfl
                            refine fz_iincN (ls' := [(6, fz_i (x60 + 1)), (5, fz_i x60), (4, fz_i y57), (0, fz_r 53), (1, fz_i on), (2, fz_i hr), (3, fz_i wh)]) kX11_free rfl (by decide) rfl (by omega) rfl ?_
                            refine fz_goto (tgt := 43) kX11_free rfl (by decide) ?_
                            exact ih72 (x60 + 1) x60 H249 hI253 hf256 hXw257 hRM258 hRPm259 hHB260 hHT261 (by omega) (by omega) (by omega) (by first | exact fz_fg_back hv77 f201 (funext fun s => hf215 60 s rfl) f255 (funext fun s => hf36 60 s rfl) f56 (by omega) (by omega) (by omega) (fun _ _ z => z) (fun _ hd z => fz_bt_sub k191 hd z) | exact hv77) (by first | exact fl_frI_a hv78 (by omega) ⟨by omega, by omega⟩ | exact fl_frI_y hv78 ⟨by omega, by omega⟩ (by first | exact Or.inl (by omega) | exact Or.inr (by have a := f180; have b := f188; omega)) (fun F hF => (k227 F hF).1 (by omega)) k58 | exact fl_frI_n hv78 (fun F hF => (k227 F hF).2 (by omega)) | exact fl_frI_b hv78 (by omega)) (by omega)
                        · refine fz_goto (tgt := 111) kX11_free rfl (by decide) ?_
                          refine fz_iincN (ls' := [(6, fz_i (x60 + 1)), (5, fz_i x61), (4, fz_i y57), (0, fz_r 53), (1, fz_i on), (2, fz_i hr), (3, fz_i wh)]) kX11_free rfl (by decide) rfl (by omega) rfl ?_
                          refine fz_goto (tgt := 43) kX11_free rfl (by decide) ?_
                          exact ih72 (x60 + 1) x61 H67 hI68 hf69 hXw62 hRM63 hRPm64 hHB65 hHT66 (by omega) (by omega) (by omega) (by first | exact fz_fg_back hv77 lost (funext fun s => lost 60 s rfl) lost (funext fun s => hf36 60 s rfl) f56 (by omega) (by omega) (by omega) (fun _ _ z => z) (fun _ hd z => fz_bt_sub lost hd z) | exact hv77) (by first | exact fl_frI_a hv78 (by omega) ⟨by omega, by omega⟩ | exact fl_frI_y hv78 ⟨by omega, by omega⟩ (by first | exact Or.inl (by omega) | exact Or.inr (by have a := f180; have b := f188; omega)) (fun F hF => (lost F hF).1 (by omega)) k58 | exact fl_frI_n hv78 (fun F hF => (lost F hF).2 (by omega)) | exact fl_frI_b hv78 (by omega)) (by omega)
              exact lp71 _ 0 (-2) H31 hI35 hf40 hXw41 hRM37 hRPm38 hHB44 hHT46 (by omega) (by omega) (by omega) ((funext fun s => hf36 60 s rfl)) (fl_frI_0) (Nat.lt_succ_self _)
            · exfalso; omega
          · refine fz_if_ne (tgt := 25) kX11_free rfl (by decide) (fun c270 => ?_) (fun c270 => ?_)
            · exfalso; omega
            · refine fz_iconst ⟨by decide, by decide⟩ kX11_free rfl ?_
              exact fz_iret kX11_free rfl rfl (fun _ => ⟨hI, hf, hXw, hRM, hRPm, _, rfl, (by omega), (by first | exact lost | rfl), (by first | exact Or.inl ⟨(by unfold fl_oFr; omega), fun F hF => fl_frx_1 (by omega) (fl_frI_e lost (by omega) lost ⟨by omega, by omega⟩ F hF)⟩ | exact Or.inl ⟨(by unfold fl_oFr; omega), fun F hF => fl_frx_0 (by omega) (fl_frI_e lost (by omega) lost ⟨by omega, by omega⟩ F hF) lost⟩ | exact Or.inr ⟨(by unfold fl_oFr; omega), rfl⟩)⟩)
      · refine fz_if_eq (tgt := 23) kX11_free rfl (by decide) (fun c273 => ?_) (fun c273 => ?_)
        · refine fz_iconst ⟨by decide, by decide⟩ kX11_free rfl ?_
          exact fz_iret kX11_free rfl rfl (fun _ => ⟨hI, hf, hXw, hRM, hRPm, _, rfl, (by omega), (by first | exact lost | rfl), (by first | exact Or.inl ⟨(by unfold fl_oFr; omega), fun F hF => fl_frx_1 (by omega) (fl_frI_e lost (by omega) lost ⟨by omega, by omega⟩ F hF)⟩ | exact Or.inl ⟨(by unfold fl_oFr; omega), fun F hF => fl_frx_0 (by omega) (fl_frI_e lost (by omega) lost ⟨by omega, by omega⟩ F hF) lost⟩ | exact Or.inr ⟨(by unfold fl_oFr; omega), rfl⟩)⟩)
        · exfalso; omega
  · refine fz_if_eq (tgt := 23) kX11_free rfl (by decide) (fun c276 => ?_) (fun c276 => ?_)
    · refine fz_iconst ⟨by decide, by decide⟩ kX11_free rfl ?_
      exact fz_iret kX11_free rfl rfl (fun _ => ⟨hI, hf, hXw, hRM, hRPm, _, rfl, (by omega), (by first | exact lost | rfl), (by first | exact Or.inl ⟨(by unfold fl_oFr; omega), fun F hF => fl_frx_1 (by omega) (fl_frI_e lost (by omega) lost ⟨by omega, by omega⟩ F hF)⟩ | exact Or.inl ⟨(by unfold fl_oFr; omega), fun F hF => fl_frx_0 (by omega) (fl_frI_e lost (by omega) lost ⟨by omega, by omega⟩ F hF) lost⟩ | exact Or.inr ⟨(by unfold fl_oFr; omega), rfl⟩)⟩)
    · exfalso; omega

abbrev qX11_marksAlike (h : fz_H) (a b t hr : Int) : fz_H → Option fz_V → Prop := fun h' r0 => fz_Iv h' ∧ fz_fr [(74, 99999), (75, 99999)] h h' ∧ fz_Xw h' ∧ fl_HB h' ∧ ∃ r : Int, r0 = some (fz_i r) ∧ (0 ≤ r ∧ r ≤ 5) ∧ (r = fl_al (fun k : Nat => fl_ST h a (k : Int) t hr) (fun k : Nat => fl_ST h b (k : Int) t hr) 5)
set_option maxHeartbeats 1000000 in
set_option maxRecDepth 100000 in
theorem sX11_marksAlike (h : fz_H) (hI : fz_Iv h) (a b t hr : Int) (hXw : fz_Xw h) (hHB : fl_HB h) (hp0 : 0 ≤ t ∧ t ≤ 7) (hp1 : t < h 53 0) : fz_R 4 mX11_marksAlike 0 [(0, fz_r 53), (1, fz_i a), (2, fz_i b), (3, fz_i t), (4, fz_i hr)] [] h (qX11_marksAlike h a b t hr) := by
  refine fz_knowl (fun hk => ?_)
  have hr_a : -2147483648 ≤ a ∧ a < 2147483648 := hk _ (List.Mem.tail _ (List.Mem.head _))
  have hr_b : -2147483648 ≤ b ∧ b < 2147483648 := hk _ (List.Mem.tail _ (List.Mem.tail _ (List.Mem.head _)))
  have hr_t : -2147483648 ≤ t ∧ t < 2147483648 := hk _ (List.Mem.tail _ (List.Mem.tail _ (List.Mem.tail _ (List.Mem.head _))))
  have hr_hr : -2147483648 ≤ hr ∧ hr < 2147483648 := hk _ (List.Mem.tail _ (List.Mem.tail _ (List.Mem.tail _ (List.Mem.tail _ (List.Mem.head _)))))
  clear hk
  have hf : fz_fr [(74, 99999), (75, 99999)] h h := fz_fr_rf
  have b1 : 0 ≤ h 53 0 ∧ h 53 0 ≤ 8 := hI.1 53 _
  refine fz_iconst ⟨by decide, by decide⟩ kX11_marksAlike rfl ?_
  refine fz_istore (ls' := [(5, fz_i 0), (0, fz_r 53), (1, fz_i a), (2, fz_i b), (3, fz_i t), (4, fz_i hr)]) kX11_marksAlike rfl (by decide) rfl ?_
  refine fz_iconst ⟨by decide, by decide⟩ kX11_marksAlike rfl ?_
  refine fz_istore (ls' := [(6, fz_i 0), (5, fz_i 0), (0, fz_r 53), (1, fz_i a), (2, fz_i b), (3, fz_i t), (4, fz_i hr)]) kX11_marksAlike rfl (by decide) rfl ?_
  have lp10 : ∀ (n9 : Nat) (x2 : Int) (x3 : Int) (H6 : fz_H), fz_Iv H6 → fz_fr [(74, 99999), (75, 99999)] h H6 → fz_Xw H6 → fl_HB H6 → (0 ≤ x2 ∧ x2 ≤ 5) → (0 ≤ x3 ∧ x3 ≤ 5) → (x3 ≤ x2) → (x3 = fl_al (fun k : Nat => fl_ST h a (k : Int) t hr) (fun k : Nat => fl_ST h b (k : Int) t hr) (x2).toNat) → (5 - x2).toNat < n9 → fz_R 4 mX11_marksAlike 6 [(6, fz_i x2), (5, fz_i x3), (0, fz_r 53), (1, fz_i a), (2, fz_i b), (3, fz_i t), (4, fz_i hr)] [] H6 (qX11_marksAlike h a b t hr) := by
    intro n9
    induction n9 with
    | zero => intro x2 x3 H6 hI7 hf8 hXw4 hHB5 hv13 hv14 hv15 hv16 hm12; exact absurd hm12 (by omega)
    | succ n9 ih11 =>
      intro x2 x3 H6 hI7 hf8 hXw4 hHB5 hv13 hv14 hv15 hv16 hm12
      refine fz_iload kX11_marksAlike rfl rfl ?_
      refine fz_iconst ⟨by decide, by decide⟩ kX11_marksAlike rfl ?_
      refine fz_icmp_ge (tgt := 44) kX11_marksAlike rfl (by decide) (fun c17 => ?_) (fun c17 => ?_)
      · refine fz_iload kX11_marksAlike rfl rfl ?_
        exact fz_iret kX11_marksAlike rfl rfl (fun _ => ⟨hI7, hf8, hXw4, hHB5, _, rfl, (by omega), (by exact fl_at (f := fl_al (fun k : Nat => fl_ST h a (k : Int) t hr) (fun k : Nat => fl_ST h b (k : Int) t hr)) (n := 5) hv16 (by omega))⟩)
      · refine fz_aload_n kX11_marksAlike rfl rfl ?_
        refine fz_iload_n kX11_marksAlike rfl rfl ?_
        refine fz_iload kX11_marksAlike rfl rfl ?_
        refine fz_iload_n kX11_marksAlike rfl rfl ?_
        refine fz_iload kX11_marksAlike rfl rfl ?_
        have b19 : 0 ≤ h 53 0 ∧ h 53 0 ≤ 8 := hI.1 53 _
        have e20 : H6 53 0 = h 53 0 := hf8 53 0 rfl
        refine fz_callV (d' := 3) (M' := mX11_saidOf) (As := [fz_i a, fz_i x2, fz_i t, fz_i hr]) (st := []) kX11_marksAlike rfl rfl vX11_saidOf rfl rfl rfl rfl (Nat.le_of_ble_eq_true rfl) (Nat.le_of_ble_eq_true rfl) (by decide) (sX11_saidOf H6 hI7 a x2 t hr hXw4 hHB5 (by omega) (by omega)) (fun H21 r22 q23 o24 => ?_)
        obtain ⟨hI25, hf26, hXw27, hHB28, y31, rfl, f29, f30⟩ := q23
        clear o24
        have hf32 := fz_fr_tr hf8 hf26 (show fz_su [(74, 99999), (75, 99999)] [(74, 99999), (75, 99999)] = true from rfl)
        have t33 : H21 53 0 = H6 53 0 := hf26 53 0 rfl
        have k34 : y31 = fl_ST h a x2 t hr := by rw [← fl_ST_fr hf8 rfl]; exact f30
        refine fz_aload_n kX11_marksAlike rfl rfl ?_
        refine fz_iload_n kX11_marksAlike rfl rfl ?_
        refine fz_iload kX11_marksAlike rfl rfl ?_
        refine fz_iload_n kX11_marksAlike rfl rfl ?_
        refine fz_iload kX11_marksAlike rfl rfl ?_
        have e36 : H21 53 0 = h 53 0 := hf32 53 0 rfl
        refine fz_callV (d' := 3) (M' := mX11_saidOf) (As := [fz_i b, fz_i x2, fz_i t, fz_i hr]) (st := [fz_i y31]) kX11_marksAlike rfl rfl vX11_saidOf rfl rfl rfl rfl (Nat.le_of_ble_eq_true rfl) (Nat.le_of_ble_eq_true rfl) (by decide) (sX11_saidOf H21 hI25 b x2 t hr hXw27 hHB28 (by omega) (by omega)) (fun H37 r38 q39 o40 => ?_)
        obtain ⟨hI41, hf42, hXw43, hHB44, y47, rfl, f45, f46⟩ := q39
        clear o40
        have hf48 := fz_fr_tr hf32 hf42 (show fz_su [(74, 99999), (75, 99999)] [(74, 99999), (75, 99999)] = true from rfl)
        have t49 : H37 53 0 = H21 53 0 := hf42 53 0 rfl
        have k50 : y47 = fl_ST h b x2 t hr := by rw [← fl_ST_fr hf32 rfl]; exact f46
        refine fz_icmp_ne (tgt := 38) kX11_marksAlike rfl (by decide) (fun c52 => ?_) (fun c52 => ?_)
        · refine fz_iincN (ls' := [(6, fz_i (x2 + 1)), (5, fz_i x3), (0, fz_r 53), (1, fz_i a), (2, fz_i b), (3, fz_i t), (4, fz_i hr)]) kX11_marksAlike rfl (by decide) rfl (by omega) rfl ?_
          refine fz_goto (tgt := 6) kX11_marksAlike rfl (by decide) ?_
          exact ih11 (x2 + 1) x3 H37 hI41 hf48 hXw43 hHB44 (by omega) (by omega) (by omega) (fl_al_s hv16 (by omega) (fl_stk k34 (by omega)) (fl_stk k50 (by omega)) (by omega)) (by omega)
        · refine fz_iincN (ls' := [(5, fz_i (x3 + 1)), (6, fz_i x2), (0, fz_r 53), (1, fz_i a), (2, fz_i b), (3, fz_i t), (4, fz_i hr)]) kX11_marksAlike rfl (by decide) rfl (by omega) rfl ?_
          refine fz_iincN (ls' := [(6, fz_i (x2 + 1)), (5, fz_i (x3 + 1)), (0, fz_r 53), (1, fz_i a), (2, fz_i b), (3, fz_i t), (4, fz_i hr)]) kX11_marksAlike rfl (by decide) rfl (by omega) rfl ?_
          refine fz_goto (tgt := 6) kX11_marksAlike rfl (by decide) ?_
          exact ih11 (x2 + 1) (x3 + 1) H37 hI41 hf48 hXw43 hHB44 (by omega) (by omega) (by omega) (fl_al_s hv16 (by omega) (fl_stk k34 (by omega)) (fl_stk k50 (by omega)) (by omega)) (by omega)
  exact lp10 _ 0 0 h hI hf hXw hHB (by omega) (by omega) (by omega) (rfl) (Nat.lt_succ_self _)

abbrev qX11_alike (h : fz_H) (pq th wh : Int) : fz_H → Option fz_V → Prop := fun h' r0 => fz_Iv h' ∧ fz_fr [(60, 99999), (74, 99999), (75, 99999), (86, 99999), (87, 99999), (88, 99999)] h h' ∧ fz_Xw h' ∧ fz_RM h' ∧ fl_RPm h' ∧ ∃ r : Int, r0 = some (fz_i r) ∧ ((-2147483648) ≤ r ∧ r ≤ 2147483647) ∧ (h' 60 = h 60) ∧ (fl_akMM h pq th wh r)
set_option maxHeartbeats 1000000 in
set_option maxRecDepth 100000 in
theorem sX11_alike (h : fz_H) (hI : fz_Iv h) (pq th wh : Int) (hXw : fz_Xw h) (hRM : fz_RM h) (hRPm : fl_RPm h) : fz_R 5 mX11_alike 0 [(0, fz_r 53), (1, fz_i pq), (2, fz_i th), (3, fz_i wh)] [] h (qX11_alike h pq th wh) := by
  refine fz_knowl (fun hk => ?_)
  have hr_pq : -2147483648 ≤ pq ∧ pq < 2147483648 := hk _ (List.Mem.tail _ (List.Mem.head _))
  have hr_th : -2147483648 ≤ th ∧ th < 2147483648 := hk _ (List.Mem.tail _ (List.Mem.tail _ (List.Mem.head _)))
  have hr_wh : -2147483648 ≤ wh ∧ wh < 2147483648 := hk _ (List.Mem.tail _ (List.Mem.tail _ (List.Mem.tail _ (List.Mem.head _))))
  clear hk
  have hf : fz_fr [(60, 99999), (74, 99999), (75, 99999), (86, 99999), (87, 99999), (88, 99999)] h h := fz_fr_rf
  have k1 : 0 ≤ h 53 0 ∧ h 53 0 ≤ 8 := hI.1 53 _
  refine fz_iload_n kX11_alike rfl rfl ?_
  refine fz_if_lt (tgt := 52) kX11_alike rfl (by decide) (fun c2 => ?_) (fun c2 => ?_)
  · refine fz_ldc (x := (-2000000000)) kX11_alike rfl rfl rfl ?_
    exact fz_iret kX11_alike rfl rfl (fun _ => ⟨hI, hf, hXw, hRM, hRPm, _, rfl, (by omega), (by first | exact lost | rfl | exact (funext fun s => lost 60 s rfl).trans (funext fun s => lost 60 s rfl) | exact fz_fg_back ((funext fun s => lost 60 s rfl).trans (funext fun s => lost 60 s rfl)) lost (funext fun s => lost 60 s rfl) lost ((funext fun s => lost 60 s rfl).trans (funext fun s => lost 60 s rfl)) lost (by omega) (by omega) (by omega) (fun _ _ z => z) (fun _ _ z => z)), (by first | exact Or.inl ⟨(by unfold fl_oK; omega), fl_akx_0 (by omega) lost⟩ | exact Or.inl ⟨(by unfold fl_oK; omega), fl_akx_2 (by omega) (by rw [lost, lost])⟩ | exact Or.inl ⟨(by unfold fl_oK; omega), fl_akx_1 (by omega) (fl_at (f := fl_tb (fl_akM h pq (th % 1000))) lost (by omega))⟩ | exact Or.inr ⟨(by unfold fl_oK; omega), rfl⟩)⟩)
  · refine fz_iload_n kX11_alike rfl rfl ?_
    refine fz_bipush ⟨by decide, by decide⟩ kX11_alike rfl ?_
    refine fz_idivN kX11_alike rfl (by omega) (by omega) (by omega) ?_
    refine fz_callS (d' := 1) (M' := mX11_isPerson) (As := [fz_i (pq / 10)]) (st := []) kX11_alike rfl rfl vX11_isPerson rfl rfl (Nat.le_of_ble_eq_true rfl) (Nat.le_of_ble_eq_true rfl) (by decide) (sX11_isPerson h hI (pq / 10) ) (fun H5 r6 q7 o8 => ?_)
    obtain ⟨e9, y10, rfl, p11⟩ := q7
    subst H5
    clear o8
    rcases p11 with ⟨rfl, c12⟩ | ⟨rfl, c12⟩
    · refine fz_if_eq (tgt := 52) kX11_alike rfl (by decide) (fun c13 => ?_) (fun c13 => ?_)
      · exfalso; omega
      · refine fz_iload_n kX11_alike rfl rfl ?_
        refine fz_bipush ⟨by decide, by decide⟩ kX11_alike rfl ?_
        refine fz_iremN kX11_alike rfl (by omega) (by omega) (by omega) ?_
        refine fz_callS (d' := 1) (M' := mX11_isPerson) (As := [fz_i (pq % 10)]) (st := []) kX11_alike rfl rfl vX11_isPerson rfl rfl (Nat.le_of_ble_eq_true rfl) (Nat.le_of_ble_eq_true rfl) (by decide) (sX11_isPerson h hI (pq % 10) ) (fun H14 r15 q16 o17 => ?_)
        obtain ⟨e18, y19, rfl, p20⟩ := q16
        subst H14
        clear o17
        rcases p20 with ⟨rfl, c21⟩ | ⟨rfl, c21⟩
        · refine fz_if_eq (tgt := 52) kX11_alike rfl (by decide) (fun c22 => ?_) (fun c22 => ?_)
          · exfalso; omega
          · refine fz_iload_n kX11_alike rfl rfl ?_
            refine fz_bipush ⟨by decide, by decide⟩ kX11_alike rfl ?_
            refine fz_idivN kX11_alike rfl (by omega) (by omega) (by omega) ?_
            refine fz_iload_n kX11_alike rfl rfl ?_
            refine fz_bipush ⟨by decide, by decide⟩ kX11_alike rfl ?_
            refine fz_iremN kX11_alike rfl (by omega) (by omega) (by omega) ?_
            refine fz_icmp_eq (tgt := 52) kX11_alike rfl (by decide) (fun c23 => ?_) (fun c23 => ?_)
            · refine fz_ldc (x := (-2000000000)) kX11_alike rfl rfl rfl ?_
              exact fz_iret kX11_alike rfl rfl (fun _ => ⟨hI, hf, hXw, hRM, hRPm, _, rfl, (by omega), (by first | exact lost | rfl | exact (funext fun s => lost 60 s rfl).trans (funext fun s => lost 60 s rfl) | exact fz_fg_back ((funext fun s => lost 60 s rfl).trans (funext fun s => lost 60 s rfl)) lost (funext fun s => lost 60 s rfl) lost ((funext fun s => lost 60 s rfl).trans (funext fun s => lost 60 s rfl)) lost (by omega) (by omega) (by omega) (fun _ _ z => z) (fun _ _ z => z)), (by first | exact Or.inl ⟨(by unfold fl_oK; omega), fl_akx_0 (by omega) lost⟩ | exact Or.inl ⟨(by unfold fl_oK; omega), fl_akx_2 (by omega) (by rw [lost, lost])⟩ | exact Or.inl ⟨(by unfold fl_oK; omega), fl_akx_1 (by omega) (fl_at (f := fl_tb (fl_akM h pq (th % 1000))) lost (by omega))⟩ | exact Or.inr ⟨(by unfold fl_oK; omega), rfl⟩)⟩)
            · refine fz_aload_n kX11_alike rfl rfl ?_
              refine fz_iload_n kX11_alike rfl rfl ?_
              have b26 : 0 ≤ h 53 0 ∧ h 53 0 ≤ 8 := hI.1 53 _
              refine fz_callV (d' := 2) (M' := mX11_isWhen) (As := [fz_i th]) (st := []) kX11_alike rfl rfl vX11_isWhen rfl rfl rfl rfl (Nat.le_of_ble_eq_true rfl) (Nat.le_of_ble_eq_true rfl) (by decide) (sX11_isWhen h hI th ) (fun H27 r28 q29 o30 => ?_)
              obtain ⟨e31, y32, rfl, p33⟩ := q29
              subst H27
              clear o30
              rcases p33 with ⟨rfl, c34⟩ | ⟨rfl, c34⟩
              · refine fz_if_eq (tgt := 52) kX11_alike rfl (by decide) (fun c35 => ?_) (fun c35 => ?_)
                · exfalso; omega
                · refine fz_iload_n kX11_alike rfl rfl ?_
                  refine fz_iconst ⟨by decide, by decide⟩ kX11_alike rfl ?_
                  refine fz_iconst ⟨by decide, by decide⟩ kX11_alike rfl ?_
                  refine fz_callS (d' := 0) (M' := mX11_within) (As := [fz_i wh, fz_i 0, fz_i 2]) (st := []) kX11_alike rfl rfl vX11_within rfl rfl (Nat.le_of_ble_eq_true rfl) (Nat.le_of_ble_eq_true rfl) (by decide) (sX11_within h hI wh 0 2 ) (fun H36 r37 q38 o39 => ?_)
                  obtain ⟨e40, y41, rfl, p42⟩ := q38
                  subst H36
                  clear o39
                  rcases p42 with ⟨rfl, c43⟩ | ⟨rfl, c43⟩
                  · refine fz_if_ne (tgt := 55) kX11_alike rfl (by decide) (fun c44 => ?_) (fun c44 => ?_)
                    · refine fz_aload_n kX11_alike rfl rfl ?_
                      have b45 : 0 ≤ h 53 10 ∧ h 53 10 ≤ 11 := hI.1 53 _
                      refine fz_callV (d' := 3) (M' := mX11_allHear) (As := []) (st := []) kX11_alike rfl rfl vX11_allHear rfl rfl rfl rfl (Nat.le_of_ble_eq_true rfl) (Nat.le_of_ble_eq_true rfl) (by decide) (sX11_allHear h hI  hRM hRPm) (fun H46 r47 q48 o49 => ?_)
                      obtain ⟨hI50, hf51, hRM52, hRPm53, rfl, f54⟩ := q48
                      clear o49
                      have hf55 := fz_fr_tr hf hf51 (show fz_su [(86, 99999), (87, 99999), (88, 99999)] [(60, 99999), (74, 99999), (75, 99999), (86, 99999), (87, 99999), (88, 99999)] = true from rfl)
                      have hXw56 : fz_Xw H46 := fz_Xw_eq (hf51 53 19 rfl) (funext fun s => hf51 66 s rfl) (funext fun s => hf51 67 s rfl) (funext fun s => hf51 68 s rfl) (funext fun s => hf51 69 s rfl) hXw
                      have t57 : H46 53 10 = h 53 10 := hf51 53 10 rfl
                      have t58 : H46 53 0 = h 53 0 := hf51 53 0 rfl
                      have hHB59 : fl_HB H46 := fl_HB_of2 f54 (funext fun s => hf51 62 s rfl) (hf51 53 10 rfl) (hf51 53 0 rfl) (funext fun s => hf51 54 s rfl) (fun q => (hI50.1 54 q).1)
                      have hHT61 : fl_HTh h H46 := f54
                      refine fz_iload_n kX11_alike rfl rfl ?_
                      refine fz_bipush ⟨by decide, by decide⟩ kX11_alike rfl ?_
                      refine fz_idivN kX11_alike rfl (by omega) (by omega) (by omega) ?_
                      refine fz_istore (ls' := [(4, fz_i (pq / 10)), (0, fz_r 53), (1, fz_i pq), (2, fz_i th), (3, fz_i wh)]) kX11_alike rfl (by decide) rfl ?_
                      refine fz_iload_n kX11_alike rfl rfl ?_
                      refine fz_bipush ⟨by decide, by decide⟩ kX11_alike rfl ?_
                      refine fz_iremN kX11_alike rfl (by omega) (by omega) (by omega) ?_
                      refine fz_istore (ls' := [(5, fz_i (pq % 10)), (4, fz_i (pq / 10)), (0, fz_r 53), (1, fz_i pq), (2, fz_i th), (3, fz_i wh)]) kX11_alike rfl (by decide) rfl ?_
                      refine fz_iload_n kX11_alike rfl rfl ?_
                      refine fz_sipush ⟨by decide, by decide⟩ kX11_alike rfl ?_
                      refine fz_idivN kX11_alike rfl (by omega) (by omega) (by omega) ?_
                      refine fz_istore (ls' := [(6, fz_i (th / 1000)), (5, fz_i (pq % 10)), (4, fz_i (pq / 10)), (0, fz_r 53), (1, fz_i pq), (2, fz_i th), (3, fz_i wh)]) kX11_alike rfl (by decide) rfl ?_
                      refine fz_iload_n kX11_alike rfl rfl ?_
                      refine fz_sipush ⟨by decide, by decide⟩ kX11_alike rfl ?_
                      refine fz_iremN kX11_alike rfl (by omega) (by omega) (by omega) ?_
                      refine fz_istore (ls' := [(7, fz_i (th % 1000)), (6, fz_i (th / 1000)), (5, fz_i (pq % 10)), (4, fz_i (pq / 10)), (0, fz_r 53), (1, fz_i pq), (2, fz_i th), (3, fz_i wh)]) kX11_alike rfl (by decide) rfl ?_
                      refine fz_iload_n kX11_alike rfl rfl ?_
                      refine fz_if_ne (tgt := 102) kX11_alike rfl (by decide) (fun c63 => ?_) (fun c63 => ?_)
                      · refine fz_iload_n kX11_alike rfl rfl ?_
                        refine fz_iconst ⟨by decide, by decide⟩ kX11_alike rfl ?_
                        refine fz_icmp_ne (tgt := 156) kX11_alike rfl (by decide) (fun c64 => ?_) (fun c64 => ?_)
                        · refine fz_aload_n kX11_alike rfl rfl ?_
                          refine fz_iload kX11_alike rfl rfl ?_
                          refine fz_iload kX11_alike rfl rfl ?_
                          refine fz_iload kX11_alike rfl rfl ?_
                          have e65 : H46 53 0 = h 53 0 := hf55 53 0 rfl
                          refine fz_callV (d' := 4) (M' := mX11_receivedIn) (As := [fz_i (pq / 10), fz_i (th / 1000), fz_i (th % 1000)]) (st := []) kX11_alike rfl rfl vX11_receivedIn rfl rfl rfl rfl (Nat.le_of_ble_eq_true rfl) (Nat.le_of_ble_eq_true rfl) (by decide) (sX11_receivedIn H46 hI50 (pq / 10) (th / 1000) (th % 1000) hXw56 hHB59 (by omega) (by omega)) (fun H66 r67 q68 o69 => ?_)
                          obtain ⟨hI70, hf71, hXw72, hHB73, y76, rfl, f74, f75⟩ := q68
                          clear o69
                          have hf77 := fz_fr_tr hf55 hf71 (show fz_su [(74, 99999), (75, 99999)] [(60, 99999), (74, 99999), (75, 99999), (86, 99999), (87, 99999), (88, 99999)] = true from rfl)
                          have hRM78 : fz_RM H66 := fz_RM_eq (funext fun s => hf71 55 s rfl) (funext fun s => hf71 56 s rfl) (hf71 53 0 rfl) (hf71 53 2 rfl) hRM52
                          have hRPm79 : fl_RPm H66 := fl_RPm_eq (funext fun s => hf71 61 s rfl) (hf71 53 10 rfl) (hf71 53 0 rfl) hRPm53
                          have hHT80 : fl_HTh h H66 := fl_HTh_eq (funext fun s => hf71 88 s rfl) hHT61
                          have t81 : H66 53 10 = H46 53 10 := hf71 53 10 rfl
                          have t82 : H66 53 0 = H46 53 0 := hf71 53 0 rfl
                          have k83 : y76 = fl_rmM h (pq / 10) (pq / 10) (th / 1000) (th % 1000) := fl_rmM_in (fun m => fl_ST_f6 hf55 rfl (funext fun s => hf51 60 s rfl) hHT61 ⟨by omega, by omega⟩) (funext fun s => hf55 59 s rfl) f75
                          refine fz_istore (ls' := [(8, fz_i y76), (7, fz_i (th % 1000)), (6, fz_i (th / 1000)), (5, fz_i (pq % 10)), (4, fz_i (pq / 10)), (0, fz_r 53), (1, fz_i pq), (2, fz_i th), (3, fz_i wh)]) kX11_alike rfl (by decide) rfl ?_
                          refine fz_aload_n kX11_alike rfl rfl ?_
                          refine fz_iload kX11_alike rfl rfl ?_
                          have e85 : H66 53 10 = h 53 10 := hf77 53 10 rfl
                          refine fz_callV (d' := 0) (M' := mX11_deedsOf) (As := [fz_i (pq % 10)]) (st := []) kX11_alike rfl rfl vX11_deedsOf rfl rfl rfl rfl (Nat.le_of_ble_eq_true rfl) (Nat.le_of_ble_eq_true rfl) (by decide) (sX11_deedsOf H66 hI70 (pq % 10) ) (fun H86 r87 q88 o89 => ?_)
                          obtain ⟨e90, y94, rfl, f91, f92, f93⟩ := q88
                          subst H86
                          clear o89
                          refine fz_istore (ls' := [(9, fz_i y94), (8, fz_i y76), (7, fz_i (th % 1000)), (6, fz_i (th / 1000)), (5, fz_i (pq % 10)), (4, fz_i (pq / 10)), (0, fz_r 53), (1, fz_i pq), (2, fz_i th), (3, fz_i wh)]) kX11_alike rfl (by decide) rfl ?_
                          refine fz_aload_n kX11_alike rfl rfl ?_
                          refine fz_iload kX11_alike rfl rfl ?_
                          refine fz_iload kX11_alike rfl rfl ?_
                          refine fz_callV (d' := 0) (M' := mX11_forgets) (As := [fz_i y94, fz_i (pq / 10)]) (st := []) kX11_alike rfl rfl vX11_forgets rfl rfl rfl rfl (Nat.le_of_ble_eq_true rfl) (Nat.le_of_ble_eq_true rfl) (by decide) (sX11_forgets H66 hI70 y94 (pq / 10) ) (fun H95 r96 q97 o98 => ?_)
                          obtain ⟨hI99, hf100, rfl, f101⟩ := q97
                          clear o98
                          have hf102 := fz_fr_tr hf77 hf100 (show fz_su [(60, 99999)] [(60, 99999), (74, 99999), (75, 99999), (86, 99999), (87, 99999), (88, 99999)] = true from rfl)
                          have hXw103 : fz_Xw H95 := fz_Xw_eq (hf100 53 19 rfl) (funext fun s => hf100 66 s rfl) (funext fun s => hf100 67 s rfl) (funext fun s => hf100 68 s rfl) (funext fun s => hf100 69 s rfl) hXw72
                          have hRM104 : fz_RM H95 := fz_RM_eq (funext fun s => hf100 55 s rfl) (funext fun s => hf100 56 s rfl) (hf100 53 0 rfl) (hf100 53 2 rfl) hRM78
                          have hRPm105 : fl_RPm H95 := fl_RPm_eq (funext fun s => hf100 61 s rfl) (hf100 53 10 rfl) (hf100 53 0 rfl) hRPm79
                          have hHB106 : fl_HB H95 := fl_HB_eq (funext fun s => hf100 88 s rfl) (funext fun s => hf100 62 s rfl) (hf100 53 10 rfl) (hf100 53 0 rfl) hHB73
                          have hHT107 : fl_HTh h H95 := fl_HTh_eq (funext fun s => hf100 88 s rfl) hHT80
                          have t108 : H95 53 10 = H66 53 10 := hf100 53 10 rfl
                          have t109 : H95 53 0 = H66 53 0 := hf100 53 0 rfl
                          refine fz_aload_n kX11_alike rfl rfl ?_
                          refine fz_iload kX11_alike rfl rfl ?_
                          refine fz_iload kX11_alike rfl rfl ?_
                          refine fz_iload kX11_alike rfl rfl ?_
                          have e110 : H95 53 0 = h 53 0 := hf102 53 0 rfl
                          refine fz_callV (d' := 4) (M' := mX11_receivedIn) (As := [fz_i (pq / 10), fz_i (th / 1000), fz_i (th % 1000)]) (st := []) kX11_alike rfl rfl vX11_receivedIn rfl rfl rfl rfl (Nat.le_of_ble_eq_true rfl) (Nat.le_of_ble_eq_true rfl) (by decide) (sX11_receivedIn H95 hI99 (pq / 10) (th / 1000) (th % 1000) hXw103 hHB106 (by omega) (by omega)) (fun H111 r112 q113 o114 => ?_)
                          obtain ⟨hI115, hf116, hXw117, hHB118, y121, rfl, f119, f120⟩ := q113
                          clear o114
                          have hf122 := fz_fr_tr hf102 hf116 (show fz_su [(74, 99999), (75, 99999)] [(60, 99999), (74, 99999), (75, 99999), (86, 99999), (87, 99999), (88, 99999)] = true from rfl)
                          have hRM123 : fz_RM H111 := fz_RM_eq (funext fun s => hf116 55 s rfl) (funext fun s => hf116 56 s rfl) (hf116 53 0 rfl) (hf116 53 2 rfl) hRM104
                          have hRPm124 : fl_RPm H111 := fl_RPm_eq (funext fun s => hf116 61 s rfl) (hf116 53 10 rfl) (hf116 53 0 rfl) hRPm105
                          have hHT125 : fl_HTh h H111 := fl_HTh_eq (funext fun s => hf116 88 s rfl) hHT107
                          have t126 : H111 53 10 = H95 53 10 := hf116 53 10 rfl
                          have t127 : H111 53 0 = H95 53 0 := hf116 53 0 rfl
                          have k128 : y121 = fl_rmM h (pq / 10) (pq % 10) (th / 1000) (th % 1000) := fl_rmM_in (fun m => fl_ST_mx hf102 rfl f93 ((funext fun s => hf71 60 s rfl).trans (funext fun s => hf51 60 s rfl)) f101 ((funext fun s => hf71 60 s rfl).trans (funext fun s => hf51 60 s rfl)) (by omega) (by omega) (by omega) hHT107 ⟨by omega, by omega⟩) (funext fun s => hf102 59 s rfl) f120
                          refine fz_istore (ls' := [(10, fz_i y121), (9, fz_i y94), (8, fz_i y76), (7, fz_i (th % 1000)), (6, fz_i (th / 1000)), (5, fz_i (pq % 10)), (4, fz_i (pq / 10)), (0, fz_r 53), (1, fz_i pq), (2, fz_i th), (3, fz_i wh)]) kX11_alike rfl (by decide) rfl ?_
                          refine fz_aload_n kX11_alike rfl rfl ?_
                          refine fz_iload kX11_alike rfl rfl ?_
                          refine fz_iload kX11_alike rfl rfl ?_
                          have e130 : H111 53 10 = h 53 10 := hf122 53 10 rfl
                          refine fz_callV (d' := 0) (M' := mX11_forgets) (As := [fz_i y94, fz_i (pq % 10)]) (st := []) kX11_alike rfl rfl vX11_forgets rfl rfl rfl rfl (Nat.le_of_ble_eq_true rfl) (Nat.le_of_ble_eq_true rfl) (by decide) (sX11_forgets H111 hI115 y94 (pq % 10) ) (fun H131 r132 q133 o134 => ?_)
                          obtain ⟨hI135, hf136, rfl, f137⟩ := q133
                          clear o134
                          have hf138 := fz_fr_tr hf122 hf136 (show fz_su [(60, 99999)] [(60, 99999), (74, 99999), (75, 99999), (86, 99999), (87, 99999), (88, 99999)] = true from rfl)
                          have hXw139 : fz_Xw H131 := fz_Xw_eq (hf136 53 19 rfl) (funext fun s => hf136 66 s rfl) (funext fun s => hf136 67 s rfl) (funext fun s => hf136 68 s rfl) (funext fun s => hf136 69 s rfl) hXw117
                          have hRM140 : fz_RM H131 := fz_RM_eq (funext fun s => hf136 55 s rfl) (funext fun s => hf136 56 s rfl) (hf136 53 0 rfl) (hf136 53 2 rfl) hRM123
                          have hRPm141 : fl_RPm H131 := fl_RPm_eq (funext fun s => hf136 61 s rfl) (hf136 53 10 rfl) (hf136 53 0 rfl) hRPm124
                          have hHB142 : fl_HB H131 := fl_HB_eq (funext fun s => hf136 88 s rfl) (funext fun s => hf136 62 s rfl) (hf136 53 10 rfl) (hf136 53 0 rfl) hHB118
                          have hHT143 : fl_HTh h H131 := fl_HTh_eq (funext fun s => hf136 88 s rfl) hHT125
                          have t144 : H131 53 10 = H111 53 10 := hf136 53 10 rfl
                          have t145 : H131 53 0 = H111 53 0 := hf136 53 0 rfl
                          refine fz_iload kX11_alike rfl rfl ?_
                          refine fz_iload kX11_alike rfl rfl ?_
                          refine fz_isub kX11_alike rfl ?_
                          have b146 := fz_w_b (y121 - y76)
                          exact fz_iret kX11_alike rfl rfl (fun _ => ⟨hI135, hf138, hXw139, hRM140, hRPm141, _, rfl, (by omega), (by first | exact lost | rfl | exact (funext fun s => lost 60 s rfl).trans (funext fun s => hf51 60 s rfl) | exact fz_fg_back ((funext fun s => hf71 60 s rfl).trans (funext fun s => hf51 60 s rfl)) f101 (funext fun s => hf116 60 s rfl) f137 ((funext fun s => hf71 60 s rfl).trans (funext fun s => hf51 60 s rfl)) f93 (by omega) (by omega) (by omega) (fun _ _ z => z) (fun _ _ z => z)), (by first | exact Or.inl ⟨(by unfold fl_oK; omega), fl_akx_0 (by omega) lost⟩ | exact Or.inl ⟨(by unfold fl_oK; omega), fl_akx_2 (by omega) (by rw [k128, k83])⟩ | exact Or.inl ⟨(by unfold fl_oK; omega), fl_akx_1 (by omega) (fl_at (f := fl_tb (fl_akM h pq (th % 1000))) lost (by omega))⟩ | exact Or.inr ⟨(by unfold fl_oK; omega), rfl⟩)⟩)
                        · refine fz_iconst ⟨by decide, by decide⟩ kX11_alike rfl ?_
                          refine fz_istore (ls' := [(8, fz_i 0), (7, fz_i (th % 1000)), (6, fz_i (th / 1000)), (5, fz_i (pq % 10)), (4, fz_i (pq / 10)), (0, fz_r 53), (1, fz_i pq), (2, fz_i th), (3, fz_i wh)]) kX11_alike rfl (by decide) rfl ?_
                          refine fz_iconst ⟨by decide, by decide⟩ kX11_alike rfl ?_
                          refine fz_istore (ls' := [(9, fz_i 0), (8, fz_i 0), (7, fz_i (th % 1000)), (6, fz_i (th / 1000)), (5, fz_i (pq % 10)), (4, fz_i (pq / 10)), (0, fz_r 53), (1, fz_i pq), (2, fz_i th), (3, fz_i wh)]) kX11_alike rfl (by decide) rfl ?_
                          have lp160 : ∀ (n159 : Nat) (x149 : Int) (x150 : Int) (H156 : fz_H), fz_Iv H156 → fz_fr [(60, 99999), (74, 99999), (75, 99999), (86, 99999), (87, 99999), (88, 99999)] h H156 → fz_Xw H156 → fz_RM H156 → fl_RPm H156 → fl_HB H156 → fl_HTh h H156 → (0 ≤ x149 ∧ x149 ≤ 2147483647) → ((-2147483648) ≤ x150 ∧ x150 ≤ 2147483647) → (x149 ≤ h 53 0) → (H156 60 = h 60) → (x150 = fl_tb (fl_akM h pq (th % 1000)) (x149).toNat) → ((h 53 0) - x149).toNat < n159 → fz_R 5 mX11_alike 113 [(9, fz_i x149), (8, fz_i x150), (7, fz_i (th % 1000)), (6, fz_i (th / 1000)), (5, fz_i (pq % 10)), (4, fz_i (pq / 10)), (0, fz_r 53), (1, fz_i pq), (2, fz_i th), (3, fz_i wh)] [] H156 (qX11_alike h pq th wh) := by
                            intro n159
                            induction n159 with
                            | zero => intro x149 x150 H156 hI157 hf158 hXw151 hRM152 hRPm153 hHB154 hHT155 hv163 hv164 hv165 hv166 hv167 hm162; exact absurd hm162 (by omega)
                            | succ n159 ih161 =>
                              intro x149 x150 H156 hI157 hf158 hXw151 hRM152 hRPm153 hHB154 hHT155 hv163 hv164 hv165 hv166 hv167 hm162
                              refine fz_iload kX11_alike rfl rfl ?_
                              refine fz_aload_n kX11_alike rfl rfl ?_
                              refine fz_getV (v := h 53 0) kX11_alike rfl rfl (hf158 53 0 rfl) ?_
                              have b168 : 0 ≤ h 53 0 ∧ h 53 0 ≤ 8 := hI.1 53 _
                              refine fz_icmp_ge (tgt := 153) kX11_alike rfl (by decide) (fun c169 => ?_) (fun c169 => ?_)
                              · refine fz_iload kX11_alike rfl rfl ?_
                                exact fz_iret kX11_alike rfl rfl (fun _ => ⟨hI157, hf158, hXw151, hRM152, hRPm153, _, rfl, (by omega), (by first | exact hv166 | rfl | exact (funext fun s => lost 60 s rfl).trans (funext fun s => hf51 60 s rfl) | exact fz_fg_back ((funext fun s => lost 60 s rfl).trans (funext fun s => hf51 60 s rfl)) lost (funext fun s => lost 60 s rfl) lost ((funext fun s => lost 60 s rfl).trans (funext fun s => hf51 60 s rfl)) lost (by omega) (by omega) (by omega) (fun _ _ z => z) (fun _ _ z => z)), (by first | exact Or.inl ⟨(by unfold fl_oK; omega), fl_akx_0 (by omega) lost⟩ | exact Or.inl ⟨(by unfold fl_oK; omega), fl_akx_2 (by omega) (by rw [lost, lost])⟩ | exact Or.inl ⟨(by unfold fl_oK; omega), fl_akx_1 (by omega) (fl_at (f := fl_tb (fl_akM h pq (th % 1000))) hv167 (by omega))⟩ | exact Or.inr ⟨(by unfold fl_oK; omega), rfl⟩)⟩)
                              · refine fz_aload_n kX11_alike rfl rfl ?_
                                refine fz_iload kX11_alike rfl rfl ?_
                                refine fz_iload kX11_alike rfl rfl ?_
                                refine fz_iload kX11_alike rfl rfl ?_
                                refine fz_iload kX11_alike rfl rfl ?_
                                have e172 : H156 53 0 = h 53 0 := hf158 53 0 rfl
                                refine fz_callV (d' := 4) (M' := mX11_marksAlike) (As := [fz_i (pq / 10), fz_i (pq % 10), fz_i x149, fz_i (th % 1000)]) (st := []) kX11_alike rfl rfl vX11_marksAlike rfl rfl rfl rfl (Nat.le_of_ble_eq_true rfl) (Nat.le_of_ble_eq_true rfl) (by decide) (sX11_marksAlike H156 hI157 (pq / 10) (pq % 10) x149 (th % 1000) hXw151 hHB154 (by omega) (by omega)) (fun H173 r174 q175 o176 => ?_)
                                obtain ⟨hI177, hf178, hXw179, hHB180, y183, rfl, f181, f182⟩ := q175
                                clear o176
                                have hf184 := fz_fr_tr hf158 hf178 (show fz_su [(74, 99999), (75, 99999)] [(60, 99999), (74, 99999), (75, 99999), (86, 99999), (87, 99999), (88, 99999)] = true from rfl)
                                have hRM185 : fz_RM H173 := fz_RM_eq (funext fun s => hf178 55 s rfl) (funext fun s => hf178 56 s rfl) (hf178 53 0 rfl) (hf178 53 2 rfl) hRM152
                                have hRPm186 : fl_RPm H173 := fl_RPm_eq (funext fun s => hf178 61 s rfl) (hf178 53 10 rfl) (hf178 53 0 rfl) hRPm153
                                have hHT187 : fl_HTh h H173 := fl_HTh_eq (funext fun s => hf178 88 s rfl) hHT155
                                have t188 : H173 53 10 = H156 53 10 := hf178 53 10 rfl
                                have t189 : H173 53 0 = H156 53 0 := hf178 53 0 rfl
                                have k190 := fl_alM_in f182 (fun pe m => fl_ST_f6 hf158 rfl hv166 hHT155 ⟨by omega, by omega⟩)
                                refine fz_iconst ⟨by decide, by decide⟩ kX11_alike rfl ?_
                                refine fz_icmp_ge (tgt := 147) kX11_alike rfl (by decide) (fun c192 => ?_) (fun c192 => ?_)
                                · refine fz_iincN (ls' := [(9, fz_i (x149 + 1)), (8, fz_i x150), (7, fz_i (th % 1000)), (6, fz_i (th / 1000)), (5, fz_i (pq % 10)), (4, fz_i (pq / 10)), (0, fz_r 53), (1, fz_i pq), (2, fz_i th), (3, fz_i wh)]) kX11_alike rfl (by decide) rfl (by omega) rfl ?_
                                  refine fz_goto (tgt := 113) kX11_alike rfl (by decide) ?_
                                  exact ih161 (x149 + 1) x150 H173 hI177 hf184 hXw179 hRM185 hRPm186 hHB180 hHT187 (by omega) (by omega) (by omega) ((funext fun s => hf178 60 s rfl).trans hv166) (by first | exact fl_tb_1 hv167 (by omega) (fl_lt5_1 k190 (by omega)) | exact fl_tb_0 hv167 (by omega) (fl_lt5_0 k190 (by omega))) (by omega)
                                · refine fz_iload kX11_alike rfl rfl ?_
                                  refine fz_iconst ⟨by decide, by decide⟩ kX11_alike rfl ?_
                                  refine fz_iload kX11_alike rfl rfl ?_
                                  refine fz_ishl kX11_alike rfl ?_
                                  have b195 : -2147483648 ≤ (fz_shl 1 x149) ∧ (fz_shl 1 x149) < 2147483648 := fz_b32 _
                                  refine fz_ior kX11_alike rfl ?_
                                  have b196 : -2147483648 ≤ (fz_or x150 (fz_shl 1 x149)) ∧ (fz_or x150 (fz_shl 1 x149)) < 2147483648 := fz_b32 _
                                  refine fz_istore (ls' := [(8, fz_i (fz_or x150 (fz_shl 1 x149))), (9, fz_i x149), (7, fz_i (th % 1000)), (6, fz_i (th / 1000)), (5, fz_i (pq % 10)), (4, fz_i (pq / 10)), (0, fz_r 53), (1, fz_i pq), (2, fz_i th), (3, fz_i wh)]) kX11_alike rfl (by decide) rfl ?_
                                  refine fz_iincN (ls' := [(9, fz_i (x149 + 1)), (8, fz_i (fz_or x150 (fz_shl 1 x149))), (7, fz_i (th % 1000)), (6, fz_i (th / 1000)), (5, fz_i (pq % 10)), (4, fz_i (pq / 10)), (0, fz_r 53), (1, fz_i pq), (2, fz_i th), (3, fz_i wh)]) kX11_alike rfl (by decide) rfl (by omega) rfl ?_
                                  refine fz_goto (tgt := 113) kX11_alike rfl (by decide) ?_
                                  exact ih161 (x149 + 1) (fz_or x150 (fz_shl 1 x149)) H173 hI177 hf184 hXw179 hRM185 hRPm186 hHB180 hHT187 (by omega) (by omega) (by omega) ((funext fun s => hf178 60 s rfl).trans hv166) (by first | exact fl_tb_1 hv167 (by omega) (fl_lt5_1 k190 (by omega)) | exact fl_tb_0 hv167 (by omega) (fl_lt5_0 k190 (by omega))) (by omega)
                          exact lp160 _ 0 0 H46 hI50 hf55 hXw56 hRM52 hRPm53 hHB59 hHT61 (by omega) (by omega) (by omega) ((funext fun s => hf51 60 s rfl)) (rfl) (Nat.lt_succ_self _)
                      · refine fz_aload_n kX11_alike rfl rfl ?_
                        refine fz_iload kX11_alike rfl rfl ?_
                        refine fz_iload kX11_alike rfl rfl ?_
                        refine fz_iload kX11_alike rfl rfl ?_
                        refine fz_iload kX11_alike rfl rfl ?_
                        have e201 : H46 53 0 = h 53 0 := hf55 53 0 rfl
                        refine fz_callV (d' := 4) (M' := mX11_marksAlike) (As := [fz_i (pq / 10), fz_i (pq % 10), fz_i (th / 1000), fz_i (th % 1000)]) (st := []) kX11_alike rfl rfl vX11_marksAlike rfl rfl rfl rfl (Nat.le_of_ble_eq_true rfl) (Nat.le_of_ble_eq_true rfl) (by decide) (sX11_marksAlike H46 hI50 (pq / 10) (pq % 10) (th / 1000) (th % 1000) hXw56 hHB59 (by omega) (by omega)) (fun H202 r203 q204 o205 => ?_)
                        obtain ⟨hI206, hf207, hXw208, hHB209, y212, rfl, f210, f211⟩ := q204
                        clear o205
                        have hf213 := fz_fr_tr hf55 hf207 (show fz_su [(74, 99999), (75, 99999)] [(60, 99999), (74, 99999), (75, 99999), (86, 99999), (87, 99999), (88, 99999)] = true from rfl)
                        have hRM214 : fz_RM H202 := fz_RM_eq (funext fun s => hf207 55 s rfl) (funext fun s => hf207 56 s rfl) (hf207 53 0 rfl) (hf207 53 2 rfl) hRM52
                        have hRPm215 : fl_RPm H202 := fl_RPm_eq (funext fun s => hf207 61 s rfl) (hf207 53 10 rfl) (hf207 53 0 rfl) hRPm53
                        have hHT216 : fl_HTh h H202 := fl_HTh_eq (funext fun s => hf207 88 s rfl) hHT61
                        have t217 : H202 53 10 = H46 53 10 := hf207 53 10 rfl
                        have t218 : H202 53 0 = H46 53 0 := hf207 53 0 rfl
                        have k219 := fl_alM_in f211 (fun pe m => fl_ST_f6 hf55 rfl (funext fun s => hf51 60 s rfl) hHT61 ⟨by omega, by omega⟩)
                        exact fz_iret kX11_alike rfl rfl (fun _ => ⟨hI206, hf213, hXw208, hRM214, hRPm215, _, rfl, (by omega), (by first | exact lost | rfl | exact (funext fun s => hf207 60 s rfl).trans (funext fun s => hf51 60 s rfl) | exact fz_fg_back ((funext fun s => lost 60 s rfl).trans (funext fun s => hf51 60 s rfl)) lost (funext fun s => lost 60 s rfl) lost ((funext fun s => lost 60 s rfl).trans (funext fun s => hf51 60 s rfl)) lost (by omega) (by omega) (by omega) (fun _ _ z => z) (fun _ _ z => z)), (by first | exact Or.inl ⟨(by unfold fl_oK; omega), fl_akx_0 (by omega) k219⟩ | exact Or.inl ⟨(by unfold fl_oK; omega), fl_akx_2 (by omega) (by rw [lost, lost])⟩ | exact Or.inl ⟨(by unfold fl_oK; omega), fl_akx_1 (by omega) (fl_at (f := fl_tb (fl_akM h pq (th % 1000))) lost (by omega))⟩ | exact Or.inr ⟨(by unfold fl_oK; omega), rfl⟩)⟩)
                    · exfalso; omega
                  · refine fz_if_ne (tgt := 55) kX11_alike rfl (by decide) (fun c223 => ?_) (fun c223 => ?_)
                    · exfalso; omega
                    · refine fz_ldc (x := (-2000000000)) kX11_alike rfl rfl rfl ?_
                      exact fz_iret kX11_alike rfl rfl (fun _ => ⟨hI, hf, hXw, hRM, hRPm, _, rfl, (by omega), (by first | exact lost | rfl | exact (funext fun s => lost 60 s rfl).trans (funext fun s => lost 60 s rfl) | exact fz_fg_back ((funext fun s => lost 60 s rfl).trans (funext fun s => lost 60 s rfl)) lost (funext fun s => lost 60 s rfl) lost ((funext fun s => lost 60 s rfl).trans (funext fun s => lost 60 s rfl)) lost (by omega) (by omega) (by omega) (fun _ _ z => z) (fun _ _ z => z)), (by first | exact Or.inl ⟨(by unfold fl_oK; omega), fl_akx_0 (by omega) lost⟩ | exact Or.inl ⟨(by unfold fl_oK; omega), fl_akx_2 (by omega) (by rw [lost, lost])⟩ | exact Or.inl ⟨(by unfold fl_oK; omega), fl_akx_1 (by omega) (fl_at (f := fl_tb (fl_akM h pq (th % 1000))) lost (by omega))⟩ | exact Or.inr ⟨(by unfold fl_oK; omega), rfl⟩)⟩)
              · refine fz_if_eq (tgt := 52) kX11_alike rfl (by decide) (fun c226 => ?_) (fun c226 => ?_)
                · refine fz_ldc (x := (-2000000000)) kX11_alike rfl rfl rfl ?_
                  exact fz_iret kX11_alike rfl rfl (fun _ => ⟨hI, hf, hXw, hRM, hRPm, _, rfl, (by omega), (by first | exact lost | rfl | exact (funext fun s => lost 60 s rfl).trans (funext fun s => lost 60 s rfl) | exact fz_fg_back ((funext fun s => lost 60 s rfl).trans (funext fun s => lost 60 s rfl)) lost (funext fun s => lost 60 s rfl) lost ((funext fun s => lost 60 s rfl).trans (funext fun s => lost 60 s rfl)) lost (by omega) (by omega) (by omega) (fun _ _ z => z) (fun _ _ z => z)), (by first | exact Or.inl ⟨(by unfold fl_oK; omega), fl_akx_0 (by omega) lost⟩ | exact Or.inl ⟨(by unfold fl_oK; omega), fl_akx_2 (by omega) (by rw [lost, lost])⟩ | exact Or.inl ⟨(by unfold fl_oK; omega), fl_akx_1 (by omega) (fl_at (f := fl_tb (fl_akM h pq (th % 1000))) lost (by omega))⟩ | exact Or.inr ⟨(by unfold fl_oK; omega), rfl⟩)⟩)
                · exfalso; omega
        · refine fz_if_eq (tgt := 52) kX11_alike rfl (by decide) (fun c229 => ?_) (fun c229 => ?_)
          · refine fz_ldc (x := (-2000000000)) kX11_alike rfl rfl rfl ?_
            exact fz_iret kX11_alike rfl rfl (fun _ => ⟨hI, hf, hXw, hRM, hRPm, _, rfl, (by omega), (by first | exact lost | rfl | exact (funext fun s => lost 60 s rfl).trans (funext fun s => lost 60 s rfl) | exact fz_fg_back ((funext fun s => lost 60 s rfl).trans (funext fun s => lost 60 s rfl)) lost (funext fun s => lost 60 s rfl) lost ((funext fun s => lost 60 s rfl).trans (funext fun s => lost 60 s rfl)) lost (by omega) (by omega) (by omega) (fun _ _ z => z) (fun _ _ z => z)), (by first | exact Or.inl ⟨(by unfold fl_oK; omega), fl_akx_0 (by omega) lost⟩ | exact Or.inl ⟨(by unfold fl_oK; omega), fl_akx_2 (by omega) (by rw [lost, lost])⟩ | exact Or.inl ⟨(by unfold fl_oK; omega), fl_akx_1 (by omega) (fl_at (f := fl_tb (fl_akM h pq (th % 1000))) lost (by omega))⟩ | exact Or.inr ⟨(by unfold fl_oK; omega), rfl⟩)⟩)
          · exfalso; omega
    · refine fz_if_eq (tgt := 52) kX11_alike rfl (by decide) (fun c232 => ?_) (fun c232 => ?_)
      · refine fz_ldc (x := (-2000000000)) kX11_alike rfl rfl rfl ?_
        exact fz_iret kX11_alike rfl rfl (fun _ => ⟨hI, hf, hXw, hRM, hRPm, _, rfl, (by omega), (by first | exact lost | rfl | exact (funext fun s => lost 60 s rfl).trans (funext fun s => lost 60 s rfl) | exact fz_fg_back ((funext fun s => lost 60 s rfl).trans (funext fun s => lost 60 s rfl)) lost (funext fun s => lost 60 s rfl) lost ((funext fun s => lost 60 s rfl).trans (funext fun s => lost 60 s rfl)) lost (by omega) (by omega) (by omega) (fun _ _ z => z) (fun _ _ z => z)), (by first | exact Or.inl ⟨(by unfold fl_oK; omega), fl_akx_0 (by omega) lost⟩ | exact Or.inl ⟨(by unfold fl_oK; omega), fl_akx_2 (by omega) (by rw [lost, lost])⟩ | exact Or.inl ⟨(by unfold fl_oK; omega), fl_akx_1 (by omega) (fl_at (f := fl_tb (fl_akM h pq (th % 1000))) lost (by omega))⟩ | exact Or.inr ⟨(by unfold fl_oK; omega), rfl⟩)⟩)
      · exfalso; omega

abbrev qX11_wrong (h : fz_H) (s pe t hr : Int) : fz_H → Option fz_V → Prop := fun h' r0 => fz_Iv h' ∧ fz_fr [(74, 99999), (75, 99999)] h h' ∧ fz_Xw h' ∧ fl_HB h' ∧ ∃ r : Int, r0 = some (fz_i r) ∧ ((-2) ≤ r ∧ r ≤ 4) ∧ (fl_jf (fl_gjM h s) (fun k => fl_ST h pe k t hr) (h 84 s.toNat) r)
set_option maxHeartbeats 1000000 in
set_option maxRecDepth 100000 in
theorem sX11_wrong (h : fz_H) (hI : fz_Iv h) (s pe t hr : Int) (hXw : fz_Xw h) (hHB : fl_HB h) (hp0 : 0 ≤ s ∧ s ≤ 5) (hp1 : 0 ≤ t ∧ t ≤ 7) (hp2 : t < h 53 0) : fz_R 4 mX11_wrong 0 [(0, fz_r 53), (1, fz_i s), (2, fz_i pe), (3, fz_i t), (4, fz_i hr)] [] h (qX11_wrong h s pe t hr) := by
  refine fz_knowl (fun hk => ?_)
  have hr_s : -2147483648 ≤ s ∧ s < 2147483648 := hk _ (List.Mem.tail _ (List.Mem.head _))
  have hr_pe : -2147483648 ≤ pe ∧ pe < 2147483648 := hk _ (List.Mem.tail _ (List.Mem.tail _ (List.Mem.head _)))
  have hr_t : -2147483648 ≤ t ∧ t < 2147483648 := hk _ (List.Mem.tail _ (List.Mem.tail _ (List.Mem.tail _ (List.Mem.head _))))
  have hr_hr : -2147483648 ≤ hr ∧ hr < 2147483648 := hk _ (List.Mem.tail _ (List.Mem.tail _ (List.Mem.tail _ (List.Mem.tail _ (List.Mem.head _)))))
  clear hk
  have hf : fz_fr [(74, 99999), (75, 99999)] h h := fz_fr_rf
  have b1 : 0 ≤ h 53 0 ∧ h 53 0 ≤ 8 := hI.1 53 _
  refine fz_iconst ⟨by decide, by decide⟩ kX11_wrong rfl ?_
  refine fz_istore (ls' := [(5, fz_i 0), (0, fz_r 53), (1, fz_i s), (2, fz_i pe), (3, fz_i t), (4, fz_i hr)]) kX11_wrong rfl (by decide) rfl ?_
  have lp9 : ∀ (n8 : Nat) (x2 : Int) (H5 : fz_H), fz_Iv H5 → fz_fr [(74, 99999), (75, 99999)] h H5 → fz_Xw H5 → fl_HB H5 → (0 ≤ x2 ∧ x2 ≤ 2147483647) → (fl_jI (fl_gjM h s) (fun k => fl_ST h pe k t hr) x2) → (5 - x2).toNat < n8 → fz_R 4 mX11_wrong 3 [(5, fz_i x2), (0, fz_r 53), (1, fz_i s), (2, fz_i pe), (3, fz_i t), (4, fz_i hr)] [] H5 (qX11_wrong h s pe t hr) := by
    intro n8
    induction n8 with
    | zero => intro x2 H5 hI6 hf7 hXw3 hHB4 hv12 hv13 hm11; exact absurd hm11 (by omega)
    | succ n8 ih10 =>
      intro x2 H5 hI6 hf7 hXw3 hHB4 hv12 hv13 hm11
      refine fz_iload kX11_wrong rfl rfl ?_
      refine fz_iconst ⟨by decide, by decide⟩ kX11_wrong rfl ?_
      refine fz_icmp_ge (tgt := 56) kX11_wrong rfl (by decide) (fun c14 => ?_) (fun c14 => ?_)
      · refine fz_bipush ⟨by decide, by decide⟩ kX11_wrong rfl ?_
        exact fz_iret kX11_wrong rfl rfl (fun _ => ⟨hI6, hf7, hXw3, hHB4, _, rfl, (by omega), (by first | exact fl_jI_y hv13 lost lost (by omega) (by omega) | exact fl_jI_n hv13 (by omega) rfl)⟩)
      · refine fz_iload kX11_wrong rfl rfl ?_
        refine fz_aload_n kX11_wrong rfl rfl ?_
        refine fz_getR (t := 84) kX11_wrong rfl rfl ?_
        refine fz_iload_n kX11_wrong rfl rfl ?_
        refine fz_ialdV (n := 6) (v := h 84 (s.toNat)) kX11_wrong rfl rfl (by omega) (by omega) (hf7 84 _ rfl) ?_
        have b16 : 0 ≤ h 84 (s.toNat) ∧ h 84 (s.toNat) ≤ 60 := hI.1 84 _
        refine fz_icmp_ge (tgt := 56) kX11_wrong rfl (by decide) (fun c17 => ?_) (fun c17 => ?_)
        · refine fz_bipush ⟨by decide, by decide⟩ kX11_wrong rfl ?_
          exact fz_iret kX11_wrong rfl rfl (fun _ => ⟨hI6, hf7, hXw3, hHB4, _, rfl, (by omega), (by first | exact fl_jI_y hv13 lost lost (by omega) (by omega) | exact fl_jI_n hv13 (by omega) rfl)⟩)
        · refine fz_aload_n kX11_wrong rfl rfl ?_
          refine fz_getR (t := 85) kX11_wrong rfl rfl ?_
          refine fz_bipush ⟨by decide, by decide⟩ kX11_wrong rfl ?_
          refine fz_iload_n kX11_wrong rfl rfl ?_
          refine fz_imulN kX11_wrong rfl (by omega) ?_
          refine fz_iload kX11_wrong rfl rfl ?_
          refine fz_iaddN kX11_wrong rfl (by omega) ?_
          refine fz_laldV (n := 360) (v := h 85 (((60 * s) + x2).toNat)) kX11_wrong rfl rfl (by omega) (by omega) (hf7 85 _ rfl) ?_
          have b19 : (-9223372036854775808) ≤ h 85 (((60 * s) + x2).toNat) ∧ h 85 (((60 * s) + x2).toNat) ≤ 9223372036854775807 := hI.1 85 _
          have k20 : (h 85 (((60 * s) + x2).toNat)) = fl_gjM h s x2 := rfl
          refine fz_aload_n kX11_wrong rfl rfl ?_
          refine fz_iload_n kX11_wrong rfl rfl ?_
          refine fz_iload kX11_wrong rfl rfl ?_
          refine fz_iload_n kX11_wrong rfl rfl ?_
          refine fz_iload kX11_wrong rfl rfl ?_
          have b22 : 0 ≤ h 53 0 ∧ h 53 0 ≤ 8 := hI.1 53 _
          have e23 : H5 53 0 = h 53 0 := hf7 53 0 rfl
          refine fz_callV (d' := 3) (M' := mX11_saidOf) (As := [fz_i pe, fz_i x2, fz_i t, fz_i hr]) (st := [fz_l (h 85 (((60 * s) + x2).toNat))]) kX11_wrong rfl rfl vX11_saidOf rfl rfl rfl rfl (Nat.le_of_ble_eq_true rfl) (Nat.le_of_ble_eq_true rfl) (by decide) (sX11_saidOf H5 hI6 pe x2 t hr hXw3 hHB4 (by omega) (by omega)) (fun H24 r25 q26 o27 => ?_)
          obtain ⟨hI28, hf29, hXw30, hHB31, y34, rfl, f32, f33⟩ := q26
          clear o27
          have hf35 := fz_fr_tr hf7 hf29 (show fz_su [(74, 99999), (75, 99999)] [(74, 99999), (75, 99999)] = true from rfl)
          have t36 : H24 53 0 = H5 53 0 := hf29 53 0 rfl
          have k37 : y34 = (fun k : Int => fl_ST h pe k t hr) x2 := by have z := f33; rw [fl_ST_fr hf7 rfl] at z; exact z
          refine fz_i2l kX11_wrong rfl ?_
          refine fz_lcmp kX11_wrong rfl ?_
          have b39 := fz_cmp_c (h 85 (((60 * s) + x2).toNat)) y34
          refine fz_if_eq (tgt := 50) kX11_wrong rfl (by decide) (fun c40 => ?_) (fun c40 => ?_)
          · refine fz_iincN (ls' := [(5, fz_i (x2 + 1)), (0, fz_r 53), (1, fz_i s), (2, fz_i pe), (3, fz_i t), (4, fz_i hr)]) kX11_wrong rfl (by decide) rfl (by omega) rfl ?_
            refine fz_goto (tgt := 3) kX11_wrong rfl (by decide) ?_
            exact ih10 (x2 + 1) H24 hI28 hf35 hXw30 hHB31 (by omega) (fl_jI_s hv13 k20 k37 (by omega)) (by omega)
          · refine fz_iload kX11_wrong rfl rfl ?_
            exact fz_iret kX11_wrong rfl rfl (fun _ => ⟨hI28, hf35, hXw30, hHB31, _, rfl, (by omega), (by first | exact fl_jI_y hv13 k20 k37 (by omega) (by omega) | exact fl_jI_n hv13 (by omega) rfl)⟩)
  exact lp9 _ 0 h hI hf hXw hHB (by omega) (fl_jI_0 (by omega)) (Nat.lt_succ_self _)

abbrev qX11_judge (h : fz_H) (s on th : Int) : fz_H → Option fz_V → Prop := fun h' r0 => fz_Iv h' ∧ fz_fr [(74, 99999), (75, 99999), (86, 99999), (87, 99999), (88, 99999)] h h' ∧ fz_Xw h' ∧ fz_RM h' ∧ fl_RPm h' ∧ ∃ r : Int, r0 = some (fz_i r) ∧ ((-12) ≤ r ∧ r ≤ 4) ∧ (fl_jdM h s on th r)
set_option maxHeartbeats 1000000 in
set_option maxRecDepth 100000 in
theorem sX11_judge (h : fz_H) (hI : fz_Iv h) (s on th : Int) (hXw : fz_Xw h) (hRM : fz_RM h) (hRPm : fl_RPm h) : fz_R 5 mX11_judge 0 [(0, fz_r 53), (1, fz_i s), (2, fz_i on), (3, fz_i th)] [] h (qX11_judge h s on th) := by
  refine fz_knowl (fun hk => ?_)
  have hr_s : -2147483648 ≤ s ∧ s < 2147483648 := hk _ (List.Mem.tail _ (List.Mem.head _))
  have hr_on : -2147483648 ≤ on ∧ on < 2147483648 := hk _ (List.Mem.tail _ (List.Mem.tail _ (List.Mem.head _)))
  have hr_th : -2147483648 ≤ th ∧ th < 2147483648 := hk _ (List.Mem.tail _ (List.Mem.tail _ (List.Mem.tail _ (List.Mem.head _))))
  clear hk
  have hf : fz_fr [(74, 99999), (75, 99999), (86, 99999), (87, 99999), (88, 99999)] h h := fz_fr_rf
  have k1 : 0 ≤ h 53 0 ∧ h 53 0 ≤ 8 := hI.1 53 _
  refine fz_iload_n kX11_judge rfl rfl ?_
  refine fz_callS (d' := 1) (M' := mX11_isShelf) (As := [fz_i s]) (st := []) kX11_judge rfl rfl vX11_isShelf rfl rfl (Nat.le_of_ble_eq_true rfl) (Nat.le_of_ble_eq_true rfl) (by decide) (sX11_isShelf h hI s ) (fun H2 r3 q4 o5 => ?_)
  obtain ⟨e6, y7, rfl, p8⟩ := q4
  subst H2
  clear o5
  rcases p8 with ⟨rfl, c9⟩ | ⟨rfl, c9⟩
  · refine fz_if_eq (tgt := 22) kX11_judge rfl (by decide) (fun c10 => ?_) (fun c10 => ?_)
    · exfalso; omega
    · refine fz_iload_n kX11_judge rfl rfl ?_
      refine fz_callS (d' := 1) (M' := mX11_isPerson) (As := [fz_i on]) (st := []) kX11_judge rfl rfl vX11_isPerson rfl rfl (Nat.le_of_ble_eq_true rfl) (Nat.le_of_ble_eq_true rfl) (by decide) (sX11_isPerson h hI on ) (fun H11 r12 q13 o14 => ?_)
      obtain ⟨e15, y16, rfl, p17⟩ := q13
      subst H11
      clear o14
      rcases p17 with ⟨rfl, c18⟩ | ⟨rfl, c18⟩
      · refine fz_if_eq (tgt := 22) kX11_judge rfl (by decide) (fun c19 => ?_) (fun c19 => ?_)
        · exfalso; omega
        · refine fz_aload_n kX11_judge rfl rfl ?_
          refine fz_iload_n kX11_judge rfl rfl ?_
          have b20 : 0 ≤ h 53 0 ∧ h 53 0 ≤ 8 := hI.1 53 _
          refine fz_callV (d' := 2) (M' := mX11_isWhen) (As := [fz_i th]) (st := []) kX11_judge rfl rfl vX11_isWhen rfl rfl rfl rfl (Nat.le_of_ble_eq_true rfl) (Nat.le_of_ble_eq_true rfl) (by decide) (sX11_isWhen h hI th ) (fun H21 r22 q23 o24 => ?_)
          obtain ⟨e25, y26, rfl, p27⟩ := q23
          subst H21
          clear o24
          rcases p27 with ⟨rfl, c28⟩ | ⟨rfl, c28⟩
          · refine fz_if_ne (tgt := 24) kX11_judge rfl (by decide) (fun c29 => ?_) (fun c29 => ?_)
            · refine fz_aload_n kX11_judge rfl rfl ?_
              refine fz_iload_n kX11_judge rfl rfl ?_
              refine fz_callV (d' := 0) (M' := mX11_noRow) (As := [fz_i s]) (st := []) kX11_judge rfl rfl vX11_noRow rfl rfl rfl rfl (Nat.le_of_ble_eq_true rfl) (Nat.le_of_ble_eq_true rfl) (by decide) (sX11_noRow h hI s (by omega)) (fun H30 r31 q32 o33 => ?_)
              obtain ⟨e34, y37, rfl, f35, f36⟩ := q32
              subst H30
              clear o33
              refine fz_istore (ls' := [(4, fz_i y37), (0, fz_r 53), (1, fz_i s), (2, fz_i on), (3, fz_i th)]) kX11_judge rfl (by decide) rfl ?_
              refine fz_iload kX11_judge rfl rfl ?_
              refine fz_if_ge (tgt := 39) kX11_judge rfl (by decide) (fun c38 => ?_) (fun c38 => ?_)
              · refine fz_aload_n kX11_judge rfl rfl ?_
                have b39 : 0 ≤ h 53 10 ∧ h 53 10 ≤ 11 := hI.1 53 _
                refine fz_callV (d' := 3) (M' := mX11_allHear) (As := []) (st := []) kX11_judge rfl rfl vX11_allHear rfl rfl rfl rfl (Nat.le_of_ble_eq_true rfl) (Nat.le_of_ble_eq_true rfl) (by decide) (sX11_allHear h hI  hRM hRPm) (fun H40 r41 q42 o43 => ?_)
                obtain ⟨hI44, hf45, hRM46, hRPm47, rfl, f48⟩ := q42
                clear o43
                have hf49 := fz_fr_tr hf hf45 (show fz_su [(86, 99999), (87, 99999), (88, 99999)] [(74, 99999), (75, 99999), (86, 99999), (87, 99999), (88, 99999)] = true from rfl)
                have hXw50 : fz_Xw H40 := fz_Xw_eq (hf45 53 19 rfl) (funext fun s => hf45 66 s rfl) (funext fun s => hf45 67 s rfl) (funext fun s => hf45 68 s rfl) (funext fun s => hf45 69 s rfl) hXw
                have t51 : H40 53 0 = h 53 0 := hf45 53 0 rfl
                have hHB52 : fl_HB H40 := fl_HB_of2 f48 (funext fun s => hf45 62 s rfl) (hf45 53 10 rfl) (hf45 53 0 rfl) (funext fun s => hf45 54 s rfl) (fun q => (hI44.1 54 q).1)
                have hHT54 : fl_HTh h H40 := f48
                refine fz_aload_n kX11_judge rfl rfl ?_
                refine fz_iload_n kX11_judge rfl rfl ?_
                refine fz_iload_n kX11_judge rfl rfl ?_
                refine fz_iload_n kX11_judge rfl rfl ?_
                refine fz_sipush ⟨by decide, by decide⟩ kX11_judge rfl ?_
                refine fz_idivN kX11_judge rfl (by omega) (by omega) (by omega) ?_
                refine fz_iload_n kX11_judge rfl rfl ?_
                refine fz_sipush ⟨by decide, by decide⟩ kX11_judge rfl ?_
                refine fz_iremN kX11_judge rfl (by omega) (by omega) (by omega) ?_
                have e56 : H40 53 0 = h 53 0 := hf49 53 0 rfl
                refine fz_callV (d' := 4) (M' := mX11_wrong) (As := [fz_i s, fz_i on, fz_i (th / 1000), fz_i (th % 1000)]) (st := []) kX11_judge rfl rfl vX11_wrong rfl rfl rfl rfl (Nat.le_of_ble_eq_true rfl) (Nat.le_of_ble_eq_true rfl) (by decide) (sX11_wrong H40 hI44 s on (th / 1000) (th % 1000) hXw50 hHB52 (by omega) (by omega) (by omega)) (fun H57 r58 q59 o60 => ?_)
                obtain ⟨hI61, hf62, hXw63, hHB64, y67, rfl, f65, f66⟩ := q59
                clear o60
                have hf68 := fz_fr_tr hf49 hf62 (show fz_su [(74, 99999), (75, 99999)] [(74, 99999), (75, 99999), (86, 99999), (87, 99999), (88, 99999)] = true from rfl)
                have hRM69 : fz_RM H57 := fz_RM_eq (funext fun s => hf62 55 s rfl) (funext fun s => hf62 56 s rfl) (hf62 53 0 rfl) (hf62 53 2 rfl) hRM46
                have hRPm70 : fl_RPm H57 := fl_RPm_eq (funext fun s => hf62 61 s rfl) (hf62 53 10 rfl) (hf62 53 0 rfl) hRPm47
                have hHT71 : fl_HTh h H57 := fl_HTh_eq (funext fun s => hf62 88 s rfl) hHT54
                have t72 : H57 53 0 = H40 53 0 := hf62 53 0 rfl
                exact fz_iret kX11_judge rfl rfl (fun _ => ⟨hI61, hf68, hXw63, hRM69, hRPm70, _, rfl, (by omega), (by first | exact Or.inl ⟨(by unfold fl_oJ; omega), rfl⟩ | exact Or.inr (Or.inl ⟨(by unfold fl_oJ; omega), by omega, by omega⟩) | exact Or.inr (Or.inr (Or.inl ⟨(by unfold fl_oJ; omega), by omega, by omega, by omega⟩)) | exact f36.elim (fun q => Or.inr (Or.inl ⟨(by unfold fl_oJ; omega), q.1, q.2⟩)) (fun q => q.elim (fun q => Or.inr (Or.inr (Or.inl ⟨(by unfold fl_oJ; omega), q.1, q.2.1, q.2.2⟩))) (fun q => absurd q.2 (by omega))) | exact Or.inr (Or.inr (Or.inr ⟨⟨(by unfold fl_oJ; omega), by omega⟩, fl_jf_e (congrFun (funext fun s => hf49 84 s rfl) _) (fun k k0 k1 => ⟨by unfold fl_gjM; rw [show H40 85 = h 85 from (funext fun s => hf49 85 s rfl)], fl_ST_fH hf49 rfl hHT54 ⟨by omega, by omega⟩⟩) f66⟩)))⟩)
              · refine fz_iload kX11_judge rfl rfl ?_
                exact fz_iret kX11_judge rfl rfl (fun _ => ⟨hI, hf, hXw, hRM, hRPm, _, rfl, (by omega), (by first | exact Or.inl ⟨(by unfold fl_oJ; omega), rfl⟩ | exact Or.inr (Or.inl ⟨(by unfold fl_oJ; omega), by omega, by omega⟩) | exact Or.inr (Or.inr (Or.inl ⟨(by unfold fl_oJ; omega), by omega, by omega, by omega⟩)) | exact f36.elim (fun q => Or.inr (Or.inl ⟨(by unfold fl_oJ; omega), q.1, q.2⟩)) (fun q => q.elim (fun q => Or.inr (Or.inr (Or.inl ⟨(by unfold fl_oJ; omega), q.1, q.2.1, q.2.2⟩))) (fun q => absurd q.2 (by omega))) | exact Or.inr (Or.inr (Or.inr ⟨⟨(by unfold fl_oJ; omega), by omega⟩, fl_jf_e (congrFun (funext fun s => lost 84 s rfl) _) (fun k k0 k1 => ⟨by unfold fl_gjM; rw [show lost 85 = h 85 from (funext fun s => lost 85 s rfl)], fl_ST_fH lost rfl lost ⟨by omega, by omega⟩⟩) lost⟩)))⟩)
            · exfalso; omega
          · refine fz_if_ne (tgt := 24) kX11_judge rfl (by decide) (fun c75 => ?_) (fun c75 => ?_)
            · exfalso; omega
            · refine fz_iconst ⟨by decide, by decide⟩ kX11_judge rfl ?_
              exact fz_iret kX11_judge rfl rfl (fun _ => ⟨hI, hf, hXw, hRM, hRPm, _, rfl, (by omega), (by first | exact Or.inl ⟨(by unfold fl_oJ; omega), rfl⟩ | exact Or.inr (Or.inl ⟨(by unfold fl_oJ; omega), by omega, by omega⟩) | exact Or.inr (Or.inr (Or.inl ⟨(by unfold fl_oJ; omega), by omega, by omega, by omega⟩)) | exact lost.elim (fun q => Or.inr (Or.inl ⟨(by unfold fl_oJ; omega), q.1, q.2⟩)) (fun q => q.elim (fun q => Or.inr (Or.inr (Or.inl ⟨(by unfold fl_oJ; omega), q.1, q.2.1, q.2.2⟩))) (fun q => absurd q.2 (by omega))) | exact Or.inr (Or.inr (Or.inr ⟨⟨(by unfold fl_oJ; omega), by omega⟩, fl_jf_e (congrFun (funext fun s => lost 84 s rfl) _) (fun k k0 k1 => ⟨by unfold fl_gjM; rw [show lost 85 = h 85 from (funext fun s => lost 85 s rfl)], fl_ST_fH lost rfl lost ⟨by omega, by omega⟩⟩) lost⟩)))⟩)
      · refine fz_if_eq (tgt := 22) kX11_judge rfl (by decide) (fun c77 => ?_) (fun c77 => ?_)
        · refine fz_iconst ⟨by decide, by decide⟩ kX11_judge rfl ?_
          exact fz_iret kX11_judge rfl rfl (fun _ => ⟨hI, hf, hXw, hRM, hRPm, _, rfl, (by omega), (by first | exact Or.inl ⟨(by unfold fl_oJ; omega), rfl⟩ | exact Or.inr (Or.inl ⟨(by unfold fl_oJ; omega), by omega, by omega⟩) | exact Or.inr (Or.inr (Or.inl ⟨(by unfold fl_oJ; omega), by omega, by omega, by omega⟩)) | exact lost.elim (fun q => Or.inr (Or.inl ⟨(by unfold fl_oJ; omega), q.1, q.2⟩)) (fun q => q.elim (fun q => Or.inr (Or.inr (Or.inl ⟨(by unfold fl_oJ; omega), q.1, q.2.1, q.2.2⟩))) (fun q => absurd q.2 (by omega))) | exact Or.inr (Or.inr (Or.inr ⟨⟨(by unfold fl_oJ; omega), by omega⟩, fl_jf_e (congrFun (funext fun s => lost 84 s rfl) _) (fun k k0 k1 => ⟨by unfold fl_gjM; rw [show lost 85 = h 85 from (funext fun s => lost 85 s rfl)], fl_ST_fH lost rfl lost ⟨by omega, by omega⟩⟩) lost⟩)))⟩)
        · exfalso; omega
  · refine fz_if_eq (tgt := 22) kX11_judge rfl (by decide) (fun c79 => ?_) (fun c79 => ?_)
    · refine fz_iconst ⟨by decide, by decide⟩ kX11_judge rfl ?_
      exact fz_iret kX11_judge rfl rfl (fun _ => ⟨hI, hf, hXw, hRM, hRPm, _, rfl, (by omega), (by first | exact Or.inl ⟨(by unfold fl_oJ; omega), rfl⟩ | exact Or.inr (Or.inl ⟨(by unfold fl_oJ; omega), by omega, by omega⟩) | exact Or.inr (Or.inr (Or.inl ⟨(by unfold fl_oJ; omega), by omega, by omega, by omega⟩)) | exact lost.elim (fun q => Or.inr (Or.inl ⟨(by unfold fl_oJ; omega), q.1, q.2⟩)) (fun q => q.elim (fun q => Or.inr (Or.inr (Or.inl ⟨(by unfold fl_oJ; omega), q.1, q.2.1, q.2.2⟩))) (fun q => absurd q.2 (by omega))) | exact Or.inr (Or.inr (Or.inr ⟨⟨(by unfold fl_oJ; omega), by omega⟩, fl_jf_e (congrFun (funext fun s => lost 84 s rfl) _) (fun k k0 k1 => ⟨by unfold fl_gjM; rw [show lost 85 = h 85 from (funext fun s => lost 85 s rfl)], fl_ST_fH lost rfl lost ⟨by omega, by omega⟩⟩) lost⟩)))⟩)
    · exfalso; omega

abbrev qX11_which (h : fz_H) (s on th wh : Int) : fz_H → Option fz_V → Prop := fun h' r0 => fz_Iv h' ∧ fz_fr [(60, 99999), (74, 99999), (75, 99999), (86, 99999), (87, 99999), (88, 99999)] h h' ∧ fz_Xw h' ∧ fz_RM h' ∧ fl_RPm h' ∧ ∃ r : Int, r0 = some (fz_i r) ∧ ((-2147483648) ≤ r ∧ r ≤ 2147483647) ∧ (h' 60 = h 60) ∧ (fl_whM h s on th wh r)
set_option maxHeartbeats 1000000 in
set_option maxRecDepth 100000 in
theorem sX11_which (h : fz_H) (hI : fz_Iv h) (s on th wh : Int) (hXw : fz_Xw h) (hRM : fz_RM h) (hRPm : fl_RPm h) : fz_R 5 mX11_which 0 [(0, fz_r 53), (1, fz_i s), (2, fz_i on), (3, fz_i th), (4, fz_i wh)] [] h (qX11_which h s on th wh) := by
  refine fz_knowl (fun hk => ?_)
  have hr_s : -2147483648 ≤ s ∧ s < 2147483648 := hk _ (List.Mem.tail _ (List.Mem.head _))
  have hr_on : -2147483648 ≤ on ∧ on < 2147483648 := hk _ (List.Mem.tail _ (List.Mem.tail _ (List.Mem.head _)))
  have hr_th : -2147483648 ≤ th ∧ th < 2147483648 := hk _ (List.Mem.tail _ (List.Mem.tail _ (List.Mem.tail _ (List.Mem.head _))))
  have hr_wh : -2147483648 ≤ wh ∧ wh < 2147483648 := hk _ (List.Mem.tail _ (List.Mem.tail _ (List.Mem.tail _ (List.Mem.tail _ (List.Mem.head _)))))
  clear hk
  have hf : fz_fr [(60, 99999), (74, 99999), (75, 99999), (86, 99999), (87, 99999), (88, 99999)] h h := fz_fr_rf
  have k1 : 0 ≤ h 53 0 ∧ h 53 0 ≤ 8 := hI.1 53 _
  have k2 : 0 ≤ h 53 10 ∧ h 53 10 ≤ 11 := hI.1 53 _
  refine fz_iload_n kX11_which rfl rfl ?_
  refine fz_callS (d' := 1) (M' := mX11_isShelf) (As := [fz_i s]) (st := []) kX11_which rfl rfl vX11_isShelf rfl rfl (Nat.le_of_ble_eq_true rfl) (Nat.le_of_ble_eq_true rfl) (by decide) (sX11_isShelf h hI s ) (fun H3 r4 q5 o6 => ?_)
  obtain ⟨e7, y8, rfl, p9⟩ := q5
  subst H3
  clear o6
  rcases p9 with ⟨rfl, c10⟩ | ⟨rfl, c10⟩
  · refine fz_if_eq (tgt := 32) kX11_which rfl (by decide) (fun c11 => ?_) (fun c11 => ?_)
    · exfalso; omega
    · refine fz_iload_n kX11_which rfl rfl ?_
      refine fz_callS (d' := 1) (M' := mX11_isPerson) (As := [fz_i on]) (st := []) kX11_which rfl rfl vX11_isPerson rfl rfl (Nat.le_of_ble_eq_true rfl) (Nat.le_of_ble_eq_true rfl) (by decide) (sX11_isPerson h hI on ) (fun H12 r13 q14 o15 => ?_)
      obtain ⟨e16, y17, rfl, p18⟩ := q14
      subst H12
      clear o15
      rcases p18 with ⟨rfl, c19⟩ | ⟨rfl, c19⟩
      · refine fz_if_eq (tgt := 32) kX11_which rfl (by decide) (fun c20 => ?_) (fun c20 => ?_)
        · exfalso; omega
        · refine fz_aload_n kX11_which rfl rfl ?_
          refine fz_iload_n kX11_which rfl rfl ?_
          have b21 : 0 ≤ h 53 0 ∧ h 53 0 ≤ 8 := hI.1 53 _
          refine fz_callV (d' := 2) (M' := mX11_isWhen) (As := [fz_i th]) (st := []) kX11_which rfl rfl vX11_isWhen rfl rfl rfl rfl (Nat.le_of_ble_eq_true rfl) (Nat.le_of_ble_eq_true rfl) (by decide) (sX11_isWhen h hI th ) (fun H22 r23 q24 o25 => ?_)
          obtain ⟨e26, y27, rfl, p28⟩ := q24
          subst H22
          clear o25
          rcases p28 with ⟨rfl, c29⟩ | ⟨rfl, c29⟩
          · refine fz_if_eq (tgt := 32) kX11_which rfl (by decide) (fun c30 => ?_) (fun c30 => ?_)
            · exfalso; omega
            · refine fz_iload kX11_which rfl rfl ?_
              refine fz_iconst ⟨by decide, by decide⟩ kX11_which rfl ?_
              refine fz_iconst ⟨by decide, by decide⟩ kX11_which rfl ?_
              refine fz_callS (d' := 0) (M' := mX11_within) (As := [fz_i wh, fz_i 0, fz_i 2]) (st := []) kX11_which rfl rfl vX11_within rfl rfl (Nat.le_of_ble_eq_true rfl) (Nat.le_of_ble_eq_true rfl) (by decide) (sX11_within h hI wh 0 2 ) (fun H31 r32 q33 o34 => ?_)
              obtain ⟨e35, y36, rfl, p37⟩ := q33
              subst H31
              clear o34
              rcases p37 with ⟨rfl, c38⟩ | ⟨rfl, c38⟩
              · refine fz_if_ne (tgt := 34) kX11_which rfl (by decide) (fun c39 => ?_) (fun c39 => ?_)
                · refine fz_aload_n kX11_which rfl rfl ?_
                  refine fz_iload_n kX11_which rfl rfl ?_
                  refine fz_callV (d' := 0) (M' := mX11_noRow) (As := [fz_i s]) (st := []) kX11_which rfl rfl vX11_noRow rfl rfl rfl rfl (Nat.le_of_ble_eq_true rfl) (Nat.le_of_ble_eq_true rfl) (by decide) (sX11_noRow h hI s (by omega)) (fun H40 r41 q42 o43 => ?_)
                  obtain ⟨e44, y47, rfl, f45, f46⟩ := q42
                  subst H40
                  clear o43
                  refine fz_istore (ls' := [(5, fz_i y47), (0, fz_r 53), (1, fz_i s), (2, fz_i on), (3, fz_i th), (4, fz_i wh)]) kX11_which rfl (by decide) rfl ?_
                  refine fz_iload kX11_which rfl rfl ?_
                  refine fz_if_ge (tgt := 49) kX11_which rfl (by decide) (fun c48 => ?_) (fun c48 => ?_)
                  · refine fz_aload_n kX11_which rfl rfl ?_
                    have b49 : 0 ≤ h 53 10 ∧ h 53 10 ≤ 11 := hI.1 53 _
                    refine fz_callV (d' := 3) (M' := mX11_allHear) (As := []) (st := []) kX11_which rfl rfl vX11_allHear rfl rfl rfl rfl (Nat.le_of_ble_eq_true rfl) (Nat.le_of_ble_eq_true rfl) (by decide) (sX11_allHear h hI  hRM hRPm) (fun H50 r51 q52 o53 => ?_)
                    obtain ⟨hI54, hf55, hRM56, hRPm57, rfl, f58⟩ := q52
                    clear o53
                    have hf59 := fz_fr_tr hf hf55 (show fz_su [(86, 99999), (87, 99999), (88, 99999)] [(60, 99999), (74, 99999), (75, 99999), (86, 99999), (87, 99999), (88, 99999)] = true from rfl)
                    have hXw60 : fz_Xw H50 := fz_Xw_eq (hf55 53 19 rfl) (funext fun s => hf55 66 s rfl) (funext fun s => hf55 67 s rfl) (funext fun s => hf55 68 s rfl) (funext fun s => hf55 69 s rfl) hXw
                    have t61 : H50 53 10 = h 53 10 := hf55 53 10 rfl
                    have t62 : H50 53 0 = h 53 0 := hf55 53 0 rfl
                    have hHB63 : fl_HB H50 := fl_HB_of2 f58 (funext fun s => hf55 62 s rfl) (hf55 53 10 rfl) (hf55 53 0 rfl) (funext fun s => hf55 54 s rfl) (fun q => (hI54.1 54 q).1)
                    have hHT65 : fl_HTh h H50 := f58
                    refine fz_aload_n kX11_which rfl rfl ?_
                    refine fz_iload_n kX11_which rfl rfl ?_
                    have e67 : H50 53 10 = h 53 10 := hf59 53 10 rfl
                    refine fz_callV (d' := 0) (M' := mX11_deedsOf) (As := [fz_i on]) (st := []) kX11_which rfl rfl vX11_deedsOf rfl rfl rfl rfl (Nat.le_of_ble_eq_true rfl) (Nat.le_of_ble_eq_true rfl) (by decide) (sX11_deedsOf H50 hI54 on ) (fun H68 r69 q70 o71 => ?_)
                    obtain ⟨e72, y76, rfl, f73, f74, f75⟩ := q70
                    subst H68
                    clear o71
                    have k77 : fl_own (h 60) on y76 (h 53 10) := ⟨⟨by omega, by omega⟩, by have z := f75; rw [show H50 60 = h 60 from (funext fun z => hf55 60 z rfl), show H50 53 10 = h 53 10 from (hf55 53 10 rfl)] at z; exact z⟩
                    refine fz_istore (ls' := [(6, fz_i y76), (5, fz_i y47), (0, fz_r 53), (1, fz_i s), (2, fz_i on), (3, fz_i th), (4, fz_i wh)]) kX11_which rfl (by decide) rfl ?_
                    refine fz_iconst ⟨by decide, by decide⟩ kX11_which rfl ?_
                    refine fz_istore (ls' := [(7, fz_i 0), (6, fz_i y76), (5, fz_i y47), (0, fz_r 53), (1, fz_i s), (2, fz_i on), (3, fz_i th), (4, fz_i wh)]) kX11_which rfl (by decide) rfl ?_
                    refine fz_bipush ⟨by decide, by decide⟩ kX11_which rfl ?_
                    refine fz_istore (ls' := [(8, fz_i (-2)), (7, fz_i 0), (6, fz_i y76), (5, fz_i y47), (0, fz_r 53), (1, fz_i s), (2, fz_i on), (3, fz_i th), (4, fz_i wh)]) kX11_which rfl (by decide) rfl ?_
                    refine fz_iload kX11_which rfl rfl ?_
                    refine fz_istore (ls' := [(9, fz_i y76), (8, fz_i (-2)), (7, fz_i 0), (6, fz_i y76), (5, fz_i y47), (0, fz_r 53), (1, fz_i s), (2, fz_i on), (3, fz_i th), (4, fz_i wh)]) kX11_which rfl (by decide) rfl ?_
                    refine fz_iload kX11_which rfl rfl ?_
                    refine fz_istore (ls' := [(10, fz_i y76), (9, fz_i y76), (8, fz_i (-2)), (7, fz_i 0), (6, fz_i y76), (5, fz_i y47), (0, fz_r 53), (1, fz_i s), (2, fz_i on), (3, fz_i th), (4, fz_i wh)]) kX11_which rfl (by decide) rfl ?_
                    have lp92 : ∀ (n91 : Nat) (x79 : Int) (x80 : Int) (x81 : Int) (x82 : Int) (H88 : fz_H), fz_Iv H88 → fz_fr [(60, 99999), (74, 99999), (75, 99999), (86, 99999), (87, 99999), (88, 99999)] h H88 → fz_Xw H88 → fz_RM H88 → fl_RPm H88 → fl_HB H88 → fl_HTh h H88 → ((-1) ≤ x79 ∧ x79 ≤ 2047) → ((-2147483648) ≤ x80 ∧ x80 ≤ 2147483647) → ((-2147483648) ≤ x81 ∧ x81 ≤ 2147483647) → (0 ≤ x82 ∧ x82 ≤ 2048) → (x82 + x79 ≤ 2047) → (H88 53 10 = h 53 10) → (x79 ≤ y76) → (H88 60 = h 60) → (fl_mI (fl_QM h s on (th / 1000) (th % 1000) y76) y76 x79 x82 x81 x80) → (x79 + 1 - 0).toNat < n91 → fz_R 5 mX11_which 75 [(10, fz_i x79), (9, fz_i x80), (8, fz_i x81), (7, fz_i x82), (6, fz_i y76), (5, fz_i y47), (0, fz_r 53), (1, fz_i s), (2, fz_i on), (3, fz_i th), (4, fz_i wh)] [] H88 (qX11_which h s on th wh) := by
                      intro n91
                      induction n91 with
                      | zero => intro x79 x80 x81 x82 H88 hI89 hf90 hXw83 hRM84 hRPm85 hHB86 hHT87 hv95 hv96 hv97 hv98 hv99 hv100 hv101 hv102 hv103 hm94; exact absurd hm94 (by omega)
                      | succ n91 ih93 =>
                        intro x79 x80 x81 x82 H88 hI89 hf90 hXw83 hRM84 hRPm85 hHB86 hHT87 hv95 hv96 hv97 hv98 hv99 hv100 hv101 hv102 hv103 hm94
                        refine fz_iload kX11_which rfl rfl ?_
                        refine fz_if_lt (tgt := 169) kX11_which rfl (by decide) (fun c104 => ?_) (fun c104 => ?_)
                        · refine fz_iload kX11_which rfl rfl ?_
                          refine fz_if_ne (tgt := 179) kX11_which rfl (by decide) (fun c105 => ?_) (fun c105 => ?_)
                          · refine fz_iload kX11_which rfl rfl ?_
                            refine fz_iconst ⟨by decide, by decide⟩ kX11_which rfl ?_
                            refine fz_icmp_eq (tgt := 190) kX11_which rfl (by decide) (fun c106 => ?_) (fun c106 => ?_)
                            · refine fz_iload kX11_which rfl rfl ?_
                              refine fz_goto (tgt := 197) kX11_which rfl (by decide) ?_
                              exact fz_iret kX11_which rfl rfl (fun _ => ⟨hI89, hf90, hXw83, hRM84, hRPm85, _, rfl, (by omega), (by first | exact hv102 | rfl), (by first | exact Or.inl ⟨(fun z => by have a := z.1; have b := z.2; unfold fl_oJ at a; omega), rfl⟩ | exact Or.inr (Or.inl ⟨⟨(by unfold fl_oJ; omega), by omega⟩, by omega, by omega⟩) | exact Or.inr (Or.inr (Or.inl ⟨⟨(by unfold fl_oJ; omega), by omega⟩, by omega, by omega, by omega⟩)) | exact f46.elim (fun q => Or.inr (Or.inl ⟨⟨(by unfold fl_oJ; omega), by omega⟩, q.1, q.2⟩)) (fun q => q.elim (fun q => Or.inr (Or.inr (Or.inl ⟨⟨(by unfold fl_oJ; omega), by omega⟩, q.1, q.2.1, q.2.2⟩))) (fun q => absurd q.2 (by omega))) | exact Or.inr (Or.inr (Or.inr ⟨⟨⟨(by unfold fl_oJ; omega), by omega⟩, by omega⟩, y76, _, _, _, k77, fl_mI_e hv103 (by omega), fl_mx3_0 (by omega)⟩)) | exact Or.inr (Or.inr (Or.inr ⟨⟨⟨(by unfold fl_oJ; omega), by omega⟩, by omega⟩, y76, _, _, _, k77, fl_mI_e hv103 (by omega), fl_mx3_1 (by omega) (by omega)⟩)) | exact Or.inr (Or.inr (Or.inr ⟨⟨⟨(by unfold fl_oJ; omega), by omega⟩, by omega⟩, y76, _, _, _, k77, fl_mI_e hv103 (by omega), fl_mx3_2 (by omega) (by omega)⟩)))⟩)
                            · refine fz_iload kX11_which rfl rfl ?_
                              refine fz_if_ne (tgt := 195) kX11_which rfl (by decide) (fun c109 => ?_) (fun c109 => ?_)
                              · refine fz_iload kX11_which rfl rfl ?_
                                exact fz_iret kX11_which rfl rfl (fun _ => ⟨hI89, hf90, hXw83, hRM84, hRPm85, _, rfl, (by omega), (by first | exact hv102 | rfl), (by first | exact Or.inl ⟨(fun z => by have a := z.1; have b := z.2; unfold fl_oJ at a; omega), rfl⟩ | exact Or.inr (Or.inl ⟨⟨(by unfold fl_oJ; omega), by omega⟩, by omega, by omega⟩) | exact Or.inr (Or.inr (Or.inl ⟨⟨(by unfold fl_oJ; omega), by omega⟩, by omega, by omega, by omega⟩)) | exact f46.elim (fun q => Or.inr (Or.inl ⟨⟨(by unfold fl_oJ; omega), by omega⟩, q.1, q.2⟩)) (fun q => q.elim (fun q => Or.inr (Or.inr (Or.inl ⟨⟨(by unfold fl_oJ; omega), by omega⟩, q.1, q.2.1, q.2.2⟩))) (fun q => absurd q.2 (by omega))) | exact Or.inr (Or.inr (Or.inr ⟨⟨⟨(by unfold fl_oJ; omega), by omega⟩, by omega⟩, y76, _, _, _, k77, fl_mI_e hv103 (by omega), fl_mx3_0 (by omega)⟩)) | exact Or.inr (Or.inr (Or.inr ⟨⟨⟨(by unfold fl_oJ; omega), by omega⟩, by omega⟩, y76, _, _, _, k77, fl_mI_e hv103 (by omega), fl_mx3_1 (by omega) (by omega)⟩)) | exact Or.inr (Or.inr (Or.inr ⟨⟨⟨(by unfold fl_oJ; omega), by omega⟩, by omega⟩, y76, _, _, _, k77, fl_mI_e hv103 (by omega), fl_mx3_2 (by omega) (by omega)⟩)))⟩)
                              · refine fz_iload kX11_which rfl rfl ?_
                                refine fz_goto (tgt := 197) kX11_which rfl (by decide) ?_
                                exact fz_iret kX11_which rfl rfl (fun _ => ⟨hI89, hf90, hXw83, hRM84, hRPm85, _, rfl, (by omega), (by first | exact hv102 | rfl), (by first | exact Or.inl ⟨(fun z => by have a := z.1; have b := z.2; unfold fl_oJ at a; omega), rfl⟩ | exact Or.inr (Or.inl ⟨⟨(by unfold fl_oJ; omega), by omega⟩, by omega, by omega⟩) | exact Or.inr (Or.inr (Or.inl ⟨⟨(by unfold fl_oJ; omega), by omega⟩, by omega, by omega, by omega⟩)) | exact f46.elim (fun q => Or.inr (Or.inl ⟨⟨(by unfold fl_oJ; omega), by omega⟩, q.1, q.2⟩)) (fun q => q.elim (fun q => Or.inr (Or.inr (Or.inl ⟨⟨(by unfold fl_oJ; omega), by omega⟩, q.1, q.2.1, q.2.2⟩))) (fun q => absurd q.2 (by omega))) | exact Or.inr (Or.inr (Or.inr ⟨⟨⟨(by unfold fl_oJ; omega), by omega⟩, by omega⟩, y76, _, _, _, k77, fl_mI_e hv103 (by omega), fl_mx3_0 (by omega)⟩)) | exact Or.inr (Or.inr (Or.inr ⟨⟨⟨(by unfold fl_oJ; omega), by omega⟩, by omega⟩, y76, _, _, _, k77, fl_mI_e hv103 (by omega), fl_mx3_1 (by omega) (by omega)⟩)) | exact Or.inr (Or.inr (Or.inr ⟨⟨⟨(by unfold fl_oJ; omega), by omega⟩, by omega⟩, y76, _, _, _, k77, fl_mI_e hv103 (by omega), fl_mx3_2 (by omega) (by omega)⟩)))⟩)
                          · refine fz_iload kX11_which rfl rfl ?_
                            refine fz_goto (tgt := 197) kX11_which rfl (by decide) ?_
                            exact fz_iret kX11_which rfl rfl (fun _ => ⟨hI89, hf90, hXw83, hRM84, hRPm85, _, rfl, (by omega), (by first | exact hv102 | rfl), (by first | exact Or.inl ⟨(fun z => by have a := z.1; have b := z.2; unfold fl_oJ at a; omega), rfl⟩ | exact Or.inr (Or.inl ⟨⟨(by unfold fl_oJ; omega), by omega⟩, by omega, by omega⟩) | exact Or.inr (Or.inr (Or.inl ⟨⟨(by unfold fl_oJ; omega), by omega⟩, by omega, by omega, by omega⟩)) | exact f46.elim (fun q => Or.inr (Or.inl ⟨⟨(by unfold fl_oJ; omega), by omega⟩, q.1, q.2⟩)) (fun q => q.elim (fun q => Or.inr (Or.inr (Or.inl ⟨⟨(by unfold fl_oJ; omega), by omega⟩, q.1, q.2.1, q.2.2⟩))) (fun q => absurd q.2 (by omega))) | exact Or.inr (Or.inr (Or.inr ⟨⟨⟨(by unfold fl_oJ; omega), by omega⟩, by omega⟩, y76, _, _, _, k77, fl_mI_e hv103 (by omega), fl_mx3_0 (by omega)⟩)) | exact Or.inr (Or.inr (Or.inr ⟨⟨⟨(by unfold fl_oJ; omega), by omega⟩, by omega⟩, y76, _, _, _, k77, fl_mI_e hv103 (by omega), fl_mx3_1 (by omega) (by omega)⟩)) | exact Or.inr (Or.inr (Or.inr ⟨⟨⟨(by unfold fl_oJ; omega), by omega⟩, by omega⟩, y76, _, _, _, k77, fl_mI_e hv103 (by omega), fl_mx3_2 (by omega) (by omega)⟩)))⟩)
                        · refine fz_iload kX11_which rfl rfl ?_
                          refine fz_iload kX11_which rfl rfl ?_
                          refine fz_iconst ⟨by decide, by decide⟩ kX11_which rfl ?_
                          refine fz_ixor kX11_which rfl ?_
                          have b116 : -2147483648 ≤ (fz_xor y76 (-1)) ∧ (fz_xor y76 (-1)) < 2147483648 := fz_b32 _
                          refine fz_iand kX11_which rfl ?_
                          have b117 : -2147483648 ≤ (fz_and x79 (fz_xor y76 (-1))) ∧ (fz_and x79 (fz_xor y76 (-1))) < 2147483648 := fz_b32 _
                          refine fz_if_eq (tgt := 93) kX11_which rfl (by decide) (fun c118 => ?_) (fun c118 => ?_)
                          · refine fz_aload_n kX11_which rfl rfl ?_
                            refine fz_iload kX11_which rfl rfl ?_
                            refine fz_iload kX11_which rfl rfl ?_
                            refine fz_iconst ⟨by decide, by decide⟩ kX11_which rfl ?_
                            refine fz_ixor kX11_which rfl ?_
                            have b119 : -2147483648 ≤ (fz_xor x79 (-1)) ∧ (fz_xor x79 (-1)) < 2147483648 := fz_b32 _
                            refine fz_iand kX11_which rfl ?_
                            have b120 : -2147483648 ≤ (fz_and y76 (fz_xor x79 (-1))) ∧ (fz_and y76 (fz_xor x79 (-1))) < 2147483648 := fz_b32 _
                            refine fz_bipush ⟨by decide, by decide⟩ kX11_which rfl ?_
                            have b121 : 0 ≤ h 53 10 ∧ h 53 10 ≤ 11 := hI.1 53 _
                            have e122 : H88 53 10 = h 53 10 := hf90 53 10 rfl
                            refine fz_callV (d' := 0) (M' := mX11_forgets) (As := [fz_i (fz_and y76 (fz_xor x79 (-1))), fz_i (-2)]) (st := []) kX11_which rfl rfl vX11_forgets rfl rfl rfl rfl (Nat.le_of_ble_eq_true rfl) (Nat.le_of_ble_eq_true rfl) (by decide) (sX11_forgets H88 hI89 (fz_and y76 (fz_xor x79 (-1))) (-2) ) (fun H123 r124 q125 o126 => ?_)
                            obtain ⟨hI127, hf128, rfl, f129⟩ := q125
                            clear o126
                            have hf130 := fz_fr_tr hf90 hf128 (show fz_su [(60, 99999)] [(60, 99999), (74, 99999), (75, 99999), (86, 99999), (87, 99999), (88, 99999)] = true from rfl)
                            have hXw131 : fz_Xw H123 := fz_Xw_eq (hf128 53 19 rfl) (funext fun s => hf128 66 s rfl) (funext fun s => hf128 67 s rfl) (funext fun s => hf128 68 s rfl) (funext fun s => hf128 69 s rfl) hXw83
                            have hRM132 : fz_RM H123 := fz_RM_eq (funext fun s => hf128 55 s rfl) (funext fun s => hf128 56 s rfl) (hf128 53 0 rfl) (hf128 53 2 rfl) hRM84
                            have hRPm133 : fl_RPm H123 := fl_RPm_eq (funext fun s => hf128 61 s rfl) (hf128 53 10 rfl) (hf128 53 0 rfl) hRPm85
                            have hHB134 : fl_HB H123 := fl_HB_eq (funext fun s => hf128 88 s rfl) (funext fun s => hf128 62 s rfl) (hf128 53 10 rfl) (hf128 53 0 rfl) hHB86
                            have hHT135 : fl_HTh h H123 := fl_HTh_eq (funext fun s => hf128 88 s rfl) hHT87
                            have t136 : H123 53 10 = H88 53 10 := hf128 53 10 rfl
                            have t137 : H123 53 0 = H88 53 0 := hf128 53 0 rfl
                            refine fz_aload_n kX11_which rfl rfl ?_
                            refine fz_iload_n kX11_which rfl rfl ?_
                            refine fz_iload_n kX11_which rfl rfl ?_
                            refine fz_iload_n kX11_which rfl rfl ?_
                            refine fz_sipush ⟨by decide, by decide⟩ kX11_which rfl ?_
                            refine fz_idivN kX11_which rfl (by omega) (by omega) (by omega) ?_
                            refine fz_iload_n kX11_which rfl rfl ?_
                            refine fz_sipush ⟨by decide, by decide⟩ kX11_which rfl ?_
                            refine fz_iremN kX11_which rfl (by omega) (by omega) (by omega) ?_
                            have b138 : 0 ≤ h 53 0 ∧ h 53 0 ≤ 8 := hI.1 53 _
                            have e139 : H123 53 0 = h 53 0 := hf130 53 0 rfl
                            refine fz_callV (d' := 4) (M' := mX11_wrong) (As := [fz_i s, fz_i on, fz_i (th / 1000), fz_i (th % 1000)]) (st := []) kX11_which rfl rfl vX11_wrong rfl rfl rfl rfl (Nat.le_of_ble_eq_true rfl) (Nat.le_of_ble_eq_true rfl) (by decide) (sX11_wrong H123 hI127 s on (th / 1000) (th % 1000) hXw131 hHB134 (by omega) (by omega) (by omega)) (fun H140 r141 q142 o143 => ?_)
                            obtain ⟨hI144, hf145, hXw146, hHB147, y150, rfl, f148, f149⟩ := q142
                            clear o143
                            have hf151 := fz_fr_tr hf130 hf145 (show fz_su [(74, 99999), (75, 99999)] [(60, 99999), (74, 99999), (75, 99999), (86, 99999), (87, 99999), (88, 99999)] = true from rfl)
                            have hRM152 : fz_RM H140 := fz_RM_eq (funext fun s => hf145 55 s rfl) (funext fun s => hf145 56 s rfl) (hf145 53 0 rfl) (hf145 53 2 rfl) hRM132
                            have hRPm153 : fl_RPm H140 := fl_RPm_eq (funext fun s => hf145 61 s rfl) (hf145 53 10 rfl) (hf145 53 0 rfl) hRPm133
                            have hHT154 : fl_HTh h H140 := fl_HTh_eq (funext fun s => hf145 88 s rfl) hHT135
                            have t155 : H140 53 10 = H123 53 10 := hf145 53 10 rfl
                            have t156 : H140 53 0 = H123 53 0 := hf145 53 0 rfl
                            have k157 : y150 = -2 ↔ fl_QM h s on (th / 1000) (th % 1000) y76 x79 := fl_QM_y hf130 rfl f129 hv102 (by omega) (by omega) (by omega) k77 ⟨by omega, by omega⟩ (by omega) hHT135 ⟨by omega, by omega⟩ (funext fun z => hf130 85 z rfl) (funext fun z => hf130 84 z rfl) f149
                            refine fz_bipush ⟨by decide, by decide⟩ kX11_which rfl ?_
                            refine fz_icmp_ne (tgt := 131) kX11_which rfl (by decide) (fun c159 => ?_) (fun c159 => ?_)
                            · refine fz_iconst ⟨by decide, by decide⟩ kX11_which rfl ?_
                              refine fz_istore (ls' := [(11, fz_i 0), (10, fz_i x79), (9, fz_i x80), (8, fz_i x81), (7, fz_i x82), (6, fz_i y76), (5, fz_i y47), (0, fz_r 53), (1, fz_i s), (2, fz_i on), (3, fz_i th), (4, fz_i wh)]) kX11_which rfl (by decide) rfl ?_
                              refine fz_aload_n kX11_which rfl rfl ?_
                              refine fz_iload kX11_which rfl rfl ?_
                              refine fz_iload_n kX11_which rfl rfl ?_
                              have e160 : H140 53 10 = h 53 10 := hf151 53 10 rfl
                              refine fz_callV (d' := 0) (M' := mX11_forgets) (As := [fz_i y76, fz_i on]) (st := []) kX11_which rfl rfl vX11_forgets rfl rfl rfl rfl (Nat.le_of_ble_eq_true rfl) (Nat.le_of_ble_eq_true rfl) (by decide) (sX11_forgets H140 hI144 y76 on ) (fun H161 r162 q163 o164 => ?_)
                              obtain ⟨hI165, hf166, rfl, f167⟩ := q163
                              clear o164
                              have hf168 := fz_fr_tr hf151 hf166 (show fz_su [(60, 99999)] [(60, 99999), (74, 99999), (75, 99999), (86, 99999), (87, 99999), (88, 99999)] = true from rfl)
                              have hXw169 : fz_Xw H161 := fz_Xw_eq (hf166 53 19 rfl) (funext fun s => hf166 66 s rfl) (funext fun s => hf166 67 s rfl) (funext fun s => hf166 68 s rfl) (funext fun s => hf166 69 s rfl) hXw146
                              have hRM170 : fz_RM H161 := fz_RM_eq (funext fun s => hf166 55 s rfl) (funext fun s => hf166 56 s rfl) (hf166 53 0 rfl) (hf166 53 2 rfl) hRM152
                              have hRPm171 : fl_RPm H161 := fl_RPm_eq (funext fun s => hf166 61 s rfl) (hf166 53 10 rfl) (hf166 53 0 rfl) hRPm153
                              have hHB172 : fl_HB H161 := fl_HB_eq (funext fun s => hf166 88 s rfl) (funext fun s => hf166 62 s rfl) (hf166 53 10 rfl) (hf166 53 0 rfl) hHB147
                              have hHT173 : fl_HTh h H161 := fl_HTh_eq (funext fun s => hf166 88 s rfl) hHT154
                              have t174 : H161 53 10 = H140 53 10 := hf166 53 10 rfl
                              have t175 : H161 53 0 = H140 53 0 := hf166 53 0 rfl
                              refine fz_iload kX11_which rfl rfl ?_
                              refine fz_if_ne (tgt := 149) kX11_which rfl (by decide) (fun c176 => ?_) (fun c176 => ?_)
                              · exfalso; omega
                              · refine fz_goto (tgt := 163) kX11_which rfl (by decide) ?_
                                refine fz_iincN (ls' := [(10, fz_i (x79 + (-1))), (11, fz_i 0), (9, fz_i x80), (8, fz_i x81), (7, fz_i x82), (6, fz_i y76), (5, fz_i y47), (0, fz_r 53), (1, fz_i s), (2, fz_i on), (3, fz_i th), (4, fz_i wh)]) kX11_which rfl (by decide) rfl (by omega) rfl ?_
                                refine fz_goto (tgt := 75) kX11_which rfl (by decide) ?_
                                refine fz_sub (fz_pk_sub (ls' := [(10, fz_i (x79 + (-1))), (9, fz_i x80), (8, fz_i x81), (7, fz_i x82), (6, fz_i y76), (5, fz_i y47), (0, fz_r 53), (1, fz_i s), (2, fz_i on), (3, fz_i th), (4, fz_i wh)]) [0, 2, 3, 4, 5, 6, 7, 8, 9, 10, 11] rfl) ?_
                                exact ih93 (x79 + (-1)) x80 x81 x82 H161 hI165 hf168 hXw169 hRM170 hRPm171 hHB172 hHT173 (by omega) (by omega) (by omega) (by omega) (by omega) (by omega) (by omega) (by first | exact fz_fg_back hv102 f129 (funext fun s => hf145 60 s rfl) f167 (funext fun s => hf55 60 s rfl) f75 (by omega) (by omega) (by omega) (fun _ _ z => fz_bt_l z) (fun _ _ z => z) | exact hv102) (by first | exact fl_mI_n hv103 (by omega) (fl_QM_n (by omega)) (by omega) | exact fl_mI_n hv103 (by omega) (fun q => by have z := k157.mpr q; omega) (by omega) | exact fl_mI_y hv103 ⟨by omega, by omega, by omega⟩ (k157.mp (by omega)) (by omega) (by omega)) (by omega)
                            · refine fz_iconst ⟨by decide, by decide⟩ kX11_which rfl ?_
                              refine fz_goto (tgt := 132) kX11_which rfl (by decide) ?_
                              refine fz_istore (ls' := [(11, fz_i 1), (10, fz_i x79), (9, fz_i x80), (8, fz_i x81), (7, fz_i x82), (6, fz_i y76), (5, fz_i y47), (0, fz_r 53), (1, fz_i s), (2, fz_i on), (3, fz_i th), (4, fz_i wh)]) kX11_which rfl (by decide) rfl ?_
                              refine fz_aload_n kX11_which rfl rfl ?_
                              refine fz_iload kX11_which rfl rfl ?_
                              refine fz_iload_n kX11_which rfl rfl ?_
                              have e179 : H140 53 10 = h 53 10 := hf151 53 10 rfl
                              refine fz_callV (d' := 0) (M' := mX11_forgets) (As := [fz_i y76, fz_i on]) (st := []) kX11_which rfl rfl vX11_forgets rfl rfl rfl rfl (Nat.le_of_ble_eq_true rfl) (Nat.le_of_ble_eq_true rfl) (by decide) (sX11_forgets H140 hI144 y76 on ) (fun H180 r181 q182 o183 => ?_)
                              obtain ⟨hI184, hf185, rfl, f186⟩ := q182
                              clear o183
                              have hf187 := fz_fr_tr hf151 hf185 (show fz_su [(60, 99999)] [(60, 99999), (74, 99999), (75, 99999), (86, 99999), (87, 99999), (88, 99999)] = true from rfl)
                              have hXw188 : fz_Xw H180 := fz_Xw_eq (hf185 53 19 rfl) (funext fun s => hf185 66 s rfl) (funext fun s => hf185 67 s rfl) (funext fun s => hf185 68 s rfl) (funext fun s => hf185 69 s rfl) hXw146
                              have hRM189 : fz_RM H180 := fz_RM_eq (funext fun s => hf185 55 s rfl) (funext fun s => hf185 56 s rfl) (hf185 53 0 rfl) (hf185 53 2 rfl) hRM152
                              have hRPm190 : fl_RPm H180 := fl_RPm_eq (funext fun s => hf185 61 s rfl) (hf185 53 10 rfl) (hf185 53 0 rfl) hRPm153
                              have hHB191 : fl_HB H180 := fl_HB_eq (funext fun s => hf185 88 s rfl) (funext fun s => hf185 62 s rfl) (hf185 53 10 rfl) (hf185 53 0 rfl) hHB147
                              have hHT192 : fl_HTh h H180 := fl_HTh_eq (funext fun s => hf185 88 s rfl) hHT154
                              have t193 : H180 53 10 = H140 53 10 := hf185 53 10 rfl
                              have t194 : H180 53 0 = H140 53 0 := hf185 53 0 rfl
                              refine fz_iload kX11_which rfl rfl ?_
                              refine fz_if_ne (tgt := 149) kX11_which rfl (by decide) (fun c195 => ?_) (fun c195 => ?_)
                              · refine fz_iincN (ls' := [(7, fz_i (x82 + 1)), (11, fz_i 1), (10, fz_i x79), (9, fz_i x80), (8, fz_i x81), (6, fz_i y76), (5, fz_i y47), (0, fz_r 53), (1, fz_i s), (2, fz_i on), (3, fz_i th), (4, fz_i wh)]) kX11_which rfl (by decide) rfl (by omega) rfl ?_
                                refine fz_iload kX11_which rfl rfl ?_
                                refine fz_istore (ls' := [(8, fz_i x79), (7, fz_i (x82 + 1)), (11, fz_i 1), (10, fz_i x79), (9, fz_i x80), (6, fz_i y76), (5, fz_i y47), (0, fz_r 53), (1, fz_i s), (2, fz_i on), (3, fz_i th), (4, fz_i wh)]) kX11_which rfl (by decide) rfl ?_
                                refine fz_iload kX11_which rfl rfl ?_
                                refine fz_iload kX11_which rfl rfl ?_
                                refine fz_iand kX11_which rfl ?_
                                have b196 : -2147483648 ≤ (fz_and x80 x79) ∧ (fz_and x80 x79) < 2147483648 := fz_b32 _
                                refine fz_istore (ls' := [(9, fz_i (fz_and x80 x79)), (8, fz_i x79), (7, fz_i (x82 + 1)), (11, fz_i 1), (10, fz_i x79), (6, fz_i y76), (5, fz_i y47), (0, fz_r 53), (1, fz_i s), (2, fz_i on), (3, fz_i th), (4, fz_i wh)]) kX11_which rfl (by decide) rfl ?_
                                refine fz_iincN (ls' := [(10, fz_i (x79 + (-1))), (9, fz_i (fz_and x80 x79)), (8, fz_i x79), (7, fz_i (x82 + 1)), (11, fz_i 1), (6, fz_i y76), (5, fz_i y47), (0, fz_r 53), (1, fz_i s), (2, fz_i on), (3, fz_i th), (4, fz_i wh)]) kX11_which rfl (by decide) rfl (by omega) rfl ?_
                                refine fz_goto (tgt := 75) kX11_which rfl (by decide) ?_
                                refine fz_sub (fz_pk_sub (ls' := [(10, fz_i (x79 + (-1))), (9, fz_i (fz_and x80 x79)), (8, fz_i x79), (7, fz_i (x82 + 1)), (6, fz_i y76), (5, fz_i y47), (0, fz_r 53), (1, fz_i s), (2, fz_i on), (3, fz_i th), (4, fz_i wh)]) [0, 1, 2, 3, 5, 6, 7, 8, 9, 10, 11] rfl) ?_
                                exact ih93 (x79 + (-1)) (fz_and x80 x79) x79 (x82 + 1) H180 hI184 hf187 hXw188 hRM189 hRPm190 hHB191 hHT192 (by omega) (by omega) (by omega) (by omega) (by omega) (by omega) (by omega) (by first | exact fz_fg_back hv102 f129 (funext fun s => hf145 60 s rfl) f186 (funext fun s => hf55 60 s rfl) f75 (by omega) (by omega) (by omega) (fun _ _ z => fz_bt_l z) (fun _ _ z => z) | exact hv102) (by first | exact fl_mI_n hv103 (by omega) (fl_QM_n (by omega)) (by omega) | exact fl_mI_n hv103 (by omega) (fun q => by have z := k157.mpr q; omega) (by omega) | exact fl_mI_y hv103 ⟨by omega, by omega, by omega⟩ (k157.mp (by omega)) (by omega) (by omega)) (by omega)
                              · exfalso; omega
                          · refine fz_goto (tgt := 163) kX11_which rfl (by decide) ?_
                            refine fz_iincN (ls' := [(10, fz_i (x79 + (-1))), (9, fz_i x80), (8, fz_i x81), (7, fz_i x82), (6, fz_i y76), (5, fz_i y47), (0, fz_r 53), (1, fz_i s), (2, fz_i on), (3, fz_i th), (4, fz_i wh)]) kX11_which rfl (by decide) rfl (by omega) rfl ?_
                            refine fz_goto (tgt := 75) kX11_which rfl (by decide) ?_
                            exact ih93 (x79 + (-1)) x80 x81 x82 H88 hI89 hf90 hXw83 hRM84 hRPm85 hHB86 hHT87 (by omega) (by omega) (by omega) (by omega) (by omega) (by omega) (by omega) (by first | exact fz_fg_back hv102 lost (funext fun s => lost 60 s rfl) lost (funext fun s => hf55 60 s rfl) f75 (by omega) (by omega) (by omega) (fun _ _ z => fz_bt_l z) (fun _ _ z => z) | exact hv102) (by first | exact fl_mI_n hv103 (by omega) (fl_QM_n (by omega)) (by omega) | exact fl_mI_n hv103 (by omega) (fun q => by have z := lost.mpr q; omega) (by omega) | exact fl_mI_y hv103 ⟨by omega, by omega, by omega⟩ (lost.mp (by omega)) (by omega) (by omega)) (by omega)
                    exact lp92 _ y76 y76 (-2) 0 H50 hI54 hf59 hXw60 hRM56 hRPm57 hHB63 hHT65 (by omega) (by omega) (by omega) (by omega) (by omega) (by omega) (by omega) ((funext fun s => hf55 60 s rfl)) (fl_mI_0 ⟨by omega, by omega⟩) (Nat.lt_succ_self _)
                  · refine fz_iload kX11_which rfl rfl ?_
                    exact fz_iret kX11_which rfl rfl (fun _ => ⟨hI, hf, hXw, hRM, hRPm, _, rfl, (by omega), (by first | exact lost | rfl), (by first | exact Or.inl ⟨(fun z => by have a := z.1; have b := z.2; unfold fl_oJ at a; omega), rfl⟩ | exact Or.inr (Or.inl ⟨⟨(by unfold fl_oJ; omega), by omega⟩, by omega, by omega⟩) | exact Or.inr (Or.inr (Or.inl ⟨⟨(by unfold fl_oJ; omega), by omega⟩, by omega, by omega, by omega⟩)) | exact f46.elim (fun q => Or.inr (Or.inl ⟨⟨(by unfold fl_oJ; omega), by omega⟩, q.1, q.2⟩)) (fun q => q.elim (fun q => Or.inr (Or.inr (Or.inl ⟨⟨(by unfold fl_oJ; omega), by omega⟩, q.1, q.2.1, q.2.2⟩))) (fun q => absurd q.2 (by omega))) | exact Or.inr (Or.inr (Or.inr ⟨⟨⟨(by unfold fl_oJ; omega), by omega⟩, by omega⟩, {l6}, _, _, _, lost, fl_mI_e lost (by omega), fl_mx3_0 (by omega)⟩)) | exact Or.inr (Or.inr (Or.inr ⟨⟨⟨(by unfold fl_oJ; omega), by omega⟩, by omega⟩, {l6}, _, _, _, lost, fl_mI_e lost (by omega), fl_mx3_1 (by omega) (by omega)⟩)) | exact Or.inr (Or.inr (Or.inr ⟨⟨⟨(by unfold fl_oJ; omega), by omega⟩, by omega⟩, {l6}, _, _, _, lost, fl_mI_e lost (by omega), fl_mx3_2 (by omega) (by omega)⟩)))⟩)
                · exfalso; omega
              · refine fz_if_ne (tgt := 34) kX11_which rfl (by decide) (fun c205 => ?_) (fun c205 => ?_)
                · exfalso; omega
                · refine fz_iconst ⟨by decide, by decide⟩ kX11_which rfl ?_
                  exact fz_iret kX11_which rfl rfl (fun _ => ⟨hI, hf, hXw, hRM, hRPm, _, rfl, (by omega), (by first | exact lost | rfl), (by first | exact Or.inl ⟨(fun z => by have a := z.1; have b := z.2; unfold fl_oJ at a; omega), rfl⟩ | exact Or.inr (Or.inl ⟨⟨(by unfold fl_oJ; omega), by omega⟩, by omega, by omega⟩) | exact Or.inr (Or.inr (Or.inl ⟨⟨(by unfold fl_oJ; omega), by omega⟩, by omega, by omega, by omega⟩)) | exact lost.elim (fun q => Or.inr (Or.inl ⟨⟨(by unfold fl_oJ; omega), by omega⟩, q.1, q.2⟩)) (fun q => q.elim (fun q => Or.inr (Or.inr (Or.inl ⟨⟨(by unfold fl_oJ; omega), by omega⟩, q.1, q.2.1, q.2.2⟩))) (fun q => absurd q.2 (by omega))) | exact Or.inr (Or.inr (Or.inr ⟨⟨⟨(by unfold fl_oJ; omega), by omega⟩, by omega⟩, {l6}, _, _, _, lost, fl_mI_e lost (by omega), fl_mx3_0 (by omega)⟩)) | exact Or.inr (Or.inr (Or.inr ⟨⟨⟨(by unfold fl_oJ; omega), by omega⟩, by omega⟩, {l6}, _, _, _, lost, fl_mI_e lost (by omega), fl_mx3_1 (by omega) (by omega)⟩)) | exact Or.inr (Or.inr (Or.inr ⟨⟨⟨(by unfold fl_oJ; omega), by omega⟩, by omega⟩, {l6}, _, _, _, lost, fl_mI_e lost (by omega), fl_mx3_2 (by omega) (by omega)⟩)))⟩)
          · refine fz_if_eq (tgt := 32) kX11_which rfl (by decide) (fun c208 => ?_) (fun c208 => ?_)
            · refine fz_iconst ⟨by decide, by decide⟩ kX11_which rfl ?_
              exact fz_iret kX11_which rfl rfl (fun _ => ⟨hI, hf, hXw, hRM, hRPm, _, rfl, (by omega), (by first | exact lost | rfl), (by first | exact Or.inl ⟨(fun z => by have a := z.1; have b := z.2; unfold fl_oJ at a; omega), rfl⟩ | exact Or.inr (Or.inl ⟨⟨(by unfold fl_oJ; omega), by omega⟩, by omega, by omega⟩) | exact Or.inr (Or.inr (Or.inl ⟨⟨(by unfold fl_oJ; omega), by omega⟩, by omega, by omega, by omega⟩)) | exact lost.elim (fun q => Or.inr (Or.inl ⟨⟨(by unfold fl_oJ; omega), by omega⟩, q.1, q.2⟩)) (fun q => q.elim (fun q => Or.inr (Or.inr (Or.inl ⟨⟨(by unfold fl_oJ; omega), by omega⟩, q.1, q.2.1, q.2.2⟩))) (fun q => absurd q.2 (by omega))) | exact Or.inr (Or.inr (Or.inr ⟨⟨⟨(by unfold fl_oJ; omega), by omega⟩, by omega⟩, {l6}, _, _, _, lost, fl_mI_e lost (by omega), fl_mx3_0 (by omega)⟩)) | exact Or.inr (Or.inr (Or.inr ⟨⟨⟨(by unfold fl_oJ; omega), by omega⟩, by omega⟩, {l6}, _, _, _, lost, fl_mI_e lost (by omega), fl_mx3_1 (by omega) (by omega)⟩)) | exact Or.inr (Or.inr (Or.inr ⟨⟨⟨(by unfold fl_oJ; omega), by omega⟩, by omega⟩, {l6}, _, _, _, lost, fl_mI_e lost (by omega), fl_mx3_2 (by omega) (by omega)⟩)))⟩)
            · exfalso; omega
      · refine fz_if_eq (tgt := 32) kX11_which rfl (by decide) (fun c211 => ?_) (fun c211 => ?_)
        · refine fz_iconst ⟨by decide, by decide⟩ kX11_which rfl ?_
          exact fz_iret kX11_which rfl rfl (fun _ => ⟨hI, hf, hXw, hRM, hRPm, _, rfl, (by omega), (by first | exact lost | rfl), (by first | exact Or.inl ⟨(fun z => by have a := z.1; have b := z.2; unfold fl_oJ at a; omega), rfl⟩ | exact Or.inr (Or.inl ⟨⟨(by unfold fl_oJ; omega), by omega⟩, by omega, by omega⟩) | exact Or.inr (Or.inr (Or.inl ⟨⟨(by unfold fl_oJ; omega), by omega⟩, by omega, by omega, by omega⟩)) | exact lost.elim (fun q => Or.inr (Or.inl ⟨⟨(by unfold fl_oJ; omega), by omega⟩, q.1, q.2⟩)) (fun q => q.elim (fun q => Or.inr (Or.inr (Or.inl ⟨⟨(by unfold fl_oJ; omega), by omega⟩, q.1, q.2.1, q.2.2⟩))) (fun q => absurd q.2 (by omega))) | exact Or.inr (Or.inr (Or.inr ⟨⟨⟨(by unfold fl_oJ; omega), by omega⟩, by omega⟩, {l6}, _, _, _, lost, fl_mI_e lost (by omega), fl_mx3_0 (by omega)⟩)) | exact Or.inr (Or.inr (Or.inr ⟨⟨⟨(by unfold fl_oJ; omega), by omega⟩, by omega⟩, {l6}, _, _, _, lost, fl_mI_e lost (by omega), fl_mx3_1 (by omega) (by omega)⟩)) | exact Or.inr (Or.inr (Or.inr ⟨⟨⟨(by unfold fl_oJ; omega), by omega⟩, by omega⟩, {l6}, _, _, _, lost, fl_mI_e lost (by omega), fl_mx3_2 (by omega) (by omega)⟩)))⟩)
        · exfalso; omega
  · refine fz_if_eq (tgt := 32) kX11_which rfl (by decide) (fun c214 => ?_) (fun c214 => ?_)
    · refine fz_iconst ⟨by decide, by decide⟩ kX11_which rfl ?_
      exact fz_iret kX11_which rfl rfl (fun _ => ⟨hI, hf, hXw, hRM, hRPm, _, rfl, (by omega), (by first | exact lost | rfl), (by first | exact Or.inl ⟨(fun z => by have a := z.1; have b := z.2; unfold fl_oJ at a; omega), rfl⟩ | exact Or.inr (Or.inl ⟨⟨(by unfold fl_oJ; omega), by omega⟩, by omega, by omega⟩) | exact Or.inr (Or.inr (Or.inl ⟨⟨(by unfold fl_oJ; omega), by omega⟩, by omega, by omega, by omega⟩)) | exact lost.elim (fun q => Or.inr (Or.inl ⟨⟨(by unfold fl_oJ; omega), by omega⟩, q.1, q.2⟩)) (fun q => q.elim (fun q => Or.inr (Or.inr (Or.inl ⟨⟨(by unfold fl_oJ; omega), by omega⟩, q.1, q.2.1, q.2.2⟩))) (fun q => absurd q.2 (by omega))) | exact Or.inr (Or.inr (Or.inr ⟨⟨⟨(by unfold fl_oJ; omega), by omega⟩, by omega⟩, {l6}, _, _, _, lost, fl_mI_e lost (by omega), fl_mx3_0 (by omega)⟩)) | exact Or.inr (Or.inr (Or.inr ⟨⟨⟨(by unfold fl_oJ; omega), by omega⟩, by omega⟩, {l6}, _, _, _, lost, fl_mI_e lost (by omega), fl_mx3_1 (by omega) (by omega)⟩)) | exact Or.inr (Or.inr (Or.inr ⟨⟨⟨(by unfold fl_oJ; omega), by omega⟩, by omega⟩, {l6}, _, _, _, lost, fl_mI_e lost (by omega), fl_mx3_2 (by omega) (by omega)⟩)))⟩)
    · exfalso; omega

abbrev qX11_first (h : fz_H) (pm tx wh : Int) : fz_H → Option fz_V → Prop := fun h' r0 => fz_Iv h' ∧ fz_fr [(74, 99999), (75, 99999), (86, 99999), (87, 99999), (88, 99999)] h h' ∧ fz_Xw h' ∧ fz_RM h' ∧ fl_RPm h' ∧ ∃ r : Int, r0 = some (fz_i r) ∧ ((-2147483648) ≤ r ∧ r ≤ 2147483647) ∧ (fl_fiM h pm tx wh r)
set_option maxHeartbeats 1000000 in
set_option maxRecDepth 100000 in
theorem sX11_first (h : fz_H) (hI : fz_Iv h) (pm tx wh : Int) (hXw : fz_Xw h) (hRM : fz_RM h) (hRPm : fl_RPm h) : fz_R 4 mX11_first 0 [(0, fz_r 53), (1, fz_i pm), (2, fz_i tx), (3, fz_i wh)] [] h (qX11_first h pm tx wh) := by
  refine fz_knowl (fun hk => ?_)
  have hr_pm : -2147483648 ≤ pm ∧ pm < 2147483648 := hk _ (List.Mem.tail _ (List.Mem.head _))
  have hr_tx : -2147483648 ≤ tx ∧ tx < 2147483648 := hk _ (List.Mem.tail _ (List.Mem.tail _ (List.Mem.head _)))
  have hr_wh : -2147483648 ≤ wh ∧ wh < 2147483648 := hk _ (List.Mem.tail _ (List.Mem.tail _ (List.Mem.tail _ (List.Mem.head _))))
  clear hk
  have hf : fz_fr [(74, 99999), (75, 99999), (86, 99999), (87, 99999), (88, 99999)] h h := fz_fr_rf
  have k1 : 0 ≤ h 53 0 ∧ h 53 0 ≤ 8 := hI.1 53 _
  refine fz_iload_n kX11_first rfl rfl ?_
  refine fz_callS (d' := 2) (M' := mX11_isMarked) (As := [fz_i pm]) (st := []) kX11_first rfl rfl vX11_isMarked rfl rfl (Nat.le_of_ble_eq_true rfl) (Nat.le_of_ble_eq_true rfl) (by decide) (sX11_isMarked h hI pm ) (fun H2 r3 q4 o5 => ?_)
  obtain ⟨e6, y7, rfl, p8⟩ := q4
  subst H2
  clear o5
  rcases p8 with ⟨rfl, c9⟩ | ⟨rfl, c9⟩
  · refine fz_if_eq (tgt := 38) kX11_first rfl (by decide) (fun c10 => ?_) (fun c10 => ?_)
    · exfalso; omega
    · refine fz_iload_n kX11_first rfl rfl ?_
      refine fz_if_lt (tgt := 38) kX11_first rfl (by decide) (fun c11 => ?_) (fun c11 => ?_)
      · refine fz_iconst ⟨by decide, by decide⟩ kX11_first rfl ?_
        exact fz_iret kX11_first rfl rfl (fun _ => ⟨hI, hf, hXw, hRM, hRPm, _, rfl, (by omega), (by first | exact Or.inl ⟨(by unfold fl_oF; omega), fl_lI_f lost (by omega) (by omega) (by omega) lost (by omega)⟩ | exact Or.inl ⟨(by unfold fl_oF; omega), fl_lI_e lost (by omega) (by omega)⟩ | exact Or.inr ⟨(by unfold fl_oF; omega), rfl⟩)⟩)
      · refine fz_aload_n kX11_first rfl rfl ?_
        refine fz_iload_n kX11_first rfl rfl ?_
        refine fz_bipush ⟨by decide, by decide⟩ kX11_first rfl ?_
        refine fz_idivN kX11_first rfl (by omega) (by omega) (by omega) ?_
        have b13 : 0 ≤ h 53 0 ∧ h 53 0 ≤ 8 := hI.1 53 _
        refine fz_callV (d' := 1) (M' := mX11_isTown) (As := [fz_i (tx / 100)]) (st := []) kX11_first rfl rfl vX11_isTown rfl rfl rfl rfl (Nat.le_of_ble_eq_true rfl) (Nat.le_of_ble_eq_true rfl) (by decide) (sX11_isTown h hI (tx / 100) ) (fun H14 r15 q16 o17 => ?_)
        obtain ⟨e18, y19, rfl, p20⟩ := q16
        subst H14
        clear o17
        rcases p20 with ⟨rfl, c21⟩ | ⟨rfl, c21⟩
        · refine fz_if_eq (tgt := 38) kX11_first rfl (by decide) (fun c22 => ?_) (fun c22 => ?_)
          · exfalso; omega
          · refine fz_iload_n kX11_first rfl rfl ?_
            refine fz_bipush ⟨by decide, by decide⟩ kX11_first rfl ?_
            refine fz_iremN kX11_first rfl (by omega) (by omega) (by omega) ?_
            refine fz_if_eq (tgt := 38) kX11_first rfl (by decide) (fun c23 => ?_) (fun c23 => ?_)
            · refine fz_iconst ⟨by decide, by decide⟩ kX11_first rfl ?_
              exact fz_iret kX11_first rfl rfl (fun _ => ⟨hI, hf, hXw, hRM, hRPm, _, rfl, (by omega), (by first | exact Or.inl ⟨(by unfold fl_oF; omega), fl_lI_f lost (by omega) (by omega) (by omega) lost (by omega)⟩ | exact Or.inl ⟨(by unfold fl_oF; omega), fl_lI_e lost (by omega) (by omega)⟩ | exact Or.inr ⟨(by unfold fl_oF; omega), rfl⟩)⟩)
            · refine fz_iload_n kX11_first rfl rfl ?_
              refine fz_iconst ⟨by decide, by decide⟩ kX11_first rfl ?_
              refine fz_iconst ⟨by decide, by decide⟩ kX11_first rfl ?_
              refine fz_callS (d' := 0) (M' := mX11_within) (As := [fz_i wh, fz_i 0, fz_i 1]) (st := []) kX11_first rfl rfl vX11_within rfl rfl (Nat.le_of_ble_eq_true rfl) (Nat.le_of_ble_eq_true rfl) (by decide) (sX11_within h hI wh 0 1 ) (fun H25 r26 q27 o28 => ?_)
              obtain ⟨e29, y30, rfl, p31⟩ := q27
              subst H25
              clear o28
              rcases p31 with ⟨rfl, c32⟩ | ⟨rfl, c32⟩
              · refine fz_if_ne (tgt := 40) kX11_first rfl (by decide) (fun c33 => ?_) (fun c33 => ?_)
                · refine fz_aload_n kX11_first rfl rfl ?_
                  have b34 : 0 ≤ h 53 10 ∧ h 53 10 ≤ 11 := hI.1 53 _
                  refine fz_callV (d' := 3) (M' := mX11_allHear) (As := []) (st := []) kX11_first rfl rfl vX11_allHear rfl rfl rfl rfl (Nat.le_of_ble_eq_true rfl) (Nat.le_of_ble_eq_true rfl) (by decide) (sX11_allHear h hI  hRM hRPm) (fun H35 r36 q37 o38 => ?_)
                  obtain ⟨hI39, hf40, hRM41, hRPm42, rfl, f43⟩ := q37
                  clear o38
                  have hf44 := fz_fr_tr hf hf40 (show fz_su [(86, 99999), (87, 99999), (88, 99999)] [(74, 99999), (75, 99999), (86, 99999), (87, 99999), (88, 99999)] = true from rfl)
                  have hXw45 : fz_Xw H35 := fz_Xw_eq (hf40 53 19 rfl) (funext fun s => hf40 66 s rfl) (funext fun s => hf40 67 s rfl) (funext fun s => hf40 68 s rfl) (funext fun s => hf40 69 s rfl) hXw
                  have t46 : H35 53 0 = h 53 0 := hf40 53 0 rfl
                  have hHB47 : fl_HB H35 := fl_HB_of2 f43 (funext fun s => hf40 62 s rfl) (hf40 53 10 rfl) (hf40 53 0 rfl) (funext fun s => hf40 54 s rfl) (fun q => (hI39.1 54 q).1)
                  have hHT49 : fl_HTh h H35 := f43
                  refine fz_bipush ⟨by decide, by decide⟩ kX11_first rfl ?_
                  refine fz_istore (ls' := [(4, fz_i (-2)), (0, fz_r 53), (1, fz_i pm), (2, fz_i tx), (3, fz_i wh)]) kX11_first rfl (by decide) rfl ?_
                  refine fz_iconst ⟨by decide, by decide⟩ kX11_first rfl ?_
                  refine fz_istore (ls' := [(5, fz_i 0), (4, fz_i (-2)), (0, fz_r 53), (1, fz_i pm), (2, fz_i tx), (3, fz_i wh)]) kX11_first rfl (by decide) rfl ?_
                  have lp62 : ∀ (n61 : Nat) (x51 : Int) (x52 : Int) (H58 : fz_H), fz_Iv H58 → fz_fr [(74, 99999), (75, 99999), (86, 99999), (87, 99999), (88, 99999)] h H58 → fz_Xw H58 → fz_RM H58 → fl_RPm H58 → fl_HB H58 → fl_HTh h H58 → (0 ≤ x51 ∧ x51 ≤ 2147483647) → ((-2147483648) ≤ x52 ∧ x52 ≤ 2147483647) → (x51 ≤ 1000) → ((wh = 0 ∧ x52 = -2) ∨ wh = 1) → (fl_lI (fl_SM h (pm / 10) (pm % 10) (tx / 100)) (tx % 100) x51 x52) → (1000 - x51).toNat < n61 → fz_R 4 mX11_first 51 [(5, fz_i x51), (4, fz_i x52), (0, fz_r 53), (1, fz_i pm), (2, fz_i tx), (3, fz_i wh)] [] H58 (qX11_first h pm tx wh) := by
                    intro n61
                    induction n61 with
                    | zero => intro x51 x52 H58 hI59 hf60 hXw53 hRM54 hRPm55 hHB56 hHT57 hv65 hv66 hv67 hv68 hv69 hm64; exact absurd hm64 (by omega)
                    | succ n61 ih63 =>
                      intro x51 x52 H58 hI59 hf60 hXw53 hRM54 hRPm55 hHB56 hHT57 hv65 hv66 hv67 hv68 hv69 hm64
                      refine fz_iload kX11_first rfl rfl ?_
                      refine fz_sipush ⟨by decide, by decide⟩ kX11_first rfl ?_
                      refine fz_icmp_ge (tgt := 104) kX11_first rfl (by decide) (fun c70 => ?_) (fun c70 => ?_)
                      · refine fz_iload kX11_first rfl rfl ?_
                        exact fz_iret kX11_first rfl rfl (fun _ => ⟨hI59, hf60, hXw53, hRM54, hRPm55, _, rfl, (by omega), (by first | exact Or.inl ⟨(by unfold fl_oF; omega), fl_lI_f hv69 (by omega) (by omega) (by omega) lost (by omega)⟩ | exact Or.inl ⟨(by unfold fl_oF; omega), fl_lI_e hv69 (by omega) (by omega)⟩ | exact Or.inr ⟨(by unfold fl_oF; omega), rfl⟩)⟩)
                      · refine fz_aload_n kX11_first rfl rfl ?_
                        refine fz_iload_n kX11_first rfl rfl ?_
                        refine fz_bipush ⟨by decide, by decide⟩ kX11_first rfl ?_
                        refine fz_idivN kX11_first rfl (by omega) (by omega) (by omega) ?_
                        refine fz_iload_n kX11_first rfl rfl ?_
                        refine fz_bipush ⟨by decide, by decide⟩ kX11_first rfl ?_
                        refine fz_iremN kX11_first rfl (by omega) (by omega) (by omega) ?_
                        refine fz_iload_n kX11_first rfl rfl ?_
                        refine fz_bipush ⟨by decide, by decide⟩ kX11_first rfl ?_
                        refine fz_idivN kX11_first rfl (by omega) (by omega) (by omega) ?_
                        refine fz_iload kX11_first rfl rfl ?_
                        have b72 : 0 ≤ h 53 0 ∧ h 53 0 ≤ 8 := hI.1 53 _
                        have e73 : H58 53 0 = h 53 0 := hf60 53 0 rfl
                        refine fz_callV (d' := 3) (M' := mX11_saidOf) (As := [fz_i (pm / 10), fz_i (pm % 10), fz_i (tx / 100), fz_i x51]) (st := []) kX11_first rfl rfl vX11_saidOf rfl rfl rfl rfl (Nat.le_of_ble_eq_true rfl) (Nat.le_of_ble_eq_true rfl) (by decide) (sX11_saidOf H58 hI59 (pm / 10) (pm % 10) (tx / 100) x51 hXw53 hHB56 (by omega) (by omega)) (fun H74 r75 q76 o77 => ?_)
                        obtain ⟨hI78, hf79, hXw80, hHB81, y84, rfl, f82, f83⟩ := q76
                        clear o77
                        have hf85 := fz_fr_tr hf60 hf79 (show fz_su [(74, 99999), (75, 99999)] [(74, 99999), (75, 99999), (86, 99999), (87, 99999), (88, 99999)] = true from rfl)
                        have hRM86 : fz_RM H74 := fz_RM_eq (funext fun s => hf79 55 s rfl) (funext fun s => hf79 56 s rfl) (hf79 53 0 rfl) (hf79 53 2 rfl) hRM54
                        have hRPm87 : fl_RPm H74 := fl_RPm_eq (funext fun s => hf79 61 s rfl) (hf79 53 10 rfl) (hf79 53 0 rfl) hRPm55
                        have hHT88 : fl_HTh h H74 := fl_HTh_eq (funext fun s => hf79 88 s rfl) hHT57
                        have t89 : H74 53 0 = H58 53 0 := hf79 53 0 rfl
                        have k90 : y84 = fl_SM h (pm / 10) (pm % 10) (tx / 100) x51 := f83.trans (fl_ST_fH hf60 rfl hHT57 ⟨by omega, by omega⟩)
                        refine fz_iload_n kX11_first rfl rfl ?_
                        refine fz_bipush ⟨by decide, by decide⟩ kX11_first rfl ?_
                        refine fz_iremN kX11_first rfl (by omega) (by omega) (by omega) ?_
                        refine fz_icmp_ge (tgt := 87) kX11_first rfl (by decide) (fun c92 => ?_) (fun c92 => ?_)
                        · refine fz_iload kX11_first rfl rfl ?_
                          refine fz_istore (ls' := [(4, fz_i x51), (5, fz_i x51), (0, fz_r 53), (1, fz_i pm), (2, fz_i tx), (3, fz_i wh)]) kX11_first rfl (by decide) rfl ?_
                          refine fz_iload_n kX11_first rfl rfl ?_
                          refine fz_if_ne (tgt := 98) kX11_first rfl (by decide) (fun c93 => ?_) (fun c93 => ?_)
                          · refine fz_iincN (ls' := [(5, fz_i (x51 + 1)), (4, fz_i x51), (0, fz_r 53), (1, fz_i pm), (2, fz_i tx), (3, fz_i wh)]) kX11_first rfl (by decide) rfl (by omega) rfl ?_
                            refine fz_goto (tgt := 51) kX11_first rfl (by decide) ?_
                            exact ih63 (x51 + 1) x51 H74 hI78 hf85 hXw80 hRM86 hRPm87 hHB81 hHT88 (by omega) (by omega) (by omega) (by omega) (by first | exact fl_lI_n hv69 (by omega) k90 (by omega) | exact fl_lI_y hv69 (by omega) k90 (by omega)) (by omega)
                          · refine fz_iload kX11_first rfl rfl ?_
                            exact fz_iret kX11_first rfl rfl (fun _ => ⟨hI78, hf85, hXw80, hRM86, hRPm87, _, rfl, (by omega), (by first | exact Or.inl ⟨(by unfold fl_oF; omega), fl_lI_f hv69 (by omega) (by omega) (by omega) k90 (by omega)⟩ | exact Or.inl ⟨(by unfold fl_oF; omega), fl_lI_e hv69 (by omega) (by omega)⟩ | exact Or.inr ⟨(by unfold fl_oF; omega), rfl⟩)⟩)
                        · refine fz_goto (tgt := 98) kX11_first rfl (by decide) ?_
                          refine fz_iincN (ls' := [(5, fz_i (x51 + 1)), (4, fz_i x52), (0, fz_r 53), (1, fz_i pm), (2, fz_i tx), (3, fz_i wh)]) kX11_first rfl (by decide) rfl (by omega) rfl ?_
                          refine fz_goto (tgt := 51) kX11_first rfl (by decide) ?_
                          exact ih63 (x51 + 1) x52 H74 hI78 hf85 hXw80 hRM86 hRPm87 hHB81 hHT88 (by omega) (by omega) (by omega) (by omega) (by first | exact fl_lI_n hv69 (by omega) k90 (by omega) | exact fl_lI_y hv69 (by omega) k90 (by omega)) (by omega)
                  exact lp62 _ 0 (-2) H35 hI39 hf44 hXw45 hRM41 hRPm42 hHB47 hHT49 (by omega) (by omega) (by omega) (by omega) (fl_lI_0) (Nat.lt_succ_self _)
                · exfalso; omega
              · refine fz_if_ne (tgt := 40) kX11_first rfl (by decide) (fun c98 => ?_) (fun c98 => ?_)
                · exfalso; omega
                · refine fz_iconst ⟨by decide, by decide⟩ kX11_first rfl ?_
                  exact fz_iret kX11_first rfl rfl (fun _ => ⟨hI, hf, hXw, hRM, hRPm, _, rfl, (by omega), (by first | exact Or.inl ⟨(by unfold fl_oF; omega), fl_lI_f lost (by omega) (by omega) (by omega) lost (by omega)⟩ | exact Or.inl ⟨(by unfold fl_oF; omega), fl_lI_e lost (by omega) (by omega)⟩ | exact Or.inr ⟨(by unfold fl_oF; omega), rfl⟩)⟩)
        · refine fz_if_eq (tgt := 38) kX11_first rfl (by decide) (fun c100 => ?_) (fun c100 => ?_)
          · refine fz_iconst ⟨by decide, by decide⟩ kX11_first rfl ?_
            exact fz_iret kX11_first rfl rfl (fun _ => ⟨hI, hf, hXw, hRM, hRPm, _, rfl, (by omega), (by first | exact Or.inl ⟨(by unfold fl_oF; omega), fl_lI_f lost (by omega) (by omega) (by omega) lost (by omega)⟩ | exact Or.inl ⟨(by unfold fl_oF; omega), fl_lI_e lost (by omega) (by omega)⟩ | exact Or.inr ⟨(by unfold fl_oF; omega), rfl⟩)⟩)
          · exfalso; omega
  · refine fz_if_eq (tgt := 38) kX11_first rfl (by decide) (fun c102 => ?_) (fun c102 => ?_)
    · refine fz_iconst ⟨by decide, by decide⟩ kX11_first rfl ?_
      exact fz_iret kX11_first rfl rfl (fun _ => ⟨hI, hf, hXw, hRM, hRPm, _, rfl, (by omega), (by first | exact Or.inl ⟨(by unfold fl_oF; omega), fl_lI_f lost (by omega) (by omega) (by omega) lost (by omega)⟩ | exact Or.inl ⟨(by unfold fl_oF; omega), fl_lI_e lost (by omega) (by omega)⟩ | exact Or.inr ⟨(by unfold fl_oF; omega), rfl⟩)⟩)
    · exfalso; omega

abbrev qX11_news (h : fz_H) (d hr : Int) : fz_H → Option fz_V → Prop := fun h' r0 => fz_Iv h' ∧ fz_fr [(86, 99999), (87, 99999)] h h' ∧ fz_RM h' ∧ ∃ r : Int, r0 = some (fz_i r) ∧ ((-2) ≤ r ∧ r ≤ 8)
set_option maxHeartbeats 1000000 in
set_option maxRecDepth 100000 in
theorem sX11_news (h : fz_H) (hI : fz_Iv h) (d hr : Int) (hRM : fz_RM h) : fz_R 3 mX11_news 0 [(0, fz_r 53), (1, fz_i d), (2, fz_i hr)] [] h (qX11_news h d hr) := by
  refine fz_knowl (fun hk => ?_)
  have hr_d : -2147483648 ≤ d ∧ d < 2147483648 := hk _ (List.Mem.tail _ (List.Mem.head _))
  have hr_hr : -2147483648 ≤ hr ∧ hr < 2147483648 := hk _ (List.Mem.tail _ (List.Mem.tail _ (List.Mem.head _)))
  clear hk
  have hf : fz_fr [(86, 99999), (87, 99999)] h h := fz_fr_rf
  refine fz_aload_n kX11_news rfl rfl ?_
  refine fz_iload_n kX11_news rfl rfl ?_
  have b1 : 0 ≤ h 53 10 ∧ h 53 10 ≤ 11 := hI.1 53 _
  refine fz_callV (d' := 1) (M' := mX11_isDeed) (As := [fz_i d]) (st := []) kX11_news rfl rfl vX11_isDeed rfl rfl rfl rfl (Nat.le_of_ble_eq_true rfl) (Nat.le_of_ble_eq_true rfl) (by decide) (sX11_isDeed h hI d ) (fun H2 r3 q4 o5 => ?_)
  obtain ⟨e6, y7, rfl, p8⟩ := q4
  subst H2
  clear o5
  rcases p8 with ⟨rfl, c9⟩ | ⟨rfl, c9⟩
  · refine fz_if_eq (tgt := 20) kX11_news rfl (by decide) (fun c10 => ?_) (fun c10 => ?_)
    · exfalso; omega
    · refine fz_iload_n kX11_news rfl rfl ?_
      refine fz_bipush ⟨by decide, by decide⟩ kX11_news rfl ?_
      refine fz_sipush ⟨by decide, by decide⟩ kX11_news rfl ?_
      refine fz_callS (d' := 0) (M' := mX11_within) (As := [fz_i hr, fz_i (-2), fz_i 999]) (st := []) kX11_news rfl rfl vX11_within rfl rfl (Nat.le_of_ble_eq_true rfl) (Nat.le_of_ble_eq_true rfl) (by decide) (sX11_within h hI hr (-2) 999 ) (fun H11 r12 q13 o14 => ?_)
      obtain ⟨e15, y16, rfl, p17⟩ := q13
      subst H11
      clear o14
      rcases p17 with ⟨rfl, c18⟩ | ⟨rfl, c18⟩
      · refine fz_if_ne (tgt := 22) kX11_news rfl (by decide) (fun c19 => ?_) (fun c19 => ?_)
        · refine fz_bipush ⟨by decide, by decide⟩ kX11_news rfl ?_
          refine fz_istore_n (ls' := [(3, fz_i (-2)), (0, fz_r 53), (1, fz_i d), (2, fz_i hr)]) kX11_news rfl (by decide) rfl ?_
          refine fz_iconst ⟨by decide, by decide⟩ kX11_news rfl ?_
          refine fz_istore (ls' := [(4, fz_i 0), (3, fz_i (-2)), (0, fz_r 53), (1, fz_i d), (2, fz_i hr)]) kX11_news rfl (by decide) rfl ?_
          refine fz_iconst ⟨by decide, by decide⟩ kX11_news rfl ?_
          refine fz_istore (ls' := [(5, fz_i 0), (4, fz_i 0), (3, fz_i (-2)), (0, fz_r 53), (1, fz_i d), (2, fz_i hr)]) kX11_news rfl (by decide) rfl ?_
          have lp28 : ∀ (n27 : Nat) (x20 : Int) (x21 : Int) (x22 : Int) (H24 : fz_H), fz_Iv H24 → fz_fr [(86, 99999), (87, 99999)] h H24 → fz_RM H24 → (0 ≤ x20 ∧ x20 ≤ 2147483647) → (0 ≤ x21 ∧ x21 ≤ 8) → ((-2) ≤ x22 ∧ x22 ≤ 7) → (x22 ≠ -1) → (x21 ≤ x20) → ((h 53 0) - x20).toNat < n27 → fz_R 3 mX11_news 31 [(5, fz_i x20), (4, fz_i x21), (3, fz_i x22), (0, fz_r 53), (1, fz_i d), (2, fz_i hr)] [] H24 (qX11_news h d hr) := by
            intro n27
            induction n27 with
            | zero => intro x20 x21 x22 H24 hI25 hf26 hRM23 hv31 hv32 hv33 hv34 hv35 hm30; exact absurd hm30 (by omega)
            | succ n27 ih29 =>
              intro x20 x21 x22 H24 hI25 hf26 hRM23 hv31 hv32 hv33 hv34 hv35 hm30
              refine fz_iload kX11_news rfl rfl ?_
              refine fz_aload_n kX11_news rfl rfl ?_
              refine fz_getV (v := h 53 0) kX11_news rfl rfl (hf26 53 0 rfl) ?_
              have b36 : 0 ≤ h 53 0 ∧ h 53 0 ≤ 8 := hI.1 53 _
              refine fz_icmp_ge (tgt := 113) kX11_news rfl (by decide) (fun c37 => ?_) (fun c37 => ?_)
              · refine fz_iload_n kX11_news rfl rfl ?_
                refine fz_if_ge (tgt := 121) kX11_news rfl (by decide) (fun c38 => ?_) (fun c38 => ?_)
                · refine fz_iload kX11_news rfl rfl ?_
                  exact fz_iret kX11_news rfl rfl (fun _ => ⟨hI25, hf26, hRM23, _, rfl, (by omega)⟩)
                · refine fz_iload_n kX11_news rfl rfl ?_
                  refine fz_goto (tgt := 123) kX11_news rfl (by decide) ?_
                  exact fz_iret kX11_news rfl rfl (fun _ => ⟨hI25, hf26, hRM23, _, rfl, (by omega)⟩)
              · refine fz_aload_n kX11_news rfl rfl ?_
                refine fz_iload_n kX11_news rfl rfl ?_
                refine fz_iload kX11_news rfl rfl ?_
                refine fz_callV (d' := 2) (M' := mX11_heardAt) (As := [fz_i d, fz_i x20]) (st := []) kX11_news rfl rfl vX11_heardAt rfl rfl rfl rfl (Nat.le_of_ble_eq_true rfl) (Nat.le_of_ble_eq_true rfl) (by decide) (sX11_heardAt H24 hI25 d x20 hRM23 (by omega) (by omega)) (fun H39 r40 q41 o42 => ?_)
                obtain ⟨hI43, hf44, hRM45, y48, rfl, f46, f47⟩ := q41
                clear o42
                have hf49 := fz_fr_tr hf26 hf44 (show fz_su [(86, 99999), (87, 99999)] [(86, 99999), (87, 99999)] = true from rfl)
                refine fz_istore (ls' := [(6, fz_i y48), (5, fz_i x20), (4, fz_i x21), (3, fz_i x22), (0, fz_r 53), (1, fz_i d), (2, fz_i hr)]) kX11_news rfl (by decide) rfl ?_
                refine fz_iload kX11_news rfl rfl ?_
                refine fz_bipush ⟨by decide, by decide⟩ kX11_news rfl ?_
                refine fz_icmp_ne (tgt := 59) kX11_news rfl (by decide) (fun c50 => ?_) (fun c50 => ?_)
                · refine fz_iload kX11_news rfl rfl ?_
                  refine fz_iload_n kX11_news rfl rfl ?_
                  refine fz_icmp_gt (tgt := 68) kX11_news rfl (by decide) (fun c51 => ?_) (fun c51 => ?_)
                  · refine fz_iload_n kX11_news rfl rfl ?_
                    refine fz_bipush ⟨by decide, by decide⟩ kX11_news rfl ?_
                    refine fz_icmp_eq (tgt := 104) kX11_news rfl (by decide) (fun c52 => ?_) (fun c52 => ?_)
                    · refine fz_iload kX11_news rfl rfl ?_
                      refine fz_istore_n (ls' := [(3, fz_i x20), (6, fz_i y48), (5, fz_i x20), (4, fz_i x21), (0, fz_r 53), (1, fz_i d), (2, fz_i hr)]) kX11_news rfl (by decide) rfl ?_
                      refine fz_iincN (ls' := [(5, fz_i (x20 + 1)), (3, fz_i x20), (6, fz_i y48), (4, fz_i x21), (0, fz_r 53), (1, fz_i d), (2, fz_i hr)]) kX11_news rfl (by decide) rfl (by omega) rfl ?_
                      refine fz_goto (tgt := 31) kX11_news rfl (by decide) ?_
                      refine fz_sub (fz_pk_sub (ls' := [(5, fz_i (x20 + 1)), (4, fz_i x21), (3, fz_i x20), (0, fz_r 53), (1, fz_i d), (2, fz_i hr)]) [0, 3, 1, 4, 5, 6] rfl) ?_
                      exact ih29 (x20 + 1) x21 x20 H39 hI43 hf49 hRM45 (by omega) (by omega) (by omega) (by omega) (by omega) (by omega)
                    · refine fz_iload_n kX11_news rfl rfl ?_
                      refine fz_iconst ⟨by decide, by decide⟩ kX11_news rfl ?_
                      refine fz_icmp_ne (tgt := 93) kX11_news rfl (by decide) (fun c53 => ?_) (fun c53 => ?_)
                      · refine fz_iload kX11_news rfl rfl ?_
                        refine fz_aload_n kX11_news rfl rfl ?_
                        refine fz_iload_n kX11_news rfl rfl ?_
                        refine fz_iload_n kX11_news rfl rfl ?_
                        refine fz_callV (d' := 2) (M' := mX11_heardAt) (As := [fz_i d, fz_i x22]) (st := [fz_i y48]) kX11_news rfl rfl vX11_heardAt rfl rfl rfl rfl (Nat.le_of_ble_eq_true rfl) (Nat.le_of_ble_eq_true rfl) (by decide) (sX11_heardAt H39 hI43 d x22 hRM45 (by omega) (by omega)) (fun H54 r55 q56 o57 => ?_)
                        obtain ⟨hI58, hf59, hRM60, y63, rfl, f61, f62⟩ := q56
                        clear o57
                        have hf64 := fz_fr_tr hf49 hf59 (show fz_su [(86, 99999), (87, 99999)] [(86, 99999), (87, 99999)] = true from rfl)
                        refine fz_icmp_ge (tgt := 107) kX11_news rfl (by decide) (fun c65 => ?_) (fun c65 => ?_)
                        · refine fz_iincN (ls' := [(5, fz_i (x20 + 1)), (6, fz_i y48), (4, fz_i x21), (3, fz_i x22), (0, fz_r 53), (1, fz_i d), (2, fz_i hr)]) kX11_news rfl (by decide) rfl (by omega) rfl ?_
                          refine fz_goto (tgt := 31) kX11_news rfl (by decide) ?_
                          refine fz_sub (fz_pk_sub (ls' := [(5, fz_i (x20 + 1)), (4, fz_i x21), (3, fz_i x22), (0, fz_r 53), (1, fz_i d), (2, fz_i hr)]) [0, 2, 3, 4, 5, 6] rfl) ?_
                          exact ih29 (x20 + 1) x21 x22 H54 hI58 hf64 hRM60 (by omega) (by omega) (by omega) (by omega) (by omega) (by omega)
                        · refine fz_iload kX11_news rfl rfl ?_
                          refine fz_istore_n (ls' := [(3, fz_i x20), (6, fz_i y48), (5, fz_i x20), (4, fz_i x21), (0, fz_r 53), (1, fz_i d), (2, fz_i hr)]) kX11_news rfl (by decide) rfl ?_
                          refine fz_iincN (ls' := [(5, fz_i (x20 + 1)), (3, fz_i x20), (6, fz_i y48), (4, fz_i x21), (0, fz_r 53), (1, fz_i d), (2, fz_i hr)]) kX11_news rfl (by decide) rfl (by omega) rfl ?_
                          refine fz_goto (tgt := 31) kX11_news rfl (by decide) ?_
                          refine fz_sub (fz_pk_sub (ls' := [(5, fz_i (x20 + 1)), (4, fz_i x21), (3, fz_i x20), (0, fz_r 53), (1, fz_i d), (2, fz_i hr)]) [0, 3, 1, 4, 5, 6] rfl) ?_
                          exact ih29 (x20 + 1) x21 x20 H54 hI58 hf64 hRM60 (by omega) (by omega) (by omega) (by omega) (by omega) (by omega)
                      · refine fz_iload kX11_news rfl rfl ?_
                        refine fz_aload_n kX11_news rfl rfl ?_
                        refine fz_iload_n kX11_news rfl rfl ?_
                        refine fz_iload_n kX11_news rfl rfl ?_
                        refine fz_callV (d' := 2) (M' := mX11_heardAt) (As := [fz_i d, fz_i x22]) (st := [fz_i y48]) kX11_news rfl rfl vX11_heardAt rfl rfl rfl rfl (Nat.le_of_ble_eq_true rfl) (Nat.le_of_ble_eq_true rfl) (by decide) (sX11_heardAt H39 hI43 d x22 hRM45 (by omega) (by omega)) (fun H66 r67 q68 o69 => ?_)
                        obtain ⟨hI70, hf71, hRM72, y75, rfl, f73, f74⟩ := q68
                        clear o69
                        have hf76 := fz_fr_tr hf49 hf71 (show fz_su [(86, 99999), (87, 99999)] [(86, 99999), (87, 99999)] = true from rfl)
                        refine fz_icmp_le (tgt := 107) kX11_news rfl (by decide) (fun c77 => ?_) (fun c77 => ?_)
                        · refine fz_iincN (ls' := [(5, fz_i (x20 + 1)), (6, fz_i y48), (4, fz_i x21), (3, fz_i x22), (0, fz_r 53), (1, fz_i d), (2, fz_i hr)]) kX11_news rfl (by decide) rfl (by omega) rfl ?_
                          refine fz_goto (tgt := 31) kX11_news rfl (by decide) ?_
                          refine fz_sub (fz_pk_sub (ls' := [(5, fz_i (x20 + 1)), (4, fz_i x21), (3, fz_i x22), (0, fz_r 53), (1, fz_i d), (2, fz_i hr)]) [0, 2, 3, 4, 5, 6] rfl) ?_
                          exact ih29 (x20 + 1) x21 x22 H66 hI70 hf76 hRM72 (by omega) (by omega) (by omega) (by omega) (by omega) (by omega)
                        · refine fz_goto (tgt := 104) kX11_news rfl (by decide) ?_
                          refine fz_iload kX11_news rfl rfl ?_
                          refine fz_istore_n (ls' := [(3, fz_i x20), (6, fz_i y48), (5, fz_i x20), (4, fz_i x21), (0, fz_r 53), (1, fz_i d), (2, fz_i hr)]) kX11_news rfl (by decide) rfl ?_
                          refine fz_iincN (ls' := [(5, fz_i (x20 + 1)), (3, fz_i x20), (6, fz_i y48), (4, fz_i x21), (0, fz_r 53), (1, fz_i d), (2, fz_i hr)]) kX11_news rfl (by decide) rfl (by omega) rfl ?_
                          refine fz_goto (tgt := 31) kX11_news rfl (by decide) ?_
                          refine fz_sub (fz_pk_sub (ls' := [(5, fz_i (x20 + 1)), (4, fz_i x21), (3, fz_i x20), (0, fz_r 53), (1, fz_i d), (2, fz_i hr)]) [0, 3, 1, 4, 5, 6] rfl) ?_
                          exact ih29 (x20 + 1) x21 x20 H66 hI70 hf76 hRM72 (by omega) (by omega) (by omega) (by omega) (by omega) (by omega)
                  · refine fz_iincN (ls' := [(4, fz_i (x21 + 1)), (6, fz_i y48), (5, fz_i x20), (3, fz_i x22), (0, fz_r 53), (1, fz_i d), (2, fz_i hr)]) kX11_news rfl (by decide) rfl (by omega) rfl ?_
                    refine fz_iload_n kX11_news rfl rfl ?_
                    refine fz_bipush ⟨by decide, by decide⟩ kX11_news rfl ?_
                    refine fz_icmp_eq (tgt := 104) kX11_news rfl (by decide) (fun c78 => ?_) (fun c78 => ?_)
                    · refine fz_iload kX11_news rfl rfl ?_
                      refine fz_istore_n (ls' := [(3, fz_i x20), (4, fz_i (x21 + 1)), (6, fz_i y48), (5, fz_i x20), (0, fz_r 53), (1, fz_i d), (2, fz_i hr)]) kX11_news rfl (by decide) rfl ?_
                      refine fz_iincN (ls' := [(5, fz_i (x20 + 1)), (3, fz_i x20), (4, fz_i (x21 + 1)), (6, fz_i y48), (0, fz_r 53), (1, fz_i d), (2, fz_i hr)]) kX11_news rfl (by decide) rfl (by omega) rfl ?_
                      refine fz_goto (tgt := 31) kX11_news rfl (by decide) ?_
                      refine fz_sub (fz_pk_sub (ls' := [(5, fz_i (x20 + 1)), (4, fz_i (x21 + 1)), (3, fz_i x20), (0, fz_r 53), (1, fz_i d), (2, fz_i hr)]) [0, 2, 1, 4, 5, 6] rfl) ?_
                      exact ih29 (x20 + 1) (x21 + 1) x20 H39 hI43 hf49 hRM45 (by omega) (by omega) (by omega) (by omega) (by omega) (by omega)
                    · refine fz_iload_n kX11_news rfl rfl ?_
                      refine fz_iconst ⟨by decide, by decide⟩ kX11_news rfl ?_
                      refine fz_icmp_ne (tgt := 93) kX11_news rfl (by decide) (fun c79 => ?_) (fun c79 => ?_)
                      · refine fz_iload kX11_news rfl rfl ?_
                        refine fz_aload_n kX11_news rfl rfl ?_
                        refine fz_iload_n kX11_news rfl rfl ?_
                        refine fz_iload_n kX11_news rfl rfl ?_
                        refine fz_callV (d' := 2) (M' := mX11_heardAt) (As := [fz_i d, fz_i x22]) (st := [fz_i y48]) kX11_news rfl rfl vX11_heardAt rfl rfl rfl rfl (Nat.le_of_ble_eq_true rfl) (Nat.le_of_ble_eq_true rfl) (by decide) (sX11_heardAt H39 hI43 d x22 hRM45 (by omega) (by omega)) (fun H80 r81 q82 o83 => ?_)
                        obtain ⟨hI84, hf85, hRM86, y89, rfl, f87, f88⟩ := q82
                        clear o83
                        have hf90 := fz_fr_tr hf49 hf85 (show fz_su [(86, 99999), (87, 99999)] [(86, 99999), (87, 99999)] = true from rfl)
                        refine fz_icmp_ge (tgt := 107) kX11_news rfl (by decide) (fun c91 => ?_) (fun c91 => ?_)
                        · refine fz_iincN (ls' := [(5, fz_i (x20 + 1)), (4, fz_i (x21 + 1)), (6, fz_i y48), (3, fz_i x22), (0, fz_r 53), (1, fz_i d), (2, fz_i hr)]) kX11_news rfl (by decide) rfl (by omega) rfl ?_
                          refine fz_goto (tgt := 31) kX11_news rfl (by decide) ?_
                          refine fz_sub (fz_pk_sub (ls' := [(5, fz_i (x20 + 1)), (4, fz_i (x21 + 1)), (3, fz_i x22), (0, fz_r 53), (1, fz_i d), (2, fz_i hr)]) [0, 1, 3, 4, 5, 6] rfl) ?_
                          exact ih29 (x20 + 1) (x21 + 1) x22 H80 hI84 hf90 hRM86 (by omega) (by omega) (by omega) (by omega) (by omega) (by omega)
                        · refine fz_iload kX11_news rfl rfl ?_
                          refine fz_istore_n (ls' := [(3, fz_i x20), (4, fz_i (x21 + 1)), (6, fz_i y48), (5, fz_i x20), (0, fz_r 53), (1, fz_i d), (2, fz_i hr)]) kX11_news rfl (by decide) rfl ?_
                          refine fz_iincN (ls' := [(5, fz_i (x20 + 1)), (3, fz_i x20), (4, fz_i (x21 + 1)), (6, fz_i y48), (0, fz_r 53), (1, fz_i d), (2, fz_i hr)]) kX11_news rfl (by decide) rfl (by omega) rfl ?_
                          refine fz_goto (tgt := 31) kX11_news rfl (by decide) ?_
                          refine fz_sub (fz_pk_sub (ls' := [(5, fz_i (x20 + 1)), (4, fz_i (x21 + 1)), (3, fz_i x20), (0, fz_r 53), (1, fz_i d), (2, fz_i hr)]) [0, 2, 1, 4, 5, 6] rfl) ?_
                          exact ih29 (x20 + 1) (x21 + 1) x20 H80 hI84 hf90 hRM86 (by omega) (by omega) (by omega) (by omega) (by omega) (by omega)
                      · refine fz_iload kX11_news rfl rfl ?_
                        refine fz_aload_n kX11_news rfl rfl ?_
                        refine fz_iload_n kX11_news rfl rfl ?_
                        refine fz_iload_n kX11_news rfl rfl ?_
                        refine fz_callV (d' := 2) (M' := mX11_heardAt) (As := [fz_i d, fz_i x22]) (st := [fz_i y48]) kX11_news rfl rfl vX11_heardAt rfl rfl rfl rfl (Nat.le_of_ble_eq_true rfl) (Nat.le_of_ble_eq_true rfl) (by decide) (sX11_heardAt H39 hI43 d x22 hRM45 (by omega) (by omega)) (fun H92 r93 q94 o95 => ?_)
                        obtain ⟨hI96, hf97, hRM98, y101, rfl, f99, f100⟩ := q94
                        clear o95
                        have hf102 := fz_fr_tr hf49 hf97 (show fz_su [(86, 99999), (87, 99999)] [(86, 99999), (87, 99999)] = true from rfl)
                        refine fz_icmp_le (tgt := 107) kX11_news rfl (by decide) (fun c103 => ?_) (fun c103 => ?_)
                        · refine fz_iincN (ls' := [(5, fz_i (x20 + 1)), (4, fz_i (x21 + 1)), (6, fz_i y48), (3, fz_i x22), (0, fz_r 53), (1, fz_i d), (2, fz_i hr)]) kX11_news rfl (by decide) rfl (by omega) rfl ?_
                          refine fz_goto (tgt := 31) kX11_news rfl (by decide) ?_
                          refine fz_sub (fz_pk_sub (ls' := [(5, fz_i (x20 + 1)), (4, fz_i (x21 + 1)), (3, fz_i x22), (0, fz_r 53), (1, fz_i d), (2, fz_i hr)]) [0, 1, 3, 4, 5, 6] rfl) ?_
                          exact ih29 (x20 + 1) (x21 + 1) x22 H92 hI96 hf102 hRM98 (by omega) (by omega) (by omega) (by omega) (by omega) (by omega)
                        · refine fz_goto (tgt := 104) kX11_news rfl (by decide) ?_
                          refine fz_iload kX11_news rfl rfl ?_
                          refine fz_istore_n (ls' := [(3, fz_i x20), (4, fz_i (x21 + 1)), (6, fz_i y48), (5, fz_i x20), (0, fz_r 53), (1, fz_i d), (2, fz_i hr)]) kX11_news rfl (by decide) rfl ?_
                          refine fz_iincN (ls' := [(5, fz_i (x20 + 1)), (3, fz_i x20), (4, fz_i (x21 + 1)), (6, fz_i y48), (0, fz_r 53), (1, fz_i d), (2, fz_i hr)]) kX11_news rfl (by decide) rfl (by omega) rfl ?_
                          refine fz_goto (tgt := 31) kX11_news rfl (by decide) ?_
                          refine fz_sub (fz_pk_sub (ls' := [(5, fz_i (x20 + 1)), (4, fz_i (x21 + 1)), (3, fz_i x20), (0, fz_r 53), (1, fz_i d), (2, fz_i hr)]) [0, 2, 1, 4, 5, 6] rfl) ?_
                          exact ih29 (x20 + 1) (x21 + 1) x20 H92 hI96 hf102 hRM98 (by omega) (by omega) (by omega) (by omega) (by omega) (by omega)
                · refine fz_goto (tgt := 107) kX11_news rfl (by decide) ?_
                  refine fz_iincN (ls' := [(5, fz_i (x20 + 1)), (6, fz_i y48), (4, fz_i x21), (3, fz_i x22), (0, fz_r 53), (1, fz_i d), (2, fz_i hr)]) kX11_news rfl (by decide) rfl (by omega) rfl ?_
                  refine fz_goto (tgt := 31) kX11_news rfl (by decide) ?_
                  refine fz_sub (fz_pk_sub (ls' := [(5, fz_i (x20 + 1)), (4, fz_i x21), (3, fz_i x22), (0, fz_r 53), (1, fz_i d), (2, fz_i hr)]) [0, 2, 3, 4, 5, 6] rfl) ?_
                  exact ih29 (x20 + 1) x21 x22 H39 hI43 hf49 hRM45 (by omega) (by omega) (by omega) (by omega) (by omega) (by omega)
          exact lp28 _ 0 0 (-2) h hI hf hRM (by omega) (by omega) (by omega) (by omega) (by omega) (Nat.lt_succ_self _)
        · exfalso; omega
      · refine fz_if_ne (tgt := 22) kX11_news rfl (by decide) (fun c104 => ?_) (fun c104 => ?_)
        · exfalso; omega
        · refine fz_iconst ⟨by decide, by decide⟩ kX11_news rfl ?_
          exact fz_iret kX11_news rfl rfl (fun _ => ⟨hI, hf, hRM, _, rfl, (by omega)⟩)
  · refine fz_if_eq (tgt := 20) kX11_news rfl (by decide) (fun c105 => ?_) (fun c105 => ?_)
    · refine fz_iconst ⟨by decide, by decide⟩ kX11_news rfl ?_
      exact fz_iret kX11_news rfl rfl (fun _ => ⟨hI, hf, hRM, _, rfl, (by omega)⟩)
    · exfalso; omega

abbrev qX11_roadsTo_k (h : fz_H) (d t : Int) : fz_H → Option fz_V → Prop := fun h' r0 => fz_Iv h' ∧ fz_fr [(86, 99999), (87, 99999)] h h' ∧ fz_RM h' ∧ ∃ r : Int, r0 = some (fz_i r) ∧ ((-2) ≤ r ∧ r ≤ 7) ∧ (fz_rtM h h' d t r) ∧ (r = -2 ∨ 0 ≤ r)
set_option maxHeartbeats 1000000 in
set_option maxRecDepth 100000 in
theorem sX11_roadsTo_k (h : fz_H) (hI : fz_Iv h) (d t : Int) (hRM : fz_RM h) (hp0 : 0 ≤ d ∧ d ≤ 10) (hp1 : 0 ≤ t ∧ t ≤ 7) : fz_R 2 mX11_roadsTo 0 [(0, fz_r 53), (1, fz_i d), (2, fz_i t)] [] h (qX11_roadsTo_k h d t) := by
  refine fz_knowl (fun hk => ?_)
  have hr_d : -2147483648 ≤ d ∧ d < 2147483648 := hk _ (List.Mem.tail _ (List.Mem.head _))
  have hr_t : -2147483648 ≤ t ∧ t < 2147483648 := hk _ (List.Mem.tail _ (List.Mem.tail _ (List.Mem.head _)))
  clear hk
  have hf : fz_fr [(86, 99999), (87, 99999)] h h := fz_fr_rf
  refine fz_aload_n kX11_roadsTo rfl rfl ?_
  refine fz_aload_n kX11_roadsTo rfl rfl ?_
  refine fz_getR (t := 61) kX11_roadsTo rfl rfl ?_
  refine fz_iload_n kX11_roadsTo rfl rfl ?_
  refine fz_ialdV (n := 11) (v := h 61 (d.toNat)) kX11_roadsTo rfl rfl (by omega) (by omega) rfl ?_
  have b1 : 0 ≤ h 61 (d.toNat) ∧ h 61 (d.toNat) ≤ 7 := hI.1 61 _
  refine fz_iconst ⟨by decide, by decide⟩ kX11_roadsTo rfl ?_
  refine fz_callV (d' := 1) (M' := mX11_goesFrom) (As := [fz_i (h 61 (d.toNat)), fz_i 1]) (st := []) kX11_roadsTo rfl rfl vX11_goesFrom rfl rfl rfl rfl (Nat.le_of_ble_eq_true rfl) (Nat.le_of_ble_eq_true rfl) (by decide) (sX11_goesFrom_k h hI (h 61 (d.toNat)) 1 hRM (by omega) (by omega)) (fun H2 r3 q4 o5 => ?_)
  obtain ⟨hI6, hf7, hRM8, rfl, f9, f10⟩ := q4
  clear o5
  have hf11 := fz_fr_tr hf hf7 (show fz_su [(86, 99999), (87, 99999)] [(86, 99999), (87, 99999)] = true from rfl)
  refine fz_aload_n kX11_roadsTo rfl rfl ?_
  refine fz_getR (t := 86) kX11_roadsTo rfl rfl ?_
  refine fz_iload_n kX11_roadsTo rfl rfl ?_
  obtain ⟨v12, e13⟩ : ∃ z, H2 86 (t.toNat) = z := ⟨_, rfl⟩
  refine fz_ialdV (n := 8) (v := v12) kX11_roadsTo rfl rfl (by omega) (by omega) e13 ?_
  have b14 : (-2147483648) ≤ v12 ∧ v12 ≤ 2147483647 := by rw [← e13]; exact hI6.1 86 _
  refine fz_bipush ⟨by decide, by decide⟩ kX11_roadsTo rfl ?_
  refine fz_icmp_ne (tgt := 27) kX11_roadsTo rfl (by decide) (fun c15 => ?_) (fun c15 => ?_)
  · refine fz_aload_n kX11_roadsTo rfl rfl ?_
    refine fz_getR (t := 87) kX11_roadsTo rfl rfl ?_
    refine fz_iload_n kX11_roadsTo rfl rfl ?_
    obtain ⟨v16, e17⟩ : ∃ z, H2 87 (t.toNat) = z := ⟨_, rfl⟩
    refine fz_ialdV (n := 8) (v := v16) kX11_roadsTo rfl rfl (by omega) (by omega) e17 ?_
    have b18 : (-2147483648) ≤ v16 ∧ v16 ≤ 2147483647 := by rw [← e17]; exact hI6.1 87 _
    have k19 := fz_Jk_b f9 (x := t) (by omega)
    have k20 : H2 86 t.toNat = -2 ∨ 0 ≤ H2 87 t.toNat := (f10.1.2 t.toNat (by omega)).elim Or.inl (fun z => Or.inr z.1.2.1)
    exact fz_iret kX11_roadsTo rfl rfl (fun _ => ⟨hI6, hf11, hRM8, _, rfl, (by omega), (by exact ⟨f10, (by first | exact Or.inl ⟨by omega, rfl⟩ | exact Or.inr ⟨by omega, e17.symm⟩)⟩), (by omega)⟩)
  · refine fz_bipush ⟨by decide, by decide⟩ kX11_roadsTo rfl ?_
    refine fz_goto (tgt := 33) kX11_roadsTo rfl (by decide) ?_
    have k22 := fz_Jk_b f9 (x := t) (by omega)
    have k23 : H2 86 t.toNat = -2 ∨ 0 ≤ H2 87 t.toNat := (f10.1.2 t.toNat (by omega)).elim Or.inl (fun z => Or.inr z.1.2.1)
    exact fz_iret kX11_roadsTo rfl rfl (fun _ => ⟨hI6, hf11, hRM8, _, rfl, (by omega), (by exact ⟨f10, (by first | exact Or.inl ⟨by omega, rfl⟩ | exact Or.inr ⟨by omega, lost.symm⟩)⟩), (by omega)⟩)

abbrev qX11_drawn (h : fz_H) (d t se nw : Int) : fz_H → Option fz_V → Prop := fun h' r0 => fz_Iv h' ∧ fz_fr [(86, 99999), (87, 99999)] h h' ∧ fz_RM h' ∧ ∃ r : Int, r0 = some (fz_i r) ∧ ((-1) ≤ r ∧ r ≤ 200) ∧ (fz_dwM h h' d t se nw r)
set_option maxHeartbeats 1000000 in
set_option maxRecDepth 100000 in
theorem sX11_drawn (h : fz_H) (hI : fz_Iv h) (d t se nw : Int) (hRM : fz_RM h) : fz_R 3 mX11_drawn 0 [(0, fz_r 53), (1, fz_i d), (2, fz_i t), (3, fz_i se), (4, fz_i nw)] [] h (qX11_drawn h d t se nw) := by
  refine fz_knowl (fun hk => ?_)
  have hr_d : -2147483648 ≤ d ∧ d < 2147483648 := hk _ (List.Mem.tail _ (List.Mem.head _))
  have hr_t : -2147483648 ≤ t ∧ t < 2147483648 := hk _ (List.Mem.tail _ (List.Mem.tail _ (List.Mem.head _)))
  have hr_se : -2147483648 ≤ se ∧ se < 2147483648 := hk _ (List.Mem.tail _ (List.Mem.tail _ (List.Mem.tail _ (List.Mem.head _))))
  have hr_nw : -2147483648 ≤ nw ∧ nw < 2147483648 := hk _ (List.Mem.tail _ (List.Mem.tail _ (List.Mem.tail _ (List.Mem.tail _ (List.Mem.head _)))))
  clear hk
  have hf : fz_fr [(86, 99999), (87, 99999)] h h := fz_fr_rf
  refine fz_aload_n kX11_drawn rfl rfl ?_
  refine fz_iload_n kX11_drawn rfl rfl ?_
  have b1 : 0 ≤ h 53 10 ∧ h 53 10 ≤ 11 := hI.1 53 _
  refine fz_callV (d' := 1) (M' := mX11_isDeed) (As := [fz_i d]) (st := []) kX11_drawn rfl rfl vX11_isDeed rfl rfl rfl rfl (Nat.le_of_ble_eq_true rfl) (Nat.le_of_ble_eq_true rfl) (by decide) (sX11_isDeed h hI d ) (fun H2 r3 q4 o5 => ?_)
  obtain ⟨e6, y7, rfl, p8⟩ := q4
  subst H2
  clear o5
  rcases p8 with ⟨rfl, c9⟩ | ⟨rfl, c9⟩
  · refine fz_if_eq (tgt := 44) kX11_drawn rfl (by decide) (fun c10 => ?_) (fun c10 => ?_)
    · exfalso; omega
    · refine fz_aload_n kX11_drawn rfl rfl ?_
      refine fz_iload_n kX11_drawn rfl rfl ?_
      have b11 : 0 ≤ h 53 0 ∧ h 53 0 ≤ 8 := hI.1 53 _
      refine fz_callV (d' := 1) (M' := mX11_isTown) (As := [fz_i t]) (st := []) kX11_drawn rfl rfl vX11_isTown rfl rfl rfl rfl (Nat.le_of_ble_eq_true rfl) (Nat.le_of_ble_eq_true rfl) (by decide) (sX11_isTown h hI t ) (fun H12 r13 q14 o15 => ?_)
      obtain ⟨e16, y17, rfl, p18⟩ := q14
      subst H12
      clear o15
      rcases p18 with ⟨rfl, c19⟩ | ⟨rfl, c19⟩
      · refine fz_if_eq (tgt := 44) kX11_drawn rfl (by decide) (fun c20 => ?_) (fun c20 => ?_)
        · exfalso; omega
        · refine fz_iload kX11_drawn rfl rfl ?_
          refine fz_if_lt (tgt := 44) kX11_drawn rfl (by decide) (fun c21 => ?_) (fun c21 => ?_)
          · refine fz_iconst ⟨by decide, by decide⟩ kX11_drawn rfl ?_
            exact fz_iret kX11_drawn rfl rfl (fun _ => ⟨hI, hf, hRM, _, rfl, (by omega), (by first | exact Or.inr ⟨(by unfold fz_dwO; omega), _, lost, Or.inr (Or.inr ⟨(by unfold fz_dwO; omega), by omega, fz_d3_0 lost (by omega) (by omega)⟩)⟩ | exact Or.inr ⟨(by unfold fz_dwO; omega), _, lost, Or.inr (Or.inr ⟨(by unfold fz_dwO; omega), by omega, fz_d3_1 lost (by omega) (by omega)⟩)⟩ | exact Or.inr ⟨(by unfold fz_dwO; omega), _, lost, Or.inr (Or.inl ⟨(by unfold fz_dwO; omega), by omega, rfl⟩)⟩ | exact Or.inl ⟨(by unfold fz_dwO; omega), rfl⟩)⟩)
          · refine fz_iload kX11_drawn rfl rfl ?_
            refine fz_bipush ⟨by decide, by decide⟩ kX11_drawn rfl ?_
            refine fz_idivN kX11_drawn rfl (by omega) (by omega) (by omega) ?_
            refine fz_iconst ⟨by decide, by decide⟩ kX11_drawn rfl ?_
            refine fz_bipush ⟨by decide, by decide⟩ kX11_drawn rfl ?_
            refine fz_callS (d' := 0) (M' := mX11_within) (As := [fz_i (nw / 10), fz_i 1, fz_i 50]) (st := []) kX11_drawn rfl rfl vX11_within rfl rfl (Nat.le_of_ble_eq_true rfl) (Nat.le_of_ble_eq_true rfl) (by decide) (sX11_within h hI (nw / 10) 1 50 ) (fun H23 r24 q25 o26 => ?_)
            obtain ⟨e27, y28, rfl, p29⟩ := q25
            subst H23
            clear o26
            rcases p29 with ⟨rfl, c30⟩ | ⟨rfl, c30⟩
            · refine fz_if_eq (tgt := 44) kX11_drawn rfl (by decide) (fun c31 => ?_) (fun c31 => ?_)
              · exfalso; omega
              · refine fz_iload kX11_drawn rfl rfl ?_
                refine fz_bipush ⟨by decide, by decide⟩ kX11_drawn rfl ?_
                refine fz_iremN kX11_drawn rfl (by omega) (by omega) (by omega) ?_
                refine fz_iconst ⟨by decide, by decide⟩ kX11_drawn rfl ?_
                refine fz_icmp_le (tgt := 46) kX11_drawn rfl (by decide) (fun c32 => ?_) (fun c32 => ?_)
                · refine fz_aload_n kX11_drawn rfl rfl ?_
                  refine fz_iload_n kX11_drawn rfl rfl ?_
                  refine fz_iload_n kX11_drawn rfl rfl ?_
                  refine fz_callV (d' := 2) (M' := mX11_roadsTo) (As := [fz_i d, fz_i t]) (st := []) kX11_drawn rfl rfl vX11_roadsTo rfl rfl rfl rfl (Nat.le_of_ble_eq_true rfl) (Nat.le_of_ble_eq_true rfl) (by decide) (sX11_roadsTo_k h hI d t hRM (by omega) (by omega)) (fun H33 r34 q35 o36 => ?_)
                  obtain ⟨hI37, hf38, hRM39, y43, rfl, f40, f41, f42⟩ := q35
                  clear o36
                  have hf44 := fz_fr_tr hf hf38 (show fz_su [(86, 99999), (87, 99999)] [(86, 99999), (87, 99999)] = true from rfl)
                  refine fz_istore (ls' := [(5, fz_i y43), (0, fz_r 53), (1, fz_i d), (2, fz_i t), (3, fz_i se), (4, fz_i nw)]) kX11_drawn rfl (by decide) rfl ?_
                  refine fz_iload kX11_drawn rfl rfl ?_
                  refine fz_bipush ⟨by decide, by decide⟩ kX11_drawn rfl ?_
                  refine fz_icmp_ne (tgt := 63) kX11_drawn rfl (by decide) (fun c45 => ?_) (fun c45 => ?_)
                  · refine fz_iload_n kX11_drawn rfl rfl ?_
                    refine fz_istore (ls' := [(6, fz_i se), (5, fz_i y43), (0, fz_r 53), (1, fz_i d), (2, fz_i t), (3, fz_i se), (4, fz_i nw)]) kX11_drawn rfl (by decide) rfl ?_
                    refine fz_iconst ⟨by decide, by decide⟩ kX11_drawn rfl ?_
                    refine fz_istore (ls' := [(7, fz_i 0), (6, fz_i se), (5, fz_i y43), (0, fz_r 53), (1, fz_i d), (2, fz_i t), (3, fz_i se), (4, fz_i nw)]) kX11_drawn rfl (by decide) rfl ?_
                    refine fz_iconst ⟨by decide, by decide⟩ kX11_drawn rfl ?_
                    refine fz_istore (ls' := [(8, fz_i 0), (7, fz_i 0), (6, fz_i se), (5, fz_i y43), (0, fz_r 53), (1, fz_i d), (2, fz_i t), (3, fz_i se), (4, fz_i nw)]) kX11_drawn rfl (by decide) rfl ?_
                    refine fz_iconst ⟨by decide, by decide⟩ kX11_drawn rfl ?_
                    refine fz_istore (ls' := [(9, fz_i 0), (8, fz_i 0), (7, fz_i 0), (6, fz_i se), (5, fz_i y43), (0, fz_r 53), (1, fz_i d), (2, fz_i t), (3, fz_i se), (4, fz_i nw)]) kX11_drawn rfl (by decide) rfl ?_
                    have lp51 : ∀ (n50 : Nat) (x46 : Int) (x47 : Int) (x48 : Int) (x49 : Int), (0 ≤ x46 ∧ x46 ≤ 2147483647) → (0 ≤ x47 ∧ x47 ≤ 200) → (0 ≤ x48 ∧ x48 ≤ 50) → ((-2147483648) ≤ x49 ∧ x49 ≤ 2147483647) → (x48 ≤ x46) → (x47 ≤ 4 * x46) → (x46 ≤ nw / 10) → ((x49, x48, x47) = fz_d2 (h 53 9) (h 63 d.toNat) (y43).toNat (x46).toNat (se, 0, 0)) → ((nw / 10) - x46).toNat < n50 → fz_R 3 mX11_drawn 75 [(9, fz_i x46), (8, fz_i x47), (7, fz_i x48), (6, fz_i x49), (5, fz_i y43), (0, fz_r 53), (1, fz_i d), (2, fz_i t), (3, fz_i se), (4, fz_i nw)] [] H33 (qX11_drawn h d t se nw) := by
                      intro n50
                      induction n50 with
                      | zero => intro x46 x47 x48 x49 hv54 hv55 hv56 hv57 hv58 hv59 hv60 hv61 hm53; exact absurd hm53 (by omega)
                      | succ n50 ih52 =>
                        intro x46 x47 x48 x49 hv54 hv55 hv56 hv57 hv58 hv59 hv60 hv61 hm53
                        refine fz_iload kX11_drawn rfl rfl ?_
                        refine fz_iload kX11_drawn rfl rfl ?_
                        refine fz_bipush ⟨by decide, by decide⟩ kX11_drawn rfl ?_
                        refine fz_idivN kX11_drawn rfl (by omega) (by omega) (by omega) ?_
                        refine fz_icmp_ge (tgt := 171) kX11_drawn rfl (by decide) (fun c62 => ?_) (fun c62 => ?_)
                        · refine fz_iload kX11_drawn rfl rfl ?_
                          refine fz_bipush ⟨by decide, by decide⟩ kX11_drawn rfl ?_
                          refine fz_iremN kX11_drawn rfl (by omega) (by omega) (by omega) ?_
                          refine fz_if_ne (tgt := 184) kX11_drawn rfl (by decide) (fun c63 => ?_) (fun c63 => ?_)
                          · refine fz_iload kX11_drawn rfl rfl ?_
                            exact fz_iret kX11_drawn rfl rfl (fun _ => ⟨hI37, hf44, hRM39, _, rfl, (by omega), (by first | exact Or.inr ⟨(by unfold fz_dwO; omega), _, f41, Or.inr (Or.inr ⟨(by unfold fz_dwO; omega), by omega, fz_d3_0 hv61 (by omega) (by omega)⟩)⟩ | exact Or.inr ⟨(by unfold fz_dwO; omega), _, f41, Or.inr (Or.inr ⟨(by unfold fz_dwO; omega), by omega, fz_d3_1 hv61 (by omega) (by omega)⟩)⟩ | exact Or.inr ⟨(by unfold fz_dwO; omega), _, f41, Or.inr (Or.inl ⟨(by unfold fz_dwO; omega), by omega, rfl⟩)⟩ | exact Or.inl ⟨(by unfold fz_dwO; omega), rfl⟩)⟩)
                          · refine fz_iload kX11_drawn rfl rfl ?_
                            refine fz_goto (tgt := 186) kX11_drawn rfl (by decide) ?_
                            exact fz_iret kX11_drawn rfl rfl (fun _ => ⟨hI37, hf44, hRM39, _, rfl, (by omega), (by first | exact Or.inr ⟨(by unfold fz_dwO; omega), _, f41, Or.inr (Or.inr ⟨(by unfold fz_dwO; omega), by omega, fz_d3_0 hv61 (by omega) (by omega)⟩)⟩ | exact Or.inr ⟨(by unfold fz_dwO; omega), _, f41, Or.inr (Or.inr ⟨(by unfold fz_dwO; omega), by omega, fz_d3_1 hv61 (by omega) (by omega)⟩)⟩ | exact Or.inr ⟨(by unfold fz_dwO; omega), _, f41, Or.inr (Or.inl ⟨(by unfold fz_dwO; omega), by omega, rfl⟩)⟩ | exact Or.inl ⟨(by unfold fz_dwO; omega), rfl⟩)⟩)
                        · refine fz_aload_n kX11_drawn rfl rfl ?_
                          refine fz_getR (t := 63) kX11_drawn rfl rfl ?_
                          refine fz_iload_n kX11_drawn rfl rfl ?_
                          refine fz_ialdV (n := 11) (v := h 63 (d.toNat)) kX11_drawn rfl rfl (by omega) (by omega) (hf44 63 _ rfl) ?_
                          have b66 : 0 ≤ h 63 (d.toNat) ∧ h 63 (d.toNat) ≤ 4 := hI.1 63 _
                          refine fz_istore (ls' := [(10, fz_i (h 63 (d.toNat))), (9, fz_i x46), (8, fz_i x47), (7, fz_i x48), (6, fz_i x49), (5, fz_i y43), (0, fz_r 53), (1, fz_i d), (2, fz_i t), (3, fz_i se), (4, fz_i nw)]) kX11_drawn rfl (by decide) rfl ?_
                          obtain ⟨k67, k68⟩ : ∃ z, z = x49 := ⟨_, rfl⟩
                          obtain ⟨k70, k71⟩ : ∃ z, z = x48 := ⟨_, rfl⟩
                          obtain ⟨k73, k74⟩ : ∃ z, z = x47 := ⟨_, rfl⟩
                          refine fz_iconst ⟨by decide, by decide⟩ kX11_drawn rfl ?_
                          refine fz_istore (ls' := [(11, fz_i 0), (10, fz_i (h 63 (d.toNat))), (9, fz_i x46), (8, fz_i x47), (7, fz_i x48), (6, fz_i x49), (5, fz_i y43), (0, fz_r 53), (1, fz_i d), (2, fz_i t), (3, fz_i se), (4, fz_i nw)]) kX11_drawn rfl (by decide) rfl ?_
                          have lp80 : ∀ (n79 : Nat) (x76 : Int) (x77 : Int) (x78 : Int), (0 ≤ x76 ∧ x76 ≤ 2147483647) → (0 ≤ x77 ∧ x77 ≤ 4) → ((-2147483648) ≤ x78 ∧ x78 ≤ 2147483647) → (x76 ≤ y43) → ((x78, x77) = fz_d1 (h 53 9) (x76).toNat (k67, h 63 d.toNat)) → (y43 - x76).toNat < n79 → fz_R 3 mX11_drawn 96 [(11, fz_i x76), (10, fz_i x77), (9, fz_i x46), (8, fz_i x47), (7, fz_i x48), (6, fz_i x78), (5, fz_i y43), (0, fz_r 53), (1, fz_i d), (2, fz_i t), (3, fz_i se), (4, fz_i nw)] [] H33 (qX11_drawn h d t se nw) := by
                            intro n79
                            induction n79 with
                            | zero => intro x76 x77 x78 hv83 hv84 hv85 hv86 hv87 hm82; exact absurd hm82 (by omega)
                            | succ n79 ih81 =>
                              intro x76 x77 x78 hv83 hv84 hv85 hv86 hv87 hm82
                              refine fz_iload kX11_drawn rfl rfl ?_
                              refine fz_iload kX11_drawn rfl rfl ?_
                              refine fz_icmp_ge (tgt := 144) kX11_drawn rfl (by decide) (fun c88 => ?_) (fun c88 => ?_)
                              · refine fz_iload kX11_drawn rfl rfl ?_
                                refine fz_aload_n kX11_drawn rfl rfl ?_
                                refine fz_getR (t := 63) kX11_drawn rfl rfl ?_
                                refine fz_iload_n kX11_drawn rfl rfl ?_
                                refine fz_ialdV (n := 11) (v := h 63 (d.toNat)) kX11_drawn rfl rfl (by omega) (by omega) (hf44 63 _ rfl) ?_
                                refine fz_icmp_ne (tgt := 158) kX11_drawn rfl (by decide) (fun c89 => ?_) (fun c89 => ?_)
                                · refine fz_iload kX11_drawn rfl rfl ?_
                                  refine fz_iload kX11_drawn rfl rfl ?_
                                  refine fz_iaddN kX11_drawn rfl (by omega) ?_
                                  refine fz_istore (ls' := [(8, fz_i (x47 + x77)), (11, fz_i x76), (10, fz_i x77), (9, fz_i x46), (7, fz_i x48), (6, fz_i x78), (5, fz_i y43), (0, fz_r 53), (1, fz_i d), (2, fz_i t), (3, fz_i se), (4, fz_i nw)]) kX11_drawn rfl (by decide) rfl ?_
                                  refine fz_iincN (ls' := [(9, fz_i (x46 + 1)), (8, fz_i (x47 + x77)), (11, fz_i x76), (10, fz_i x77), (7, fz_i x48), (6, fz_i x78), (5, fz_i y43), (0, fz_r 53), (1, fz_i d), (2, fz_i t), (3, fz_i se), (4, fz_i nw)]) kX11_drawn rfl (by decide) rfl (by omega) rfl ?_
                                  refine fz_goto (tgt := 75) kX11_drawn rfl (by decide) ?_
                                  refine fz_sub (fz_pk_sub (ls' := [(9, fz_i (x46 + 1)), (8, fz_i (x47 + x77)), (7, fz_i x48), (6, fz_i x78), (5, fz_i y43), (0, fz_r 53), (1, fz_i d), (2, fz_i t), (3, fz_i se), (4, fz_i nw)]) [0, 1, 4, 5, 6, 7, 8, 9, 10, 11] rfl) ?_
                                  exact ih52 (x46 + 1) (x47 + x77) x48 x78 (by omega) (by omega) (by omega) (by omega) (by omega) (by omega) (by omega) (fz_d2_st (rd := y43) (k := x76) (m := x77) hv61 (by omega) (by rw [← k68]; exact hv87) (by omega) (by first | (rw [if_pos (by omega)]) | (rw [if_neg (by omega), Int.add_zero]) | (rw [if_neg (by omega)])) rfl) (by omega)
                                · refine fz_iincN (ls' := [(7, fz_i (x48 + 1)), (11, fz_i x76), (10, fz_i x77), (9, fz_i x46), (8, fz_i x47), (6, fz_i x78), (5, fz_i y43), (0, fz_r 53), (1, fz_i d), (2, fz_i t), (3, fz_i se), (4, fz_i nw)]) kX11_drawn rfl (by decide) rfl (by omega) rfl ?_
                                  refine fz_iload kX11_drawn rfl rfl ?_
                                  refine fz_iload kX11_drawn rfl rfl ?_
                                  refine fz_iaddN kX11_drawn rfl (by omega) ?_
                                  refine fz_istore (ls' := [(8, fz_i (x47 + x77)), (7, fz_i (x48 + 1)), (11, fz_i x76), (10, fz_i x77), (9, fz_i x46), (6, fz_i x78), (5, fz_i y43), (0, fz_r 53), (1, fz_i d), (2, fz_i t), (3, fz_i se), (4, fz_i nw)]) kX11_drawn rfl (by decide) rfl ?_
                                  refine fz_iincN (ls' := [(9, fz_i (x46 + 1)), (8, fz_i (x47 + x77)), (7, fz_i (x48 + 1)), (11, fz_i x76), (10, fz_i x77), (6, fz_i x78), (5, fz_i y43), (0, fz_r 53), (1, fz_i d), (2, fz_i t), (3, fz_i se), (4, fz_i nw)]) kX11_drawn rfl (by decide) rfl (by omega) rfl ?_
                                  refine fz_goto (tgt := 75) kX11_drawn rfl (by decide) ?_
                                  refine fz_sub (fz_pk_sub (ls' := [(9, fz_i (x46 + 1)), (8, fz_i (x47 + x77)), (7, fz_i (x48 + 1)), (6, fz_i x78), (5, fz_i y43), (0, fz_r 53), (1, fz_i d), (2, fz_i t), (3, fz_i se), (4, fz_i nw)]) [0, 1, 2, 5, 6, 7, 8, 9, 10, 11] rfl) ?_
                                  exact ih52 (x46 + 1) (x47 + x77) (x48 + 1) x78 (by omega) (by omega) (by omega) (by omega) (by omega) (by omega) (by omega) (fz_d2_st (rd := y43) (k := x76) (m := x77) hv61 (by omega) (by rw [← k68]; exact hv87) (by omega) (by first | (rw [if_pos (by omega)]) | (rw [if_neg (by omega), Int.add_zero]) | (rw [if_neg (by omega)])) rfl) (by omega)
                              · refine fz_iload kX11_drawn rfl rfl ?_
                                refine fz_ldcw (x := 1103515245) kX11_drawn rfl rfl rfl ?_
                                refine fz_imul kX11_drawn rfl ?_
                                have b92 := fz_w_b (x78 * 1103515245)
                                refine fz_sipush ⟨by decide, by decide⟩ kX11_drawn rfl ?_
                                refine fz_iadd kX11_drawn rfl ?_
                                have b93 := fz_w_b ((fz_w (x78 * 1103515245)) + 12345)
                                refine fz_istore (ls' := [(6, fz_i (fz_w ((fz_w (x78 * 1103515245)) + 12345))), (11, fz_i x76), (10, fz_i x77), (9, fz_i x46), (8, fz_i x47), (7, fz_i x48), (5, fz_i y43), (0, fz_r 53), (1, fz_i d), (2, fz_i t), (3, fz_i se), (4, fz_i nw)]) kX11_drawn rfl (by decide) rfl ?_
                                refine fz_iload kX11_drawn rfl rfl ?_
                                refine fz_bipush ⟨by decide, by decide⟩ kX11_drawn rfl ?_
                                refine fz_iushr kX11_drawn rfl ?_
                                have b94 : -2147483648 ≤ (fz_ush (fz_w ((fz_w (x78 * 1103515245)) + 12345)) 8) ∧ (fz_ush (fz_w ((fz_w (x78 * 1103515245)) + 12345)) 8) < 2147483648 := fz_b32 _
                                have k95 : 0 ≤ (fz_ush (fz_w ((fz_w (x78 * 1103515245)) + 12345)) 8) ∧ (fz_ush (fz_w ((fz_w (x78 * 1103515245)) + 12345)) 8) ≤ 16777215 := fz_ush_8
                                have k97 : 0 ≤ (fz_ush (fz_w ((fz_w (x78 * 1103515245)) + 12345)) 8) ∧ (fz_ush (fz_w ((fz_w (x78 * 1103515245)) + 12345)) 8) ≤ 16777215 := by omega
                                refine fz_bipush ⟨by decide, by decide⟩ kX11_drawn rfl ?_
                                refine fz_iremN kX11_drawn rfl (by omega) (by omega) (by omega) ?_
                                refine fz_aload_n kX11_drawn rfl rfl ?_
                                refine fz_getV (v := h 53 9) kX11_drawn rfl rfl (hf44 53 9 rfl) ?_
                                have b98 : 0 ≤ h 53 9 ∧ h 53 9 ≤ 12 := hI.1 53 _
                                refine fz_icmp_ge (tgt := 138) kX11_drawn rfl (by decide) (fun c99 => ?_) (fun c99 => ?_)
                                · refine fz_iincN (ls' := [(11, fz_i (x76 + 1)), (6, fz_i (fz_w ((fz_w (x78 * 1103515245)) + 12345))), (10, fz_i x77), (9, fz_i x46), (8, fz_i x47), (7, fz_i x48), (5, fz_i y43), (0, fz_r 53), (1, fz_i d), (2, fz_i t), (3, fz_i se), (4, fz_i nw)]) kX11_drawn rfl (by decide) rfl (by omega) rfl ?_
                                  refine fz_goto (tgt := 96) kX11_drawn rfl (by decide) ?_
                                  refine fz_sub (fz_pk_sub (ls' := [(11, fz_i (x76 + 1)), (10, fz_i x77), (9, fz_i x46), (8, fz_i x47), (7, fz_i x48), (6, fz_i (fz_w ((fz_w (x78 * 1103515245)) + 12345))), (5, fz_i y43), (0, fz_r 53), (1, fz_i d), (2, fz_i t), (3, fz_i se), (4, fz_i nw)]) [0, 2, 3, 4, 5, 1, 6, 7, 8, 9, 10, 11] rfl) ?_
                                  exact ih81 (x76 + 1) x77 (fz_w ((fz_w (x78 * 1103515245)) + 12345)) (by omega) (by omega) (by omega) (by omega) (by first | exact fz_d1_y hv87 (by omega) (by omega) | exact fz_d1_n hv87 (by omega) (by omega)) (by omega)
                                · refine fz_iload kX11_drawn rfl rfl ?_
                                  refine fz_iconst ⟨by decide, by decide⟩ kX11_drawn rfl ?_
                                  refine fz_iaddN kX11_drawn rfl (by omega) ?_
                                  refine fz_iconst ⟨by decide, by decide⟩ kX11_drawn rfl ?_
                                  refine fz_iremN kX11_drawn rfl (by omega) (by omega) (by omega) ?_
                                  refine fz_istore (ls' := [(10, fz_i ((x77 + 1) % 5)), (6, fz_i (fz_w ((fz_w (x78 * 1103515245)) + 12345))), (11, fz_i x76), (9, fz_i x46), (8, fz_i x47), (7, fz_i x48), (5, fz_i y43), (0, fz_r 53), (1, fz_i d), (2, fz_i t), (3, fz_i se), (4, fz_i nw)]) kX11_drawn rfl (by decide) rfl ?_
                                  refine fz_iincN (ls' := [(11, fz_i (x76 + 1)), (10, fz_i ((x77 + 1) % 5)), (6, fz_i (fz_w ((fz_w (x78 * 1103515245)) + 12345))), (9, fz_i x46), (8, fz_i x47), (7, fz_i x48), (5, fz_i y43), (0, fz_r 53), (1, fz_i d), (2, fz_i t), (3, fz_i se), (4, fz_i nw)]) kX11_drawn rfl (by decide) rfl (by omega) rfl ?_
                                  refine fz_goto (tgt := 96) kX11_drawn rfl (by decide) ?_
                                  refine fz_sub (fz_pk_sub (ls' := [(11, fz_i (x76 + 1)), (10, fz_i ((x77 + 1) % 5)), (9, fz_i x46), (8, fz_i x47), (7, fz_i x48), (6, fz_i (fz_w ((fz_w (x78 * 1103515245)) + 12345))), (5, fz_i y43), (0, fz_r 53), (1, fz_i d), (2, fz_i t), (3, fz_i se), (4, fz_i nw)]) [0, 1, 3, 4, 5, 2, 6, 7, 8, 9, 10, 11] rfl) ?_
                                  exact ih81 (x76 + 1) ((x77 + 1) % 5) (fz_w ((fz_w (x78 * 1103515245)) + 12345)) (by omega) (by omega) (by omega) (by omega) (by first | exact fz_d1_y hv87 (by omega) (by omega) | exact fz_d1_n hv87 (by omega) (by omega)) (by omega)
                          exact lp80 _ 0 (h 63 (d.toNat)) x49 (by omega) (by omega) (by omega) (by omega) (by rw [k68]; rfl) (Nat.lt_succ_self _)
                    exact lp51 _ 0 0 0 se (by omega) (by omega) (by omega) (by omega) (by omega) (by omega) (by omega) (rfl) (Nat.lt_succ_self _)
                  · refine fz_iconst ⟨by decide, by decide⟩ kX11_drawn rfl ?_
                    exact fz_iret kX11_drawn rfl rfl (fun _ => ⟨hI37, hf44, hRM39, _, rfl, (by omega), (by first | exact Or.inr ⟨(by unfold fz_dwO; omega), _, f41, Or.inr (Or.inr ⟨(by unfold fz_dwO; omega), by omega, fz_d3_0 lost (by omega) (by omega)⟩)⟩ | exact Or.inr ⟨(by unfold fz_dwO; omega), _, f41, Or.inr (Or.inr ⟨(by unfold fz_dwO; omega), by omega, fz_d3_1 lost (by omega) (by omega)⟩)⟩ | exact Or.inr ⟨(by unfold fz_dwO; omega), _, f41, Or.inr (Or.inl ⟨(by unfold fz_dwO; omega), by omega, rfl⟩)⟩ | exact Or.inl ⟨(by unfold fz_dwO; omega), rfl⟩)⟩)
                · refine fz_iconst ⟨by decide, by decide⟩ kX11_drawn rfl ?_
                  exact fz_iret kX11_drawn rfl rfl (fun _ => ⟨hI, hf, hRM, _, rfl, (by omega), (by first | exact Or.inr ⟨(by unfold fz_dwO; omega), _, lost, Or.inr (Or.inr ⟨(by unfold fz_dwO; omega), by omega, fz_d3_0 lost (by omega) (by omega)⟩)⟩ | exact Or.inr ⟨(by unfold fz_dwO; omega), _, lost, Or.inr (Or.inr ⟨(by unfold fz_dwO; omega), by omega, fz_d3_1 lost (by omega) (by omega)⟩)⟩ | exact Or.inr ⟨(by unfold fz_dwO; omega), _, lost, Or.inr (Or.inl ⟨(by unfold fz_dwO; omega), by omega, rfl⟩)⟩ | exact Or.inl ⟨(by unfold fz_dwO; omega), rfl⟩)⟩)
            · refine fz_if_eq (tgt := 44) kX11_drawn rfl (by decide) (fun c106 => ?_) (fun c106 => ?_)
              · refine fz_iconst ⟨by decide, by decide⟩ kX11_drawn rfl ?_
                exact fz_iret kX11_drawn rfl rfl (fun _ => ⟨hI, hf, hRM, _, rfl, (by omega), (by first | exact Or.inr ⟨(by unfold fz_dwO; omega), _, lost, Or.inr (Or.inr ⟨(by unfold fz_dwO; omega), by omega, fz_d3_0 lost (by omega) (by omega)⟩)⟩ | exact Or.inr ⟨(by unfold fz_dwO; omega), _, lost, Or.inr (Or.inr ⟨(by unfold fz_dwO; omega), by omega, fz_d3_1 lost (by omega) (by omega)⟩)⟩ | exact Or.inr ⟨(by unfold fz_dwO; omega), _, lost, Or.inr (Or.inl ⟨(by unfold fz_dwO; omega), by omega, rfl⟩)⟩ | exact Or.inl ⟨(by unfold fz_dwO; omega), rfl⟩)⟩)
              · exfalso; omega
      · refine fz_if_eq (tgt := 44) kX11_drawn rfl (by decide) (fun c108 => ?_) (fun c108 => ?_)
        · refine fz_iconst ⟨by decide, by decide⟩ kX11_drawn rfl ?_
          exact fz_iret kX11_drawn rfl rfl (fun _ => ⟨hI, hf, hRM, _, rfl, (by omega), (by first | exact Or.inr ⟨(by unfold fz_dwO; omega), _, lost, Or.inr (Or.inr ⟨(by unfold fz_dwO; omega), by omega, fz_d3_0 lost (by omega) (by omega)⟩)⟩ | exact Or.inr ⟨(by unfold fz_dwO; omega), _, lost, Or.inr (Or.inr ⟨(by unfold fz_dwO; omega), by omega, fz_d3_1 lost (by omega) (by omega)⟩)⟩ | exact Or.inr ⟨(by unfold fz_dwO; omega), _, lost, Or.inr (Or.inl ⟨(by unfold fz_dwO; omega), by omega, rfl⟩)⟩ | exact Or.inl ⟨(by unfold fz_dwO; omega), rfl⟩)⟩)
        · exfalso; omega
  · refine fz_if_eq (tgt := 44) kX11_drawn rfl (by decide) (fun c110 => ?_) (fun c110 => ?_)
    · refine fz_iconst ⟨by decide, by decide⟩ kX11_drawn rfl ?_
      exact fz_iret kX11_drawn rfl rfl (fun _ => ⟨hI, hf, hRM, _, rfl, (by omega), (by first | exact Or.inr ⟨(by unfold fz_dwO; omega), _, lost, Or.inr (Or.inr ⟨(by unfold fz_dwO; omega), by omega, fz_d3_0 lost (by omega) (by omega)⟩)⟩ | exact Or.inr ⟨(by unfold fz_dwO; omega), _, lost, Or.inr (Or.inr ⟨(by unfold fz_dwO; omega), by omega, fz_d3_1 lost (by omega) (by omega)⟩)⟩ | exact Or.inr ⟨(by unfold fz_dwO; omega), _, lost, Or.inr (Or.inl ⟨(by unfold fz_dwO; omega), by omega, rfl⟩)⟩ | exact Or.inl ⟨(by unfold fz_dwO; omega), rfl⟩)⟩)
    · exfalso; omega

abbrev qX11_walk (h : fz_H) (on rd : Int) : fz_H → Option fz_V → Prop := fun h' r0 => fz_Iv h' ∧ fz_fr [(53, 34), (74, 99999), (75, 99999), (76, 99999), (77, 99999), (86, 99999), (87, 99999), (88, 99999)] h h' ∧ fz_Xw h' ∧ fz_RM h' ∧ fl_RPm h' ∧ ∃ r : Int, r0 = some (fz_i r) ∧ ((-5) ≤ r ∧ r ≤ 7) ∧ (fz_wkM h h' on rd r) ∧ (fl_wdM h h' on rd r)
set_option maxHeartbeats 1000000 in
set_option maxRecDepth 100000 in
theorem sX11_walk (h : fz_H) (hI : fz_Iv h) (on rd : Int) (hXw : fz_Xw h) (hRM : fz_RM h) (hRPm : fl_RPm h) : fz_R 5 mX11_walk 0 [(0, fz_r 53), (1, fz_i on), (2, fz_i rd)] [] h (qX11_walk h on rd) := by
  refine fz_knowl (fun hk => ?_)
  have hr_on : -2147483648 ≤ on ∧ on < 2147483648 := hk _ (List.Mem.tail _ (List.Mem.head _))
  have hr_rd : -2147483648 ≤ rd ∧ rd < 2147483648 := hk _ (List.Mem.tail _ (List.Mem.tail _ (List.Mem.head _)))
  clear hk
  have hf : fz_fr [(53, 34), (74, 99999), (75, 99999), (76, 99999), (77, 99999), (86, 99999), (87, 99999), (88, 99999)] h h := fz_fr_rf
  have k1 : 0 ≤ h 53 0 ∧ h 53 0 ≤ 8 := hI.1 53 _
  refine fz_iload_n kX11_walk rfl rfl ?_
  refine fz_callS (d' := 1) (M' := mX11_isPerson) (As := [fz_i on]) (st := []) kX11_walk rfl rfl vX11_isPerson rfl rfl (Nat.le_of_ble_eq_true rfl) (Nat.le_of_ble_eq_true rfl) (by decide) (sX11_isPerson h hI on ) (fun H2 r3 q4 o5 => ?_)
  obtain ⟨e6, y7, rfl, p8⟩ := q4
  subst H2
  clear o5
  rcases p8 with ⟨rfl, c9⟩ | ⟨rfl, c9⟩
  · refine fz_if_eq (tgt := 15) kX11_walk rfl (by decide) (fun c10 => ?_) (fun c10 => ?_)
    · exfalso; omega
    · refine fz_aload_n kX11_walk rfl rfl ?_
      refine fz_iload_n kX11_walk rfl rfl ?_
      have b11 : 0 ≤ h 53 2 ∧ h 53 2 ≤ 12 := hI.1 53 _
      refine fz_callV (d' := 1) (M' := mX11_isRoad) (As := [fz_i rd]) (st := []) kX11_walk rfl rfl vX11_isRoad rfl rfl rfl rfl (Nat.le_of_ble_eq_true rfl) (Nat.le_of_ble_eq_true rfl) (by decide) (sX11_isRoad h hI rd ) (fun H12 r13 q14 o15 => ?_)
      obtain ⟨e16, y17, rfl, p18⟩ := q14
      subst H12
      clear o15
      rcases p18 with ⟨rfl, c19⟩ | ⟨rfl, c19⟩
      · refine fz_if_ne (tgt := 17) kX11_walk rfl (by decide) (fun c20 => ?_) (fun c20 => ?_)
        · refine fz_aload_n kX11_walk rfl rfl ?_
          refine fz_getR (t := 76) kX11_walk rfl rfl ?_
          refine fz_iload_n kX11_walk rfl rfl ?_
          refine fz_ialdV (n := 4) (v := h 76 (on.toNat)) kX11_walk rfl rfl (by omega) (by omega) rfl ?_
          have b21 : 0 ≤ h 76 (on.toNat) ∧ h 76 (on.toNat) ≤ 7 := hI.1 76 _
          refine fz_istore_n (ls' := [(3, fz_i (h 76 (on.toNat))), (0, fz_r 53), (1, fz_i on), (2, fz_i rd)]) kX11_walk rfl (by decide) rfl ?_
          refine fz_aload_n kX11_walk rfl rfl ?_
          refine fz_getR (t := 55) kX11_walk rfl rfl ?_
          refine fz_iload_n kX11_walk rfl rfl ?_
          refine fz_ialdV (n := 12) (v := h 55 (rd.toNat)) kX11_walk rfl rfl (by omega) (by omega) rfl ?_
          have b22 : 0 ≤ h 55 (rd.toNat) ∧ h 55 (rd.toNat) ≤ 7 := hI.1 55 _
          refine fz_iload_n kX11_walk rfl rfl ?_
          refine fz_icmp_eq (tgt := 47) kX11_walk rfl (by decide) (fun c23 => ?_) (fun c23 => ?_)
          · refine fz_aload_n kX11_walk rfl rfl ?_
            refine fz_getV (v := h 53 34) kX11_walk rfl rfl rfl ?_
            have b24 : 0 ≤ h 53 34 ∧ h 53 34 ≤ 999 := hI.1 53 _
            refine fz_aload_n kX11_walk rfl rfl ?_
            refine fz_getR (t := 57) kX11_walk rfl rfl ?_
            refine fz_iload_n kX11_walk rfl rfl ?_
            refine fz_ialdV (n := 12) (v := h 57 (rd.toNat)) kX11_walk rfl rfl (by omega) (by omega) rfl ?_
            have b25 : 0 ≤ h 57 (rd.toNat) ∧ h 57 (rd.toNat) ≤ 24 := hI.1 57 _
            refine fz_iaddN kX11_walk rfl (by omega) ?_
            refine fz_sipush ⟨by decide, by decide⟩ kX11_walk rfl ?_
            refine fz_icmp_le (tgt := 67) kX11_walk rfl (by decide) (fun c26 => ?_) (fun c26 => ?_)
            · refine fz_aload_n kX11_walk rfl rfl ?_
              refine fz_dup rfl kX11_walk rfl ?_
              refine fz_getV (v := h 53 34) kX11_walk rfl rfl rfl ?_
              refine fz_aload_n kX11_walk rfl rfl ?_
              refine fz_getR (t := 57) kX11_walk rfl rfl ?_
              refine fz_iload_n kX11_walk rfl rfl ?_
              refine fz_ialdV (n := 12) (v := h 57 (rd.toNat)) kX11_walk rfl rfl (by omega) (by omega) rfl ?_
              refine fz_iaddN kX11_walk rfl (by omega) ?_
              refine fz_putI kX11_walk rfl rfl rfl ?_
              refine fz_nmu (S := [(53, 34), (74, 99999), (75, 99999), (76, 99999), (77, 99999), (86, 99999), (87, 99999), (88, 99999)]) (h0 := h) (fz_Iv_up hI (by decide) (show (0 : Int) ≤ ((h 53 34) + (h 57 (rd.toNat))) by omega) (show (((h 53 34) + (h 57 (rd.toNat))) : Int) ≤ 999 by omega)) (fz_fr_up hf rfl) (fun H27 hI28 hf29 e30 => ?_)
              have k31 : H27 53 34 = ((h 53 34) + (h 57 (rd.toNat))) := by rw [e30]; exact fz_up_e
              have t32 : H27 53 0 = h 53 0 := by rw [e30]; exact fz_up_s (by decide)
              have hXw33 : fz_Xw H27 := fz_Xw_eq (by rw [e30]; exact fz_up_s (by decide)) (by rw [e30]; exact fz_up_ne (by decide)) (by rw [e30]; exact fz_up_ne (by decide)) (by rw [e30]; exact fz_up_ne (by decide)) (by rw [e30]; exact fz_up_ne (by decide)) hXw
              have hRM34 : fz_RM H27 := fz_RM_eq (by rw [e30]; exact fz_up_ne (by decide)) (by rw [e30]; exact fz_up_ne (by decide)) (by rw [e30]; exact fz_up_s (by decide)) (by rw [e30]; exact fz_up_s (by decide)) hRM
              have hRPm35 : fl_RPm H27 := fl_RPm_eq (by rw [e30]; exact fz_up_ne (by decide)) (by rw [e30]; exact fz_up_s (by decide)) (by rw [e30]; exact fz_up_s (by decide)) hRPm
              refine fz_aload_n kX11_walk rfl rfl ?_
              refine fz_getR (t := 76) kX11_walk rfl rfl ?_
              refine fz_iload_n kX11_walk rfl rfl ?_
              refine fz_aload_n kX11_walk rfl rfl ?_
              refine fz_getR (t := 55) kX11_walk rfl rfl ?_
              refine fz_iload_n kX11_walk rfl rfl ?_
              refine fz_ialdV (n := 12) (v := h 55 (rd.toNat)) kX11_walk rfl rfl (by omega) (by omega) (hf29 55 _ rfl) ?_
              refine fz_iload_n kX11_walk rfl rfl ?_
              refine fz_icmp_ne (tgt := 106) kX11_walk rfl (by decide) (fun c36 => ?_) (fun c36 => ?_)
              · refine fz_aload_n kX11_walk rfl rfl ?_
                refine fz_getR (t := 55) kX11_walk rfl rfl ?_
                refine fz_iload_n kX11_walk rfl rfl ?_
                refine fz_ialdV (n := 12) (v := h 55 (rd.toNat)) kX11_walk rfl rfl (by omega) (by omega) (hf29 55 _ rfl) ?_
                have k37 : (h 55 (rd.toNat)) = fz_ac (h 55 rd.toNat) (h 56 rd.toNat) (h 76 on.toNat) := by first | exact fz_ac_1 (by omega) | exact fz_ac_2 (by omega) (by omega) | (exfalso; omega)
                have k39 : 0 ≤ fz_ac (h 55 rd.toNat) (h 56 rd.toNat) (h 76 on.toNat) := fz_ac_nn (hI.1 55 _).1 (hI.1 56 _).1 (by omega)
                obtain ⟨k40, k41⟩ : ∃ z, z = (h 55 (rd.toNat)) := ⟨_, rfl⟩
                have k43 := hRM rd.toNat (by omega)
                refine fz_iast (n := 4) kX11_walk rfl rfl (by omega) (by omega) ?_
                refine fz_nmu (S := [(53, 34), (74, 99999), (75, 99999), (76, 99999), (77, 99999), (86, 99999), (87, 99999), (88, 99999)]) (h0 := h) (fz_Iv_up hI28 (by decide) (show (0 : Int) ≤ (h 55 (rd.toNat)) by omega) (show ((h 55 (rd.toNat)) : Int) ≤ 7 by omega)) (fz_fr_up hf29 rfl) (fun H44 hI45 hf46 e47 => ?_)
                have k48 : H44 53 34 = ((h 53 34) + (h 57 (rd.toNat))) := by rw [e47]; exact (fz_up_o (by decide)).trans k31
                have t49 : H44 53 34 = H27 53 34 := by rw [e47]; exact fz_up_o (by decide)
                have t50 : H44 53 0 = H27 53 0 := by rw [e47]; exact fz_up_o (by decide)
                have hXw51 : fz_Xw H44 := fz_Xw_eq (by rw [e47]; exact fz_up_o (by decide)) (by rw [e47]; exact fz_up_ne (by decide)) (by rw [e47]; exact fz_up_ne (by decide)) (by rw [e47]; exact fz_up_ne (by decide)) (by rw [e47]; exact fz_up_ne (by decide)) hXw33
                have hRM52 : fz_RM H44 := fz_RM_eq (by rw [e47]; exact fz_up_ne (by decide)) (by rw [e47]; exact fz_up_ne (by decide)) (by rw [e47]; exact fz_up_o (by decide)) (by rw [e47]; exact fz_up_o (by decide)) hRM34
                have hRPm53 : fl_RPm H44 := fl_RPm_eq (by rw [e47]; exact fz_up_ne (by decide)) (by rw [e47]; exact fz_up_o (by decide)) (by rw [e47]; exact fz_up_o (by decide)) hRPm35
                refine fz_aload_n kX11_walk rfl rfl ?_
                refine fz_getR (t := 77) kX11_walk rfl rfl ?_
                refine fz_iconst ⟨by decide, by decide⟩ kX11_walk rfl ?_
                refine fz_dup2 rfl rfl kX11_walk rfl ?_
                obtain ⟨v54, e55⟩ : ∃ z, H44 77 (0) = z := ⟨_, rfl⟩
                refine fz_ialdV (n := 4) (v := v54) kX11_walk rfl rfl (by omega) (by omega) e55 ?_
                have b56 : (-2147483648) ≤ v54 ∧ v54 ≤ 2147483647 := by rw [← e55]; exact hI45.1 77 _
                refine fz_iconst ⟨by decide, by decide⟩ kX11_walk rfl ?_
                refine fz_iadd kX11_walk rfl ?_
                have b57 := fz_w_b (v54 + 1)
                refine fz_iast (n := 4) kX11_walk rfl rfl (by omega) (by omega) ?_
                refine fz_nmu (S := [(53, 34), (74, 99999), (75, 99999), (76, 99999), (77, 99999), (86, 99999), (87, 99999), (88, 99999)]) (h0 := h) (fz_Iv_up hI45 (by decide) (show ((-2147483648) : Int) ≤ (fz_w (v54 + 1)) by omega) (show ((fz_w (v54 + 1)) : Int) ≤ 2147483647 by omega)) (fz_fr_up hf46 rfl) (fun H58 hI59 hf60 e61 => ?_)
                have k62 : H58 53 34 = ((h 53 34) + (h 57 (rd.toNat))) := by rw [e61]; exact (fz_up_o (by decide)).trans k48
                have t63 : H58 53 34 = H44 53 34 := by rw [e61]; exact fz_up_o (by decide)
                have t64 : H58 53 0 = H44 53 0 := by rw [e61]; exact fz_up_o (by decide)
                have hXw65 : fz_Xw H58 := fz_Xw_eq (by rw [e61]; exact fz_up_o (by decide)) (by rw [e61]; exact fz_up_ne (by decide)) (by rw [e61]; exact fz_up_ne (by decide)) (by rw [e61]; exact fz_up_ne (by decide)) (by rw [e61]; exact fz_up_ne (by decide)) hXw51
                have hRM66 : fz_RM H58 := fz_RM_eq (by rw [e61]; exact fz_up_ne (by decide)) (by rw [e61]; exact fz_up_ne (by decide)) (by rw [e61]; exact fz_up_o (by decide)) (by rw [e61]; exact fz_up_o (by decide)) hRM52
                have hRPm67 : fl_RPm H58 := fl_RPm_eq (by rw [e61]; exact fz_up_ne (by decide)) (by rw [e61]; exact fz_up_o (by decide)) (by rw [e61]; exact fz_up_o (by decide)) hRPm53
                refine fz_aload_n kX11_walk rfl rfl ?_
                refine fz_getR (t := 77) kX11_walk rfl rfl ?_
                refine fz_iconst ⟨by decide, by decide⟩ kX11_walk rfl ?_
                refine fz_dup2 rfl rfl kX11_walk rfl ?_
                obtain ⟨v68, e69⟩ : ∃ z, H58 77 (1) = z := ⟨_, rfl⟩
                refine fz_ialdV (n := 4) (v := v68) kX11_walk rfl rfl (by omega) (by omega) e69 ?_
                have b70 : (-2147483648) ≤ v68 ∧ v68 ≤ 2147483647 := by rw [← e69]; exact hI59.1 77 _
                refine fz_aload_n kX11_walk rfl rfl ?_
                refine fz_getR (t := 57) kX11_walk rfl rfl ?_
                refine fz_iload_n kX11_walk rfl rfl ?_
                refine fz_ialdV (n := 12) (v := h 57 (rd.toNat)) kX11_walk rfl rfl (by omega) (by omega) (hf60 57 _ rfl) ?_
                refine fz_iadd kX11_walk rfl ?_
                have b71 := fz_w_b (v68 + (h 57 (rd.toNat)))
                refine fz_iast (n := 4) kX11_walk rfl rfl (by omega) (by omega) ?_
                refine fz_nmu (S := [(53, 34), (74, 99999), (75, 99999), (76, 99999), (77, 99999), (86, 99999), (87, 99999), (88, 99999)]) (h0 := h) (fz_Iv_up hI59 (by decide) (show ((-2147483648) : Int) ≤ (fz_w (v68 + (h 57 (rd.toNat)))) by omega) (show ((fz_w (v68 + (h 57 (rd.toNat)))) : Int) ≤ 2147483647 by omega)) (fz_fr_up hf60 rfl) (fun H72 hI73 hf74 e75 => ?_)
                have k76 : H72 53 34 = ((h 53 34) + (h 57 (rd.toNat))) := by rw [e75]; exact (fz_up_o (by decide)).trans k62
                have t77 : H72 53 34 = H58 53 34 := by rw [e75]; exact fz_up_o (by decide)
                have t78 : H72 53 0 = H58 53 0 := by rw [e75]; exact fz_up_o (by decide)
                have hXw79 : fz_Xw H72 := fz_Xw_eq (by rw [e75]; exact fz_up_o (by decide)) (by rw [e75]; exact fz_up_ne (by decide)) (by rw [e75]; exact fz_up_ne (by decide)) (by rw [e75]; exact fz_up_ne (by decide)) (by rw [e75]; exact fz_up_ne (by decide)) hXw65
                have hRM80 : fz_RM H72 := fz_RM_eq (by rw [e75]; exact fz_up_ne (by decide)) (by rw [e75]; exact fz_up_ne (by decide)) (by rw [e75]; exact fz_up_o (by decide)) (by rw [e75]; exact fz_up_o (by decide)) hRM66
                have hRPm81 : fl_RPm H72 := fl_RPm_eq (by rw [e75]; exact fz_up_ne (by decide)) (by rw [e75]; exact fz_up_o (by decide)) (by rw [e75]; exact fz_up_o (by decide)) hRPm67
                refine fz_aload_n kX11_walk rfl rfl ?_
                have b82 : 0 ≤ h 53 10 ∧ h 53 10 ≤ 11 := hI.1 53 _
                have e83 : H72 53 10 = h 53 10 := hf74 53 10 rfl
                refine fz_callV (d' := 3) (M' := mX11_allHear) (As := []) (st := []) kX11_walk rfl rfl vX11_allHear rfl rfl rfl rfl (Nat.le_of_ble_eq_true rfl) (Nat.le_of_ble_eq_true rfl) (by decide) (sX11_allHear H72 hI73  hRM80 hRPm81) (fun H84 r85 q86 o87 => ?_)
                obtain ⟨hI88, hf89, hRM90, hRPm91, rfl, f92⟩ := q86
                clear o87
                have hf93 := fz_fr_tr hf74 hf89 (show fz_su [(86, 99999), (87, 99999), (88, 99999)] [(53, 34), (74, 99999), (75, 99999), (76, 99999), (77, 99999), (86, 99999), (87, 99999), (88, 99999)] = true from rfl)
                have k94 : H84 53 34 = ((h 53 34) + (h 57 (rd.toNat))) := (hf89 53 34 rfl).trans k76
                have hXw95 : fz_Xw H84 := fz_Xw_eq (hf89 53 19 rfl) (funext fun s => hf89 66 s rfl) (funext fun s => hf89 67 s rfl) (funext fun s => hf89 68 s rfl) (funext fun s => hf89 69 s rfl) hXw79
                have t96 : H84 53 34 = H72 53 34 := hf89 53 34 rfl
                have t97 : H84 53 0 = H72 53 0 := hf89 53 0 rfl
                have hHB98 : fl_HB H84 := fl_HB_of2 f92 (funext fun s => hf89 62 s rfl) (hf89 53 10 rfl) (hf89 53 0 rfl) (funext fun s => hf89 54 s rfl) (fun q => (hI88.1 54 q).1)
                refine fz_aload_n kX11_walk rfl rfl ?_
                refine fz_iload_n kX11_walk rfl rfl ?_
                refine fz_aload_n kX11_walk rfl rfl ?_
                refine fz_getR (t := 76) kX11_walk rfl rfl ?_
                refine fz_iload_n kX11_walk rfl rfl ?_
                obtain ⟨v100, e101⟩ : ∃ z, H84 76 (on.toNat) = z := ⟨_, rfl⟩
                refine fz_ialdV (n := 4) (v := v100) kX11_walk rfl rfl (by omega) (by omega) e101 ?_
                have b102 : 0 ≤ v100 ∧ v100 ≤ 7 := by rw [← e101]; exact hI88.1 76 _
                have k103 : v100 = k40 := e101.symm.trans ((hf89 76 _ rfl).trans (by rw [k41, e75, fz_up_o (by decide), e61, fz_up_o (by decide), e47]; exact fz_up_e))
                refine fz_aload_n kX11_walk rfl rfl ?_
                refine fz_getV (v := ((h 53 34) + (h 57 (rd.toNat)))) kX11_walk rfl rfl k94 ?_
                have b105 : 0 ≤ h 53 0 ∧ h 53 0 ≤ 8 := hI.1 53 _
                have b106 : 0 ≤ h 53 8 ∧ h 53 8 ≤ 99 := hI.1 53 _
                have e107 : H84 53 0 = h 53 0 := hf93 53 0 rfl
                have e108 : H84 53 8 = h 53 8 := hf93 53 8 rfl
                refine fz_callV (d' := 4) (M' := mX11_isArrested) (As := [fz_i on, fz_i v100, fz_i ((h 53 34) + (h 57 (rd.toNat)))]) (st := []) kX11_walk rfl rfl vX11_isArrested rfl rfl rfl rfl (Nat.le_of_ble_eq_true rfl) (Nat.le_of_ble_eq_true rfl) (by decide) (sX11_isArrested H84 hI88 on v100 ((h 53 34) + (h 57 (rd.toNat))) hXw95 hHB98 (by omega) (by omega)) (fun H109 r110 q111 o112 => ?_)
                obtain ⟨hI113, hf114, hXw115, hHB116, y118, rfl, p119, f117⟩ := q111
                clear o112
                have hf120 := fz_fr_tr hf93 hf114 (show fz_su [(74, 99999), (75, 99999)] [(53, 34), (74, 99999), (75, 99999), (76, 99999), (77, 99999), (86, 99999), (87, 99999), (88, 99999)] = true from rfl)
                have k121 : H109 53 34 = ((h 53 34) + (h 57 (rd.toNat))) := (hf114 53 34 rfl).trans k94
                have hRM122 : fz_RM H109 := fz_RM_eq (funext fun s => hf114 55 s rfl) (funext fun s => hf114 56 s rfl) (hf114 53 0 rfl) (hf114 53 2 rfl) hRM90
                have hRPm123 : fl_RPm H109 := fl_RPm_eq (funext fun s => hf114 61 s rfl) (hf114 53 10 rfl) (hf114 53 0 rfl) hRPm91
                have t124 : H109 53 34 = H84 53 34 := hf114 53 34 rfl
                have t125 : H109 53 0 = H84 53 0 := hf114 53 0 rfl
                have k126 := fl_wd_ia f117 (fl_ST_HT f92 (funext fun s => hf89 60 s rfl) (funext fun s => hf89 62 s rfl) (funext fun s => hf89 63 s rfl) (funext fun s => hf89 64 s rfl) (funext fun s => hf89 66 s rfl) (funext fun s => hf89 67 s rfl) (funext fun s => hf89 68 s rfl) (funext fun s => hf89 69 s rfl) (hf89 53 10 rfl) (hf89 53 18 rfl) (hf89 53 19 rfl) ⟨by omega, by omega⟩) (fl_SM_fr hf74 rfl) ((hf89 53 8 rfl).trans (hf74 53 8 rfl))
                refine fz_if_eq (tgt := 170) kX11_walk rfl (by decide) (fun c128 => ?_) (fun c128 => ?_)
                · refine fz_aload_n kX11_walk rfl rfl ?_
                  refine fz_getR (t := 76) kX11_walk rfl rfl ?_
                  refine fz_iload_n kX11_walk rfl rfl ?_
                  obtain ⟨v129, e130⟩ : ∃ z, H109 76 (on.toNat) = z := ⟨_, rfl⟩
                  refine fz_ialdV (n := 4) (v := v129) kX11_walk rfl rfl (by omega) (by omega) e130 ?_
                  have b131 : 0 ≤ v129 ∧ v129 ≤ 7 := by rw [← e130]; exact hI113.1 76 _
                  have k132 : H109 76 = fz_up h 76 on.toNat (fz_ac (h 55 rd.toNat) (h 56 rd.toNat) (h 76 on.toNat)) 76 := by first | (rw [lost, fz_up_ne (by decide), show H109 76 = H84 76 from funext fun s => hf114 76 s rfl, show H84 76 = H72 76 from funext fun s => hf89 76 s rfl, e75, fz_up_ne (by decide), e61, fz_up_ne (by decide), e47]; exact fz_up_pair (by rw [e30]; exact fz_up_ne (by decide)) rfl k37) | (rw [show H109 76 = H84 76 from funext fun s => hf114 76 s rfl, show H84 76 = H72 76 from funext fun s => hf89 76 s rfl, e75, fz_up_ne (by decide), e61, fz_up_ne (by decide), e47]; exact fz_up_pair (by rw [e30]; exact fz_up_ne (by decide)) rfl k37)
                  have k134 : v129 = fz_ac (h 55 rd.toNat) (h 56 rd.toNat) (h 76 on.toNat) := e130.symm.trans ((congrFun k132 _).trans fz_up_e)
                  exact fz_iret kX11_walk rfl rfl (fun _ => ⟨hI113, hf120, hXw115, hRM122, hRPm123, _, rfl, (by omega), (by first | exact Or.inl ⟨(by unfold fz_wkN; omega), rfl, rfl, rfl⟩ | exact Or.inr (Or.inl ⟨(by unfold fz_wkN; omega), (by rw [← fz_ac_3 (by omega) (by omega)]; decide), rfl, rfl, rfl⟩) | exact Or.inr (Or.inr (Or.inl ⟨(by unfold fz_wkN; omega), fz_ac_nn (hI.1 55 _).1 (hI.1 56 _).1 (by omega), by omega, rfl, rfl, rfl⟩)) | exact Or.inr (Or.inr (Or.inr ⟨(by unfold fz_wkN; omega), by omega, by omega, by omega, by omega, k132⟩))), (by first | exact Or.inl ⟨by omega, rfl⟩ | exact fl_wdM_in (by omega) (by rw [e47, fz_up_ne (by decide), e30]; exact fz_up_ne (by decide)) e61 e55 e75 e69 rfl (funext fun s => hf89 77 s rfl) k126 (by omega) (by omega) (Or.inl ⟨by omega, _, _, (funext fun s => hf114 77 s rfl), lost, lost⟩) (hI.1 77 2) | exact fl_wdM_in (by omega) (by rw [e47, fz_up_ne (by decide), e30]; exact fz_up_ne (by decide)) e61 e55 e75 e69 rfl (funext fun s => hf89 77 s rfl) k126 (by omega) (by omega) (Or.inr ⟨by omega, (funext fun s => hf114 77 s rfl)⟩) (hI.1 77 2))⟩)
                · refine fz_aload_n kX11_walk rfl rfl ?_
                  refine fz_getR (t := 77) kX11_walk rfl rfl ?_
                  refine fz_iconst ⟨by decide, by decide⟩ kX11_walk rfl ?_
                  refine fz_dup2 rfl rfl kX11_walk rfl ?_
                  obtain ⟨v137, e138⟩ : ∃ z, H109 77 (2) = z := ⟨_, rfl⟩
                  refine fz_ialdV (n := 4) (v := v137) kX11_walk rfl rfl (by omega) (by omega) e138 ?_
                  have b139 : (-2147483648) ≤ v137 ∧ v137 ≤ 2147483647 := by rw [← e138]; exact hI113.1 77 _
                  refine fz_iconst ⟨by decide, by decide⟩ kX11_walk rfl ?_
                  refine fz_iadd kX11_walk rfl ?_
                  have b140 := fz_w_b (v137 + 1)
                  refine fz_iast (n := 4) kX11_walk rfl rfl (by omega) (by omega) ?_
                  refine fz_nmu (S := [(53, 34), (74, 99999), (75, 99999), (76, 99999), (77, 99999), (86, 99999), (87, 99999), (88, 99999)]) (h0 := h) (fz_Iv_up hI113 (by decide) (show ((-2147483648) : Int) ≤ (fz_w (v137 + 1)) by omega) (show ((fz_w (v137 + 1)) : Int) ≤ 2147483647 by omega)) (fz_fr_up hf120 rfl) (fun H141 hI142 hf143 e144 => ?_)
                  have k145 : H141 53 34 = ((h 53 34) + (h 57 (rd.toNat))) := by rw [e144]; exact (fz_up_o (by decide)).trans k121
                  have t146 : H141 53 34 = H109 53 34 := by rw [e144]; exact fz_up_o (by decide)
                  have t147 : H141 53 0 = H109 53 0 := by rw [e144]; exact fz_up_o (by decide)
                  have hXw148 : fz_Xw H141 := fz_Xw_eq (by rw [e144]; exact fz_up_o (by decide)) (by rw [e144]; exact fz_up_ne (by decide)) (by rw [e144]; exact fz_up_ne (by decide)) (by rw [e144]; exact fz_up_ne (by decide)) (by rw [e144]; exact fz_up_ne (by decide)) hXw115
                  have hRM149 : fz_RM H141 := fz_RM_eq (by rw [e144]; exact fz_up_ne (by decide)) (by rw [e144]; exact fz_up_ne (by decide)) (by rw [e144]; exact fz_up_o (by decide)) (by rw [e144]; exact fz_up_o (by decide)) hRM122
                  have hRPm150 : fl_RPm H141 := fl_RPm_eq (by rw [e144]; exact fz_up_ne (by decide)) (by rw [e144]; exact fz_up_o (by decide)) (by rw [e144]; exact fz_up_o (by decide)) hRPm123
                  have hHB151 : fl_HB H141 := fl_HB_eq (by rw [e144]; exact fz_up_ne (by decide)) (by rw [e144]; exact fz_up_ne (by decide)) (by rw [e144]; exact fz_up_o (by decide)) (by rw [e144]; exact fz_up_o (by decide)) hHB116
                  refine fz_aload_n kX11_walk rfl rfl ?_
                  refine fz_getR (t := 76) kX11_walk rfl rfl ?_
                  refine fz_iload_n kX11_walk rfl rfl ?_
                  obtain ⟨v152, e153⟩ : ∃ z, H141 76 (on.toNat) = z := ⟨_, rfl⟩
                  refine fz_ialdV (n := 4) (v := v152) kX11_walk rfl rfl (by omega) (by omega) e153 ?_
                  have b154 : 0 ≤ v152 ∧ v152 ≤ 7 := by rw [← e153]; exact hI142.1 76 _
                  have k155 : H141 76 = fz_up h 76 on.toNat (fz_ac (h 55 rd.toNat) (h 56 rd.toNat) (h 76 on.toNat)) 76 := by first | (rw [e144, fz_up_ne (by decide), show H109 76 = H84 76 from funext fun s => hf114 76 s rfl, show H84 76 = H72 76 from funext fun s => hf89 76 s rfl, e75, fz_up_ne (by decide), e61, fz_up_ne (by decide), e47]; exact fz_up_pair (by rw [e30]; exact fz_up_ne (by decide)) rfl k37) | (rw [show H109 76 = H84 76 from funext fun s => hf114 76 s rfl, show H84 76 = H72 76 from funext fun s => hf89 76 s rfl, e75, fz_up_ne (by decide), e61, fz_up_ne (by decide), e47]; exact fz_up_pair (by rw [e30]; exact fz_up_ne (by decide)) rfl k37)
                  have k157 : v152 = fz_ac (h 55 rd.toNat) (h 56 rd.toNat) (h 76 on.toNat) := e153.symm.trans ((congrFun k155 _).trans fz_up_e)
                  exact fz_iret kX11_walk rfl rfl (fun _ => ⟨hI142, hf143, hXw148, hRM149, hRPm150, _, rfl, (by omega), (by first | exact Or.inl ⟨(by unfold fz_wkN; omega), rfl, rfl, rfl⟩ | exact Or.inr (Or.inl ⟨(by unfold fz_wkN; omega), (by rw [← fz_ac_3 (by omega) (by omega)]; decide), rfl, rfl, rfl⟩) | exact Or.inr (Or.inr (Or.inl ⟨(by unfold fz_wkN; omega), fz_ac_nn (hI.1 55 _).1 (hI.1 56 _).1 (by omega), by omega, rfl, rfl, rfl⟩)) | exact Or.inr (Or.inr (Or.inr ⟨(by unfold fz_wkN; omega), by omega, by omega, by omega, by omega, k155⟩))), (by first | exact Or.inl ⟨by omega, rfl⟩ | exact fl_wdM_in (by omega) (by rw [e47, fz_up_ne (by decide), e30]; exact fz_up_ne (by decide)) e61 e55 e75 e69 rfl (funext fun s => hf89 77 s rfl) k126 (by omega) (by omega) (Or.inl ⟨by omega, _, _, (funext fun s => hf114 77 s rfl), e138, e144⟩) (hI.1 77 2) | exact fl_wdM_in (by omega) (by rw [e47, fz_up_ne (by decide), e30]; exact fz_up_ne (by decide)) e61 e55 e75 e69 rfl (funext fun s => hf89 77 s rfl) k126 (by omega) (by omega) (Or.inr ⟨by omega, (funext fun s => hf114 77 s rfl)⟩) (hI.1 77 2))⟩)
              · refine fz_aload_n kX11_walk rfl rfl ?_
                refine fz_getR (t := 56) kX11_walk rfl rfl ?_
                refine fz_iload_n kX11_walk rfl rfl ?_
                refine fz_ialdV (n := 12) (v := h 56 (rd.toNat)) kX11_walk rfl rfl (by omega) (by omega) (hf29 56 _ rfl) ?_
                have b160 : 0 ≤ h 56 (rd.toNat) ∧ h 56 (rd.toNat) ≤ 7 := hI.1 56 _
                refine fz_goto (tgt := 112) kX11_walk rfl (by decide) ?_
                have k161 : (h 56 (rd.toNat)) = fz_ac (h 55 rd.toNat) (h 56 rd.toNat) (h 76 on.toNat) := by first | exact fz_ac_1 (by omega) | exact fz_ac_2 (by omega) (by omega) | (exfalso; omega)
                have k163 : 0 ≤ fz_ac (h 55 rd.toNat) (h 56 rd.toNat) (h 76 on.toNat) := fz_ac_nn (hI.1 55 _).1 (hI.1 56 _).1 (by omega)
                obtain ⟨k164, k165⟩ : ∃ z, z = (h 56 (rd.toNat)) := ⟨_, rfl⟩
                have k167 := hRM rd.toNat (by omega)
                refine fz_iast (n := 4) kX11_walk rfl rfl (by omega) (by omega) ?_
                refine fz_nmu (S := [(53, 34), (74, 99999), (75, 99999), (76, 99999), (77, 99999), (86, 99999), (87, 99999), (88, 99999)]) (h0 := h) (fz_Iv_up hI28 (by decide) (show (0 : Int) ≤ (h 56 (rd.toNat)) by omega) (show ((h 56 (rd.toNat)) : Int) ≤ 7 by omega)) (fz_fr_up hf29 rfl) (fun H168 hI169 hf170 e171 => ?_)
                have k172 : H168 53 34 = ((h 53 34) + (h 57 (rd.toNat))) := by rw [e171]; exact (fz_up_o (by decide)).trans k31
                have t173 : H168 53 34 = H27 53 34 := by rw [e171]; exact fz_up_o (by decide)
                have t174 : H168 53 0 = H27 53 0 := by rw [e171]; exact fz_up_o (by decide)
                have hXw175 : fz_Xw H168 := fz_Xw_eq (by rw [e171]; exact fz_up_o (by decide)) (by rw [e171]; exact fz_up_ne (by decide)) (by rw [e171]; exact fz_up_ne (by decide)) (by rw [e171]; exact fz_up_ne (by decide)) (by rw [e171]; exact fz_up_ne (by decide)) hXw33
                have hRM176 : fz_RM H168 := fz_RM_eq (by rw [e171]; exact fz_up_ne (by decide)) (by rw [e171]; exact fz_up_ne (by decide)) (by rw [e171]; exact fz_up_o (by decide)) (by rw [e171]; exact fz_up_o (by decide)) hRM34
                have hRPm177 : fl_RPm H168 := fl_RPm_eq (by rw [e171]; exact fz_up_ne (by decide)) (by rw [e171]; exact fz_up_o (by decide)) (by rw [e171]; exact fz_up_o (by decide)) hRPm35
                refine fz_aload_n kX11_walk rfl rfl ?_
                refine fz_getR (t := 77) kX11_walk rfl rfl ?_
                refine fz_iconst ⟨by decide, by decide⟩ kX11_walk rfl ?_
                refine fz_dup2 rfl rfl kX11_walk rfl ?_
                obtain ⟨v178, e179⟩ : ∃ z, H168 77 (0) = z := ⟨_, rfl⟩
                refine fz_ialdV (n := 4) (v := v178) kX11_walk rfl rfl (by omega) (by omega) e179 ?_
                have b180 : (-2147483648) ≤ v178 ∧ v178 ≤ 2147483647 := by rw [← e179]; exact hI169.1 77 _
                refine fz_iconst ⟨by decide, by decide⟩ kX11_walk rfl ?_
                refine fz_iadd kX11_walk rfl ?_
                have b181 := fz_w_b (v178 + 1)
                refine fz_iast (n := 4) kX11_walk rfl rfl (by omega) (by omega) ?_
                refine fz_nmu (S := [(53, 34), (74, 99999), (75, 99999), (76, 99999), (77, 99999), (86, 99999), (87, 99999), (88, 99999)]) (h0 := h) (fz_Iv_up hI169 (by decide) (show ((-2147483648) : Int) ≤ (fz_w (v178 + 1)) by omega) (show ((fz_w (v178 + 1)) : Int) ≤ 2147483647 by omega)) (fz_fr_up hf170 rfl) (fun H182 hI183 hf184 e185 => ?_)
                have k186 : H182 53 34 = ((h 53 34) + (h 57 (rd.toNat))) := by rw [e185]; exact (fz_up_o (by decide)).trans k172
                have t187 : H182 53 34 = H168 53 34 := by rw [e185]; exact fz_up_o (by decide)
                have t188 : H182 53 0 = H168 53 0 := by rw [e185]; exact fz_up_o (by decide)
                have hXw189 : fz_Xw H182 := fz_Xw_eq (by rw [e185]; exact fz_up_o (by decide)) (by rw [e185]; exact fz_up_ne (by decide)) (by rw [e185]; exact fz_up_ne (by decide)) (by rw [e185]; exact fz_up_ne (by decide)) (by rw [e185]; exact fz_up_ne (by decide)) hXw175
                have hRM190 : fz_RM H182 := fz_RM_eq (by rw [e185]; exact fz_up_ne (by decide)) (by rw [e185]; exact fz_up_ne (by decide)) (by rw [e185]; exact fz_up_o (by decide)) (by rw [e185]; exact fz_up_o (by decide)) hRM176
                have hRPm191 : fl_RPm H182 := fl_RPm_eq (by rw [e185]; exact fz_up_ne (by decide)) (by rw [e185]; exact fz_up_o (by decide)) (by rw [e185]; exact fz_up_o (by decide)) hRPm177
                refine fz_aload_n kX11_walk rfl rfl ?_
                refine fz_getR (t := 77) kX11_walk rfl rfl ?_
                refine fz_iconst ⟨by decide, by decide⟩ kX11_walk rfl ?_
                refine fz_dup2 rfl rfl kX11_walk rfl ?_
                obtain ⟨v192, e193⟩ : ∃ z, H182 77 (1) = z := ⟨_, rfl⟩
                refine fz_ialdV (n := 4) (v := v192) kX11_walk rfl rfl (by omega) (by omega) e193 ?_
                have b194 : (-2147483648) ≤ v192 ∧ v192 ≤ 2147483647 := by rw [← e193]; exact hI183.1 77 _
                refine fz_aload_n kX11_walk rfl rfl ?_
                refine fz_getR (t := 57) kX11_walk rfl rfl ?_
                refine fz_iload_n kX11_walk rfl rfl ?_
                refine fz_ialdV (n := 12) (v := h 57 (rd.toNat)) kX11_walk rfl rfl (by omega) (by omega) (hf184 57 _ rfl) ?_
                refine fz_iadd kX11_walk rfl ?_
                have b195 := fz_w_b (v192 + (h 57 (rd.toNat)))
                refine fz_iast (n := 4) kX11_walk rfl rfl (by omega) (by omega) ?_
                refine fz_nmu (S := [(53, 34), (74, 99999), (75, 99999), (76, 99999), (77, 99999), (86, 99999), (87, 99999), (88, 99999)]) (h0 := h) (fz_Iv_up hI183 (by decide) (show ((-2147483648) : Int) ≤ (fz_w (v192 + (h 57 (rd.toNat)))) by omega) (show ((fz_w (v192 + (h 57 (rd.toNat)))) : Int) ≤ 2147483647 by omega)) (fz_fr_up hf184 rfl) (fun H196 hI197 hf198 e199 => ?_)
                have k200 : H196 53 34 = ((h 53 34) + (h 57 (rd.toNat))) := by rw [e199]; exact (fz_up_o (by decide)).trans k186
                have t201 : H196 53 34 = H182 53 34 := by rw [e199]; exact fz_up_o (by decide)
                have t202 : H196 53 0 = H182 53 0 := by rw [e199]; exact fz_up_o (by decide)
                have hXw203 : fz_Xw H196 := fz_Xw_eq (by rw [e199]; exact fz_up_o (by decide)) (by rw [e199]; exact fz_up_ne (by decide)) (by rw [e199]; exact fz_up_ne (by decide)) (by rw [e199]; exact fz_up_ne (by decide)) (by rw [e199]; exact fz_up_ne (by decide)) hXw189
                have hRM204 : fz_RM H196 := fz_RM_eq (by rw [e199]; exact fz_up_ne (by decide)) (by rw [e199]; exact fz_up_ne (by decide)) (by rw [e199]; exact fz_up_o (by decide)) (by rw [e199]; exact fz_up_o (by decide)) hRM190
                have hRPm205 : fl_RPm H196 := fl_RPm_eq (by rw [e199]; exact fz_up_ne (by decide)) (by rw [e199]; exact fz_up_o (by decide)) (by rw [e199]; exact fz_up_o (by decide)) hRPm191
                refine fz_aload_n kX11_walk rfl rfl ?_
                have b206 : 0 ≤ h 53 10 ∧ h 53 10 ≤ 11 := hI.1 53 _
                have e207 : H196 53 10 = h 53 10 := hf198 53 10 rfl
                refine fz_callV (d' := 3) (M' := mX11_allHear) (As := []) (st := []) kX11_walk rfl rfl vX11_allHear rfl rfl rfl rfl (Nat.le_of_ble_eq_true rfl) (Nat.le_of_ble_eq_true rfl) (by decide) (sX11_allHear H196 hI197  hRM204 hRPm205) (fun H208 r209 q210 o211 => ?_)
                obtain ⟨hI212, hf213, hRM214, hRPm215, rfl, f216⟩ := q210
                clear o211
                have hf217 := fz_fr_tr hf198 hf213 (show fz_su [(86, 99999), (87, 99999), (88, 99999)] [(53, 34), (74, 99999), (75, 99999), (76, 99999), (77, 99999), (86, 99999), (87, 99999), (88, 99999)] = true from rfl)
                have k218 : H208 53 34 = ((h 53 34) + (h 57 (rd.toNat))) := (hf213 53 34 rfl).trans k200
                have hXw219 : fz_Xw H208 := fz_Xw_eq (hf213 53 19 rfl) (funext fun s => hf213 66 s rfl) (funext fun s => hf213 67 s rfl) (funext fun s => hf213 68 s rfl) (funext fun s => hf213 69 s rfl) hXw203
                have t220 : H208 53 34 = H196 53 34 := hf213 53 34 rfl
                have t221 : H208 53 0 = H196 53 0 := hf213 53 0 rfl
                have hHB222 : fl_HB H208 := fl_HB_of2 f216 (funext fun s => hf213 62 s rfl) (hf213 53 10 rfl) (hf213 53 0 rfl) (funext fun s => hf213 54 s rfl) (fun q => (hI212.1 54 q).1)
                refine fz_aload_n kX11_walk rfl rfl ?_
                refine fz_iload_n kX11_walk rfl rfl ?_
                refine fz_aload_n kX11_walk rfl rfl ?_
                refine fz_getR (t := 76) kX11_walk rfl rfl ?_
                refine fz_iload_n kX11_walk rfl rfl ?_
                obtain ⟨v224, e225⟩ : ∃ z, H208 76 (on.toNat) = z := ⟨_, rfl⟩
                refine fz_ialdV (n := 4) (v := v224) kX11_walk rfl rfl (by omega) (by omega) e225 ?_
                have b226 : 0 ≤ v224 ∧ v224 ≤ 7 := by rw [← e225]; exact hI212.1 76 _
                have k227 : v224 = k164 := e225.symm.trans ((hf213 76 _ rfl).trans (by rw [k165, e199, fz_up_o (by decide), e185, fz_up_o (by decide), e171]; exact fz_up_e))
                refine fz_aload_n kX11_walk rfl rfl ?_
                refine fz_getV (v := ((h 53 34) + (h 57 (rd.toNat)))) kX11_walk rfl rfl k218 ?_
                have b229 : 0 ≤ h 53 0 ∧ h 53 0 ≤ 8 := hI.1 53 _
                have b230 : 0 ≤ h 53 8 ∧ h 53 8 ≤ 99 := hI.1 53 _
                have e231 : H208 53 0 = h 53 0 := hf217 53 0 rfl
                have e232 : H208 53 8 = h 53 8 := hf217 53 8 rfl
                refine fz_callV (d' := 4) (M' := mX11_isArrested) (As := [fz_i on, fz_i v224, fz_i ((h 53 34) + (h 57 (rd.toNat)))]) (st := []) kX11_walk rfl rfl vX11_isArrested rfl rfl rfl rfl (Nat.le_of_ble_eq_true rfl) (Nat.le_of_ble_eq_true rfl) (by decide) (sX11_isArrested H208 hI212 on v224 ((h 53 34) + (h 57 (rd.toNat))) hXw219 hHB222 (by omega) (by omega)) (fun H233 r234 q235 o236 => ?_)
                obtain ⟨hI237, hf238, hXw239, hHB240, y242, rfl, p243, f241⟩ := q235
                clear o236
                have hf244 := fz_fr_tr hf217 hf238 (show fz_su [(74, 99999), (75, 99999)] [(53, 34), (74, 99999), (75, 99999), (76, 99999), (77, 99999), (86, 99999), (87, 99999), (88, 99999)] = true from rfl)
                have k245 : H233 53 34 = ((h 53 34) + (h 57 (rd.toNat))) := (hf238 53 34 rfl).trans k218
                have hRM246 : fz_RM H233 := fz_RM_eq (funext fun s => hf238 55 s rfl) (funext fun s => hf238 56 s rfl) (hf238 53 0 rfl) (hf238 53 2 rfl) hRM214
                have hRPm247 : fl_RPm H233 := fl_RPm_eq (funext fun s => hf238 61 s rfl) (hf238 53 10 rfl) (hf238 53 0 rfl) hRPm215
                have t248 : H233 53 34 = H208 53 34 := hf238 53 34 rfl
                have t249 : H233 53 0 = H208 53 0 := hf238 53 0 rfl
                have k250 := fl_wd_ia f241 (fl_ST_HT f216 (funext fun s => hf213 60 s rfl) (funext fun s => hf213 62 s rfl) (funext fun s => hf213 63 s rfl) (funext fun s => hf213 64 s rfl) (funext fun s => hf213 66 s rfl) (funext fun s => hf213 67 s rfl) (funext fun s => hf213 68 s rfl) (funext fun s => hf213 69 s rfl) (hf213 53 10 rfl) (hf213 53 18 rfl) (hf213 53 19 rfl) ⟨by omega, by omega⟩) (fl_SM_fr hf198 rfl) ((hf213 53 8 rfl).trans (hf198 53 8 rfl))
                refine fz_if_eq (tgt := 170) kX11_walk rfl (by decide) (fun c252 => ?_) (fun c252 => ?_)
                · refine fz_aload_n kX11_walk rfl rfl ?_
                  refine fz_getR (t := 76) kX11_walk rfl rfl ?_
                  refine fz_iload_n kX11_walk rfl rfl ?_
                  obtain ⟨v253, e254⟩ : ∃ z, H233 76 (on.toNat) = z := ⟨_, rfl⟩
                  refine fz_ialdV (n := 4) (v := v253) kX11_walk rfl rfl (by omega) (by omega) e254 ?_
                  have b255 : 0 ≤ v253 ∧ v253 ≤ 7 := by rw [← e254]; exact hI237.1 76 _
                  have k256 : H233 76 = fz_up h 76 on.toNat (fz_ac (h 55 rd.toNat) (h 56 rd.toNat) (h 76 on.toNat)) 76 := by first | (rw [lost, fz_up_ne (by decide), show H233 76 = H208 76 from funext fun s => hf238 76 s rfl, show H208 76 = H196 76 from funext fun s => hf213 76 s rfl, e199, fz_up_ne (by decide), e185, fz_up_ne (by decide), e171]; exact fz_up_pair (by rw [e30]; exact fz_up_ne (by decide)) rfl k161) | (rw [show H233 76 = H208 76 from funext fun s => hf238 76 s rfl, show H208 76 = H196 76 from funext fun s => hf213 76 s rfl, e199, fz_up_ne (by decide), e185, fz_up_ne (by decide), e171]; exact fz_up_pair (by rw [e30]; exact fz_up_ne (by decide)) rfl k161)
                  have k258 : v253 = fz_ac (h 55 rd.toNat) (h 56 rd.toNat) (h 76 on.toNat) := e254.symm.trans ((congrFun k256 _).trans fz_up_e)
                  exact fz_iret kX11_walk rfl rfl (fun _ => ⟨hI237, hf244, hXw239, hRM246, hRPm247, _, rfl, (by omega), (by first | exact Or.inl ⟨(by unfold fz_wkN; omega), rfl, rfl, rfl⟩ | exact Or.inr (Or.inl ⟨(by unfold fz_wkN; omega), (by rw [← fz_ac_3 (by omega) (by omega)]; decide), rfl, rfl, rfl⟩) | exact Or.inr (Or.inr (Or.inl ⟨(by unfold fz_wkN; omega), fz_ac_nn (hI.1 55 _).1 (hI.1 56 _).1 (by omega), by omega, rfl, rfl, rfl⟩)) | exact Or.inr (Or.inr (Or.inr ⟨(by unfold fz_wkN; omega), by omega, by omega, by omega, by omega, k256⟩))), (by first | exact Or.inl ⟨by omega, rfl⟩ | exact fl_wdM_in (by omega) (by rw [e171, fz_up_ne (by decide), e30]; exact fz_up_ne (by decide)) e185 e179 e199 e193 rfl (funext fun s => hf213 77 s rfl) k250 (by omega) (by omega) (Or.inl ⟨by omega, _, _, (funext fun s => hf238 77 s rfl), lost, lost⟩) (hI.1 77 2) | exact fl_wdM_in (by omega) (by rw [e171, fz_up_ne (by decide), e30]; exact fz_up_ne (by decide)) e185 e179 e199 e193 rfl (funext fun s => hf213 77 s rfl) k250 (by omega) (by omega) (Or.inr ⟨by omega, (funext fun s => hf238 77 s rfl)⟩) (hI.1 77 2))⟩)
                · refine fz_aload_n kX11_walk rfl rfl ?_
                  refine fz_getR (t := 77) kX11_walk rfl rfl ?_
                  refine fz_iconst ⟨by decide, by decide⟩ kX11_walk rfl ?_
                  refine fz_dup2 rfl rfl kX11_walk rfl ?_
                  obtain ⟨v261, e262⟩ : ∃ z, H233 77 (2) = z := ⟨_, rfl⟩
                  refine fz_ialdV (n := 4) (v := v261) kX11_walk rfl rfl (by omega) (by omega) e262 ?_
                  have b263 : (-2147483648) ≤ v261 ∧ v261 ≤ 2147483647 := by rw [← e262]; exact hI237.1 77 _
                  refine fz_iconst ⟨by decide, by decide⟩ kX11_walk rfl ?_
                  refine fz_iadd kX11_walk rfl ?_
                  have b264 := fz_w_b (v261 + 1)
                  refine fz_iast (n := 4) kX11_walk rfl rfl (by omega) (by omega) ?_
                  refine fz_nmu (S := [(53, 34), (74, 99999), (75, 99999), (76, 99999), (77, 99999), (86, 99999), (87, 99999), (88, 99999)]) (h0 := h) (fz_Iv_up hI237 (by decide) (show ((-2147483648) : Int) ≤ (fz_w (v261 + 1)) by omega) (show ((fz_w (v261 + 1)) : Int) ≤ 2147483647 by omega)) (fz_fr_up hf244 rfl) (fun H265 hI266 hf267 e268 => ?_)
                  have k269 : H265 53 34 = ((h 53 34) + (h 57 (rd.toNat))) := by rw [e268]; exact (fz_up_o (by decide)).trans k245
                  have t270 : H265 53 34 = H233 53 34 := by rw [e268]; exact fz_up_o (by decide)
                  have t271 : H265 53 0 = H233 53 0 := by rw [e268]; exact fz_up_o (by decide)
                  have hXw272 : fz_Xw H265 := fz_Xw_eq (by rw [e268]; exact fz_up_o (by decide)) (by rw [e268]; exact fz_up_ne (by decide)) (by rw [e268]; exact fz_up_ne (by decide)) (by rw [e268]; exact fz_up_ne (by decide)) (by rw [e268]; exact fz_up_ne (by decide)) hXw239
                  have hRM273 : fz_RM H265 := fz_RM_eq (by rw [e268]; exact fz_up_ne (by decide)) (by rw [e268]; exact fz_up_ne (by decide)) (by rw [e268]; exact fz_up_o (by decide)) (by rw [e268]; exact fz_up_o (by decide)) hRM246
                  have hRPm274 : fl_RPm H265 := fl_RPm_eq (by rw [e268]; exact fz_up_ne (by decide)) (by rw [e268]; exact fz_up_o (by decide)) (by rw [e268]; exact fz_up_o (by decide)) hRPm247
                  have hHB275 : fl_HB H265 := fl_HB_eq (by rw [e268]; exact fz_up_ne (by decide)) (by rw [e268]; exact fz_up_ne (by decide)) (by rw [e268]; exact fz_up_o (by decide)) (by rw [e268]; exact fz_up_o (by decide)) hHB240
                  refine fz_aload_n kX11_walk rfl rfl ?_
                  refine fz_getR (t := 76) kX11_walk rfl rfl ?_
                  refine fz_iload_n kX11_walk rfl rfl ?_
                  obtain ⟨v276, e277⟩ : ∃ z, H265 76 (on.toNat) = z := ⟨_, rfl⟩
                  refine fz_ialdV (n := 4) (v := v276) kX11_walk rfl rfl (by omega) (by omega) e277 ?_
                  have b278 : 0 ≤ v276 ∧ v276 ≤ 7 := by rw [← e277]; exact hI266.1 76 _
                  have k279 : H265 76 = fz_up h 76 on.toNat (fz_ac (h 55 rd.toNat) (h 56 rd.toNat) (h 76 on.toNat)) 76 := by first | (rw [e268, fz_up_ne (by decide), show H233 76 = H208 76 from funext fun s => hf238 76 s rfl, show H208 76 = H196 76 from funext fun s => hf213 76 s rfl, e199, fz_up_ne (by decide), e185, fz_up_ne (by decide), e171]; exact fz_up_pair (by rw [e30]; exact fz_up_ne (by decide)) rfl k161) | (rw [show H233 76 = H208 76 from funext fun s => hf238 76 s rfl, show H208 76 = H196 76 from funext fun s => hf213 76 s rfl, e199, fz_up_ne (by decide), e185, fz_up_ne (by decide), e171]; exact fz_up_pair (by rw [e30]; exact fz_up_ne (by decide)) rfl k161)
                  have k281 : v276 = fz_ac (h 55 rd.toNat) (h 56 rd.toNat) (h 76 on.toNat) := e277.symm.trans ((congrFun k279 _).trans fz_up_e)
                  exact fz_iret kX11_walk rfl rfl (fun _ => ⟨hI266, hf267, hXw272, hRM273, hRPm274, _, rfl, (by omega), (by first | exact Or.inl ⟨(by unfold fz_wkN; omega), rfl, rfl, rfl⟩ | exact Or.inr (Or.inl ⟨(by unfold fz_wkN; omega), (by rw [← fz_ac_3 (by omega) (by omega)]; decide), rfl, rfl, rfl⟩) | exact Or.inr (Or.inr (Or.inl ⟨(by unfold fz_wkN; omega), fz_ac_nn (hI.1 55 _).1 (hI.1 56 _).1 (by omega), by omega, rfl, rfl, rfl⟩)) | exact Or.inr (Or.inr (Or.inr ⟨(by unfold fz_wkN; omega), by omega, by omega, by omega, by omega, k279⟩))), (by first | exact Or.inl ⟨by omega, rfl⟩ | exact fl_wdM_in (by omega) (by rw [e171, fz_up_ne (by decide), e30]; exact fz_up_ne (by decide)) e185 e179 e199 e193 rfl (funext fun s => hf213 77 s rfl) k250 (by omega) (by omega) (Or.inl ⟨by omega, _, _, (funext fun s => hf238 77 s rfl), e262, e268⟩) (hI.1 77 2) | exact fl_wdM_in (by omega) (by rw [e171, fz_up_ne (by decide), e30]; exact fz_up_ne (by decide)) e185 e179 e199 e193 rfl (funext fun s => hf213 77 s rfl) k250 (by omega) (by omega) (Or.inr ⟨by omega, (funext fun s => hf238 77 s rfl)⟩) (hI.1 77 2))⟩)
            · refine fz_bipush ⟨by decide, by decide⟩ kX11_walk rfl ?_
              exact fz_iret kX11_walk rfl rfl (fun _ => ⟨hI, hf, hXw, hRM, hRPm, _, rfl, (by omega), (by first | exact Or.inl ⟨(by unfold fz_wkN; omega), rfl, rfl, rfl⟩ | exact Or.inr (Or.inl ⟨(by unfold fz_wkN; omega), (by rw [← fz_ac_3 (by omega) (by omega)]; decide), rfl, rfl, rfl⟩) | exact Or.inr (Or.inr (Or.inl ⟨(by unfold fz_wkN; omega), fz_ac_nn (hI.1 55 _).1 (hI.1 56 _).1 (by omega), by omega, rfl, rfl, rfl⟩)) | exact Or.inr (Or.inr (Or.inr ⟨(by unfold fz_wkN; omega), by omega, by omega, by omega, by omega, lost⟩))), (by first | exact Or.inl ⟨by omega, rfl⟩ | exact fl_wdM_in (by omega) (by rw [lost, fz_up_ne (by decide), lost]; exact fz_up_ne (by decide)) lost lost lost lost rfl (funext fun s => lost 77 s rfl) lost (by omega) (by omega) (Or.inl ⟨by omega, _, _, (funext fun s => lost 77 s rfl), lost, lost⟩) (hI.1 77 2) | exact fl_wdM_in (by omega) (by rw [lost, fz_up_ne (by decide), lost]; exact fz_up_ne (by decide)) lost lost lost lost rfl (funext fun s => lost 77 s rfl) lost (by omega) (by omega) (Or.inr ⟨by omega, (funext fun s => lost 77 s rfl)⟩) (hI.1 77 2))⟩)
          · refine fz_aload_n kX11_walk rfl rfl ?_
            refine fz_getR (t := 56) kX11_walk rfl rfl ?_
            refine fz_iload_n kX11_walk rfl rfl ?_
            refine fz_ialdV (n := 12) (v := h 56 (rd.toNat)) kX11_walk rfl rfl (by omega) (by omega) rfl ?_
            have b286 : 0 ≤ h 56 (rd.toNat) ∧ h 56 (rd.toNat) ≤ 7 := hI.1 56 _
            refine fz_iload_n kX11_walk rfl rfl ?_
            refine fz_icmp_eq (tgt := 47) kX11_walk rfl (by decide) (fun c287 => ?_) (fun c287 => ?_)
            · refine fz_aload_n kX11_walk rfl rfl ?_
              refine fz_getV (v := h 53 34) kX11_walk rfl rfl rfl ?_
              have b288 : 0 ≤ h 53 34 ∧ h 53 34 ≤ 999 := hI.1 53 _
              refine fz_aload_n kX11_walk rfl rfl ?_
              refine fz_getR (t := 57) kX11_walk rfl rfl ?_
              refine fz_iload_n kX11_walk rfl rfl ?_
              refine fz_ialdV (n := 12) (v := h 57 (rd.toNat)) kX11_walk rfl rfl (by omega) (by omega) rfl ?_
              have b289 : 0 ≤ h 57 (rd.toNat) ∧ h 57 (rd.toNat) ≤ 24 := hI.1 57 _
              refine fz_iaddN kX11_walk rfl (by omega) ?_
              refine fz_sipush ⟨by decide, by decide⟩ kX11_walk rfl ?_
              refine fz_icmp_le (tgt := 67) kX11_walk rfl (by decide) (fun c290 => ?_) (fun c290 => ?_)
              · refine fz_aload_n kX11_walk rfl rfl ?_
                refine fz_dup rfl kX11_walk rfl ?_
                refine fz_getV (v := h 53 34) kX11_walk rfl rfl rfl ?_
                refine fz_aload_n kX11_walk rfl rfl ?_
                refine fz_getR (t := 57) kX11_walk rfl rfl ?_
                refine fz_iload_n kX11_walk rfl rfl ?_
                refine fz_ialdV (n := 12) (v := h 57 (rd.toNat)) kX11_walk rfl rfl (by omega) (by omega) rfl ?_
                refine fz_iaddN kX11_walk rfl (by omega) ?_
                refine fz_putI kX11_walk rfl rfl rfl ?_
                refine fz_nmu (S := [(53, 34), (74, 99999), (75, 99999), (76, 99999), (77, 99999), (86, 99999), (87, 99999), (88, 99999)]) (h0 := h) (fz_Iv_up hI (by decide) (show (0 : Int) ≤ ((h 53 34) + (h 57 (rd.toNat))) by omega) (show (((h 53 34) + (h 57 (rd.toNat))) : Int) ≤ 999 by omega)) (fz_fr_up hf rfl) (fun H291 hI292 hf293 e294 => ?_)
                have k295 : H291 53 34 = ((h 53 34) + (h 57 (rd.toNat))) := by rw [e294]; exact fz_up_e
                have t296 : H291 53 0 = h 53 0 := by rw [e294]; exact fz_up_s (by decide)
                have hXw297 : fz_Xw H291 := fz_Xw_eq (by rw [e294]; exact fz_up_s (by decide)) (by rw [e294]; exact fz_up_ne (by decide)) (by rw [e294]; exact fz_up_ne (by decide)) (by rw [e294]; exact fz_up_ne (by decide)) (by rw [e294]; exact fz_up_ne (by decide)) hXw
                have hRM298 : fz_RM H291 := fz_RM_eq (by rw [e294]; exact fz_up_ne (by decide)) (by rw [e294]; exact fz_up_ne (by decide)) (by rw [e294]; exact fz_up_s (by decide)) (by rw [e294]; exact fz_up_s (by decide)) hRM
                have hRPm299 : fl_RPm H291 := fl_RPm_eq (by rw [e294]; exact fz_up_ne (by decide)) (by rw [e294]; exact fz_up_s (by decide)) (by rw [e294]; exact fz_up_s (by decide)) hRPm
                refine fz_aload_n kX11_walk rfl rfl ?_
                refine fz_getR (t := 76) kX11_walk rfl rfl ?_
                refine fz_iload_n kX11_walk rfl rfl ?_
                refine fz_aload_n kX11_walk rfl rfl ?_
                refine fz_getR (t := 55) kX11_walk rfl rfl ?_
                refine fz_iload_n kX11_walk rfl rfl ?_
                refine fz_ialdV (n := 12) (v := h 55 (rd.toNat)) kX11_walk rfl rfl (by omega) (by omega) (hf293 55 _ rfl) ?_
                refine fz_iload_n kX11_walk rfl rfl ?_
                refine fz_icmp_ne (tgt := 106) kX11_walk rfl (by decide) (fun c300 => ?_) (fun c300 => ?_)
                · refine fz_aload_n kX11_walk rfl rfl ?_
                  refine fz_getR (t := 55) kX11_walk rfl rfl ?_
                  refine fz_iload_n kX11_walk rfl rfl ?_
                  refine fz_ialdV (n := 12) (v := h 55 (rd.toNat)) kX11_walk rfl rfl (by omega) (by omega) (hf293 55 _ rfl) ?_
                  have k301 : (h 55 (rd.toNat)) = fz_ac (h 55 rd.toNat) (h 56 rd.toNat) (h 76 on.toNat) := by first | exact fz_ac_1 (by omega) | exact fz_ac_2 (by omega) (by omega) | (exfalso; omega)
                  have k303 : 0 ≤ fz_ac (h 55 rd.toNat) (h 56 rd.toNat) (h 76 on.toNat) := fz_ac_nn (hI.1 55 _).1 (hI.1 56 _).1 (by omega)
                  obtain ⟨k304, k305⟩ : ∃ z, z = (h 55 (rd.toNat)) := ⟨_, rfl⟩
                  have k307 := hRM rd.toNat (by omega)
                  refine fz_iast (n := 4) kX11_walk rfl rfl (by omega) (by omega) ?_
                  refine fz_nmu (S := [(53, 34), (74, 99999), (75, 99999), (76, 99999), (77, 99999), (86, 99999), (87, 99999), (88, 99999)]) (h0 := h) (fz_Iv_up hI292 (by decide) (show (0 : Int) ≤ (h 55 (rd.toNat)) by omega) (show ((h 55 (rd.toNat)) : Int) ≤ 7 by omega)) (fz_fr_up hf293 rfl) (fun H308 hI309 hf310 e311 => ?_)
                  have k312 : H308 53 34 = ((h 53 34) + (h 57 (rd.toNat))) := by rw [e311]; exact (fz_up_o (by decide)).trans k295
                  have t313 : H308 53 34 = H291 53 34 := by rw [e311]; exact fz_up_o (by decide)
                  have t314 : H308 53 0 = H291 53 0 := by rw [e311]; exact fz_up_o (by decide)
                  have hXw315 : fz_Xw H308 := fz_Xw_eq (by rw [e311]; exact fz_up_o (by decide)) (by rw [e311]; exact fz_up_ne (by decide)) (by rw [e311]; exact fz_up_ne (by decide)) (by rw [e311]; exact fz_up_ne (by decide)) (by rw [e311]; exact fz_up_ne (by decide)) hXw297
                  have hRM316 : fz_RM H308 := fz_RM_eq (by rw [e311]; exact fz_up_ne (by decide)) (by rw [e311]; exact fz_up_ne (by decide)) (by rw [e311]; exact fz_up_o (by decide)) (by rw [e311]; exact fz_up_o (by decide)) hRM298
                  have hRPm317 : fl_RPm H308 := fl_RPm_eq (by rw [e311]; exact fz_up_ne (by decide)) (by rw [e311]; exact fz_up_o (by decide)) (by rw [e311]; exact fz_up_o (by decide)) hRPm299
                  refine fz_aload_n kX11_walk rfl rfl ?_
                  refine fz_getR (t := 77) kX11_walk rfl rfl ?_
                  refine fz_iconst ⟨by decide, by decide⟩ kX11_walk rfl ?_
                  refine fz_dup2 rfl rfl kX11_walk rfl ?_
                  obtain ⟨v318, e319⟩ : ∃ z, H308 77 (0) = z := ⟨_, rfl⟩
                  refine fz_ialdV (n := 4) (v := v318) kX11_walk rfl rfl (by omega) (by omega) e319 ?_
                  have b320 : (-2147483648) ≤ v318 ∧ v318 ≤ 2147483647 := by rw [← e319]; exact hI309.1 77 _
                  refine fz_iconst ⟨by decide, by decide⟩ kX11_walk rfl ?_
                  refine fz_iadd kX11_walk rfl ?_
                  have b321 := fz_w_b (v318 + 1)
                  refine fz_iast (n := 4) kX11_walk rfl rfl (by omega) (by omega) ?_
                  refine fz_nmu (S := [(53, 34), (74, 99999), (75, 99999), (76, 99999), (77, 99999), (86, 99999), (87, 99999), (88, 99999)]) (h0 := h) (fz_Iv_up hI309 (by decide) (show ((-2147483648) : Int) ≤ (fz_w (v318 + 1)) by omega) (show ((fz_w (v318 + 1)) : Int) ≤ 2147483647 by omega)) (fz_fr_up hf310 rfl) (fun H322 hI323 hf324 e325 => ?_)
                  have k326 : H322 53 34 = ((h 53 34) + (h 57 (rd.toNat))) := by rw [e325]; exact (fz_up_o (by decide)).trans k312
                  have t327 : H322 53 34 = H308 53 34 := by rw [e325]; exact fz_up_o (by decide)
                  have t328 : H322 53 0 = H308 53 0 := by rw [e325]; exact fz_up_o (by decide)
                  have hXw329 : fz_Xw H322 := fz_Xw_eq (by rw [e325]; exact fz_up_o (by decide)) (by rw [e325]; exact fz_up_ne (by decide)) (by rw [e325]; exact fz_up_ne (by decide)) (by rw [e325]; exact fz_up_ne (by decide)) (by rw [e325]; exact fz_up_ne (by decide)) hXw315
                  have hRM330 : fz_RM H322 := fz_RM_eq (by rw [e325]; exact fz_up_ne (by decide)) (by rw [e325]; exact fz_up_ne (by decide)) (by rw [e325]; exact fz_up_o (by decide)) (by rw [e325]; exact fz_up_o (by decide)) hRM316
                  have hRPm331 : fl_RPm H322 := fl_RPm_eq (by rw [e325]; exact fz_up_ne (by decide)) (by rw [e325]; exact fz_up_o (by decide)) (by rw [e325]; exact fz_up_o (by decide)) hRPm317
                  refine fz_aload_n kX11_walk rfl rfl ?_
                  refine fz_getR (t := 77) kX11_walk rfl rfl ?_
                  refine fz_iconst ⟨by decide, by decide⟩ kX11_walk rfl ?_
                  refine fz_dup2 rfl rfl kX11_walk rfl ?_
                  obtain ⟨v332, e333⟩ : ∃ z, H322 77 (1) = z := ⟨_, rfl⟩
                  refine fz_ialdV (n := 4) (v := v332) kX11_walk rfl rfl (by omega) (by omega) e333 ?_
                  have b334 : (-2147483648) ≤ v332 ∧ v332 ≤ 2147483647 := by rw [← e333]; exact hI323.1 77 _
                  refine fz_aload_n kX11_walk rfl rfl ?_
                  refine fz_getR (t := 57) kX11_walk rfl rfl ?_
                  refine fz_iload_n kX11_walk rfl rfl ?_
                  refine fz_ialdV (n := 12) (v := h 57 (rd.toNat)) kX11_walk rfl rfl (by omega) (by omega) (hf324 57 _ rfl) ?_
                  refine fz_iadd kX11_walk rfl ?_
                  have b335 := fz_w_b (v332 + (h 57 (rd.toNat)))
                  refine fz_iast (n := 4) kX11_walk rfl rfl (by omega) (by omega) ?_
                  refine fz_nmu (S := [(53, 34), (74, 99999), (75, 99999), (76, 99999), (77, 99999), (86, 99999), (87, 99999), (88, 99999)]) (h0 := h) (fz_Iv_up hI323 (by decide) (show ((-2147483648) : Int) ≤ (fz_w (v332 + (h 57 (rd.toNat)))) by omega) (show ((fz_w (v332 + (h 57 (rd.toNat)))) : Int) ≤ 2147483647 by omega)) (fz_fr_up hf324 rfl) (fun H336 hI337 hf338 e339 => ?_)
                  have k340 : H336 53 34 = ((h 53 34) + (h 57 (rd.toNat))) := by rw [e339]; exact (fz_up_o (by decide)).trans k326
                  have t341 : H336 53 34 = H322 53 34 := by rw [e339]; exact fz_up_o (by decide)
                  have t342 : H336 53 0 = H322 53 0 := by rw [e339]; exact fz_up_o (by decide)
                  have hXw343 : fz_Xw H336 := fz_Xw_eq (by rw [e339]; exact fz_up_o (by decide)) (by rw [e339]; exact fz_up_ne (by decide)) (by rw [e339]; exact fz_up_ne (by decide)) (by rw [e339]; exact fz_up_ne (by decide)) (by rw [e339]; exact fz_up_ne (by decide)) hXw329
                  have hRM344 : fz_RM H336 := fz_RM_eq (by rw [e339]; exact fz_up_ne (by decide)) (by rw [e339]; exact fz_up_ne (by decide)) (by rw [e339]; exact fz_up_o (by decide)) (by rw [e339]; exact fz_up_o (by decide)) hRM330
                  have hRPm345 : fl_RPm H336 := fl_RPm_eq (by rw [e339]; exact fz_up_ne (by decide)) (by rw [e339]; exact fz_up_o (by decide)) (by rw [e339]; exact fz_up_o (by decide)) hRPm331
                  refine fz_aload_n kX11_walk rfl rfl ?_
                  have b346 : 0 ≤ h 53 10 ∧ h 53 10 ≤ 11 := hI.1 53 _
                  have e347 : H336 53 10 = h 53 10 := hf338 53 10 rfl
                  refine fz_callV (d' := 3) (M' := mX11_allHear) (As := []) (st := []) kX11_walk rfl rfl vX11_allHear rfl rfl rfl rfl (Nat.le_of_ble_eq_true rfl) (Nat.le_of_ble_eq_true rfl) (by decide) (sX11_allHear H336 hI337  hRM344 hRPm345) (fun H348 r349 q350 o351 => ?_)
                  obtain ⟨hI352, hf353, hRM354, hRPm355, rfl, f356⟩ := q350
                  clear o351
                  have hf357 := fz_fr_tr hf338 hf353 (show fz_su [(86, 99999), (87, 99999), (88, 99999)] [(53, 34), (74, 99999), (75, 99999), (76, 99999), (77, 99999), (86, 99999), (87, 99999), (88, 99999)] = true from rfl)
                  have k358 : H348 53 34 = ((h 53 34) + (h 57 (rd.toNat))) := (hf353 53 34 rfl).trans k340
                  have hXw359 : fz_Xw H348 := fz_Xw_eq (hf353 53 19 rfl) (funext fun s => hf353 66 s rfl) (funext fun s => hf353 67 s rfl) (funext fun s => hf353 68 s rfl) (funext fun s => hf353 69 s rfl) hXw343
                  have t360 : H348 53 34 = H336 53 34 := hf353 53 34 rfl
                  have t361 : H348 53 0 = H336 53 0 := hf353 53 0 rfl
                  have hHB362 : fl_HB H348 := fl_HB_of2 f356 (funext fun s => hf353 62 s rfl) (hf353 53 10 rfl) (hf353 53 0 rfl) (funext fun s => hf353 54 s rfl) (fun q => (hI352.1 54 q).1)
                  refine fz_aload_n kX11_walk rfl rfl ?_
                  refine fz_iload_n kX11_walk rfl rfl ?_
                  refine fz_aload_n kX11_walk rfl rfl ?_
                  refine fz_getR (t := 76) kX11_walk rfl rfl ?_
                  refine fz_iload_n kX11_walk rfl rfl ?_
                  obtain ⟨v364, e365⟩ : ∃ z, H348 76 (on.toNat) = z := ⟨_, rfl⟩
                  refine fz_ialdV (n := 4) (v := v364) kX11_walk rfl rfl (by omega) (by omega) e365 ?_
                  have b366 : 0 ≤ v364 ∧ v364 ≤ 7 := by rw [← e365]; exact hI352.1 76 _
                  have k367 : v364 = k304 := e365.symm.trans ((hf353 76 _ rfl).trans (by rw [k305, e339, fz_up_o (by decide), e325, fz_up_o (by decide), e311]; exact fz_up_e))
                  refine fz_aload_n kX11_walk rfl rfl ?_
                  refine fz_getV (v := ((h 53 34) + (h 57 (rd.toNat)))) kX11_walk rfl rfl k358 ?_
                  have b369 : 0 ≤ h 53 0 ∧ h 53 0 ≤ 8 := hI.1 53 _
                  have b370 : 0 ≤ h 53 8 ∧ h 53 8 ≤ 99 := hI.1 53 _
                  have e371 : H348 53 0 = h 53 0 := hf357 53 0 rfl
                  have e372 : H348 53 8 = h 53 8 := hf357 53 8 rfl
                  refine fz_callV (d' := 4) (M' := mX11_isArrested) (As := [fz_i on, fz_i v364, fz_i ((h 53 34) + (h 57 (rd.toNat)))]) (st := []) kX11_walk rfl rfl vX11_isArrested rfl rfl rfl rfl (Nat.le_of_ble_eq_true rfl) (Nat.le_of_ble_eq_true rfl) (by decide) (sX11_isArrested H348 hI352 on v364 ((h 53 34) + (h 57 (rd.toNat))) hXw359 hHB362 (by omega) (by omega)) (fun H373 r374 q375 o376 => ?_)
                  obtain ⟨hI377, hf378, hXw379, hHB380, y382, rfl, p383, f381⟩ := q375
                  clear o376
                  have hf384 := fz_fr_tr hf357 hf378 (show fz_su [(74, 99999), (75, 99999)] [(53, 34), (74, 99999), (75, 99999), (76, 99999), (77, 99999), (86, 99999), (87, 99999), (88, 99999)] = true from rfl)
                  have k385 : H373 53 34 = ((h 53 34) + (h 57 (rd.toNat))) := (hf378 53 34 rfl).trans k358
                  have hRM386 : fz_RM H373 := fz_RM_eq (funext fun s => hf378 55 s rfl) (funext fun s => hf378 56 s rfl) (hf378 53 0 rfl) (hf378 53 2 rfl) hRM354
                  have hRPm387 : fl_RPm H373 := fl_RPm_eq (funext fun s => hf378 61 s rfl) (hf378 53 10 rfl) (hf378 53 0 rfl) hRPm355
                  have t388 : H373 53 34 = H348 53 34 := hf378 53 34 rfl
                  have t389 : H373 53 0 = H348 53 0 := hf378 53 0 rfl
                  have k390 := fl_wd_ia f381 (fl_ST_HT f356 (funext fun s => hf353 60 s rfl) (funext fun s => hf353 62 s rfl) (funext fun s => hf353 63 s rfl) (funext fun s => hf353 64 s rfl) (funext fun s => hf353 66 s rfl) (funext fun s => hf353 67 s rfl) (funext fun s => hf353 68 s rfl) (funext fun s => hf353 69 s rfl) (hf353 53 10 rfl) (hf353 53 18 rfl) (hf353 53 19 rfl) ⟨by omega, by omega⟩) (fl_SM_fr hf338 rfl) ((hf353 53 8 rfl).trans (hf338 53 8 rfl))
                  refine fz_if_eq (tgt := 170) kX11_walk rfl (by decide) (fun c392 => ?_) (fun c392 => ?_)
                  · refine fz_aload_n kX11_walk rfl rfl ?_
                    refine fz_getR (t := 76) kX11_walk rfl rfl ?_
                    refine fz_iload_n kX11_walk rfl rfl ?_
                    obtain ⟨v393, e394⟩ : ∃ z, H373 76 (on.toNat) = z := ⟨_, rfl⟩
                    refine fz_ialdV (n := 4) (v := v393) kX11_walk rfl rfl (by omega) (by omega) e394 ?_
                    have b395 : 0 ≤ v393 ∧ v393 ≤ 7 := by rw [← e394]; exact hI377.1 76 _
                    have k396 : H373 76 = fz_up h 76 on.toNat (fz_ac (h 55 rd.toNat) (h 56 rd.toNat) (h 76 on.toNat)) 76 := by first | (rw [lost, fz_up_ne (by decide), show H373 76 = H348 76 from funext fun s => hf378 76 s rfl, show H348 76 = H336 76 from funext fun s => hf353 76 s rfl, e339, fz_up_ne (by decide), e325, fz_up_ne (by decide), e311]; exact fz_up_pair (by rw [e294]; exact fz_up_ne (by decide)) rfl k301) | (rw [show H373 76 = H348 76 from funext fun s => hf378 76 s rfl, show H348 76 = H336 76 from funext fun s => hf353 76 s rfl, e339, fz_up_ne (by decide), e325, fz_up_ne (by decide), e311]; exact fz_up_pair (by rw [e294]; exact fz_up_ne (by decide)) rfl k301)
                    have k398 : v393 = fz_ac (h 55 rd.toNat) (h 56 rd.toNat) (h 76 on.toNat) := e394.symm.trans ((congrFun k396 _).trans fz_up_e)
                    exact fz_iret kX11_walk rfl rfl (fun _ => ⟨hI377, hf384, hXw379, hRM386, hRPm387, _, rfl, (by omega), (by first | exact Or.inl ⟨(by unfold fz_wkN; omega), rfl, rfl, rfl⟩ | exact Or.inr (Or.inl ⟨(by unfold fz_wkN; omega), (by rw [← fz_ac_3 (by omega) (by omega)]; decide), rfl, rfl, rfl⟩) | exact Or.inr (Or.inr (Or.inl ⟨(by unfold fz_wkN; omega), fz_ac_nn (hI.1 55 _).1 (hI.1 56 _).1 (by omega), by omega, rfl, rfl, rfl⟩)) | exact Or.inr (Or.inr (Or.inr ⟨(by unfold fz_wkN; omega), by omega, by omega, by omega, by omega, k396⟩))), (by first | exact Or.inl ⟨by omega, rfl⟩ | exact fl_wdM_in (by omega) (by rw [e311, fz_up_ne (by decide), e294]; exact fz_up_ne (by decide)) e325 e319 e339 e333 rfl (funext fun s => hf353 77 s rfl) k390 (by omega) (by omega) (Or.inl ⟨by omega, _, _, (funext fun s => hf378 77 s rfl), lost, lost⟩) (hI.1 77 2) | exact fl_wdM_in (by omega) (by rw [e311, fz_up_ne (by decide), e294]; exact fz_up_ne (by decide)) e325 e319 e339 e333 rfl (funext fun s => hf353 77 s rfl) k390 (by omega) (by omega) (Or.inr ⟨by omega, (funext fun s => hf378 77 s rfl)⟩) (hI.1 77 2))⟩)
                  · refine fz_aload_n kX11_walk rfl rfl ?_
                    refine fz_getR (t := 77) kX11_walk rfl rfl ?_
                    refine fz_iconst ⟨by decide, by decide⟩ kX11_walk rfl ?_
                    refine fz_dup2 rfl rfl kX11_walk rfl ?_
                    obtain ⟨v401, e402⟩ : ∃ z, H373 77 (2) = z := ⟨_, rfl⟩
                    refine fz_ialdV (n := 4) (v := v401) kX11_walk rfl rfl (by omega) (by omega) e402 ?_
                    have b403 : (-2147483648) ≤ v401 ∧ v401 ≤ 2147483647 := by rw [← e402]; exact hI377.1 77 _
                    refine fz_iconst ⟨by decide, by decide⟩ kX11_walk rfl ?_
                    refine fz_iadd kX11_walk rfl ?_
                    have b404 := fz_w_b (v401 + 1)
                    refine fz_iast (n := 4) kX11_walk rfl rfl (by omega) (by omega) ?_
                    refine fz_nmu (S := [(53, 34), (74, 99999), (75, 99999), (76, 99999), (77, 99999), (86, 99999), (87, 99999), (88, 99999)]) (h0 := h) (fz_Iv_up hI377 (by decide) (show ((-2147483648) : Int) ≤ (fz_w (v401 + 1)) by omega) (show ((fz_w (v401 + 1)) : Int) ≤ 2147483647 by omega)) (fz_fr_up hf384 rfl) (fun H405 hI406 hf407 e408 => ?_)
                    have k409 : H405 53 34 = ((h 53 34) + (h 57 (rd.toNat))) := by rw [e408]; exact (fz_up_o (by decide)).trans k385
                    have t410 : H405 53 34 = H373 53 34 := by rw [e408]; exact fz_up_o (by decide)
                    have t411 : H405 53 0 = H373 53 0 := by rw [e408]; exact fz_up_o (by decide)
                    have hXw412 : fz_Xw H405 := fz_Xw_eq (by rw [e408]; exact fz_up_o (by decide)) (by rw [e408]; exact fz_up_ne (by decide)) (by rw [e408]; exact fz_up_ne (by decide)) (by rw [e408]; exact fz_up_ne (by decide)) (by rw [e408]; exact fz_up_ne (by decide)) hXw379
                    have hRM413 : fz_RM H405 := fz_RM_eq (by rw [e408]; exact fz_up_ne (by decide)) (by rw [e408]; exact fz_up_ne (by decide)) (by rw [e408]; exact fz_up_o (by decide)) (by rw [e408]; exact fz_up_o (by decide)) hRM386
                    have hRPm414 : fl_RPm H405 := fl_RPm_eq (by rw [e408]; exact fz_up_ne (by decide)) (by rw [e408]; exact fz_up_o (by decide)) (by rw [e408]; exact fz_up_o (by decide)) hRPm387
                    have hHB415 : fl_HB H405 := fl_HB_eq (by rw [e408]; exact fz_up_ne (by decide)) (by rw [e408]; exact fz_up_ne (by decide)) (by rw [e408]; exact fz_up_o (by decide)) (by rw [e408]; exact fz_up_o (by decide)) hHB380
                    refine fz_aload_n kX11_walk rfl rfl ?_
                    refine fz_getR (t := 76) kX11_walk rfl rfl ?_
                    refine fz_iload_n kX11_walk rfl rfl ?_
                    obtain ⟨v416, e417⟩ : ∃ z, H405 76 (on.toNat) = z := ⟨_, rfl⟩
                    refine fz_ialdV (n := 4) (v := v416) kX11_walk rfl rfl (by omega) (by omega) e417 ?_
                    have b418 : 0 ≤ v416 ∧ v416 ≤ 7 := by rw [← e417]; exact hI406.1 76 _
                    have k419 : H405 76 = fz_up h 76 on.toNat (fz_ac (h 55 rd.toNat) (h 56 rd.toNat) (h 76 on.toNat)) 76 := by first | (rw [e408, fz_up_ne (by decide), show H373 76 = H348 76 from funext fun s => hf378 76 s rfl, show H348 76 = H336 76 from funext fun s => hf353 76 s rfl, e339, fz_up_ne (by decide), e325, fz_up_ne (by decide), e311]; exact fz_up_pair (by rw [e294]; exact fz_up_ne (by decide)) rfl k301) | (rw [show H373 76 = H348 76 from funext fun s => hf378 76 s rfl, show H348 76 = H336 76 from funext fun s => hf353 76 s rfl, e339, fz_up_ne (by decide), e325, fz_up_ne (by decide), e311]; exact fz_up_pair (by rw [e294]; exact fz_up_ne (by decide)) rfl k301)
                    have k421 : v416 = fz_ac (h 55 rd.toNat) (h 56 rd.toNat) (h 76 on.toNat) := e417.symm.trans ((congrFun k419 _).trans fz_up_e)
                    exact fz_iret kX11_walk rfl rfl (fun _ => ⟨hI406, hf407, hXw412, hRM413, hRPm414, _, rfl, (by omega), (by first | exact Or.inl ⟨(by unfold fz_wkN; omega), rfl, rfl, rfl⟩ | exact Or.inr (Or.inl ⟨(by unfold fz_wkN; omega), (by rw [← fz_ac_3 (by omega) (by omega)]; decide), rfl, rfl, rfl⟩) | exact Or.inr (Or.inr (Or.inl ⟨(by unfold fz_wkN; omega), fz_ac_nn (hI.1 55 _).1 (hI.1 56 _).1 (by omega), by omega, rfl, rfl, rfl⟩)) | exact Or.inr (Or.inr (Or.inr ⟨(by unfold fz_wkN; omega), by omega, by omega, by omega, by omega, k419⟩))), (by first | exact Or.inl ⟨by omega, rfl⟩ | exact fl_wdM_in (by omega) (by rw [e311, fz_up_ne (by decide), e294]; exact fz_up_ne (by decide)) e325 e319 e339 e333 rfl (funext fun s => hf353 77 s rfl) k390 (by omega) (by omega) (Or.inl ⟨by omega, _, _, (funext fun s => hf378 77 s rfl), e402, e408⟩) (hI.1 77 2) | exact fl_wdM_in (by omega) (by rw [e311, fz_up_ne (by decide), e294]; exact fz_up_ne (by decide)) e325 e319 e339 e333 rfl (funext fun s => hf353 77 s rfl) k390 (by omega) (by omega) (Or.inr ⟨by omega, (funext fun s => hf378 77 s rfl)⟩) (hI.1 77 2))⟩)
                · refine fz_aload_n kX11_walk rfl rfl ?_
                  refine fz_getR (t := 56) kX11_walk rfl rfl ?_
                  refine fz_iload_n kX11_walk rfl rfl ?_
                  refine fz_ialdV (n := 12) (v := h 56 (rd.toNat)) kX11_walk rfl rfl (by omega) (by omega) (hf293 56 _ rfl) ?_
                  refine fz_goto (tgt := 112) kX11_walk rfl (by decide) ?_
                  have k424 : (h 56 (rd.toNat)) = fz_ac (h 55 rd.toNat) (h 56 rd.toNat) (h 76 on.toNat) := by first | exact fz_ac_1 (by omega) | exact fz_ac_2 (by omega) (by omega) | (exfalso; omega)
                  have k426 : 0 ≤ fz_ac (h 55 rd.toNat) (h 56 rd.toNat) (h 76 on.toNat) := fz_ac_nn (hI.1 55 _).1 (hI.1 56 _).1 (by omega)
                  obtain ⟨k427, k428⟩ : ∃ z, z = (h 56 (rd.toNat)) := ⟨_, rfl⟩
                  have k430 := hRM rd.toNat (by omega)
                  refine fz_iast (n := 4) kX11_walk rfl rfl (by omega) (by omega) ?_
                  refine fz_nmu (S := [(53, 34), (74, 99999), (75, 99999), (76, 99999), (77, 99999), (86, 99999), (87, 99999), (88, 99999)]) (h0 := h) (fz_Iv_up hI292 (by decide) (show (0 : Int) ≤ (h 56 (rd.toNat)) by omega) (show ((h 56 (rd.toNat)) : Int) ≤ 7 by omega)) (fz_fr_up hf293 rfl) (fun H431 hI432 hf433 e434 => ?_)
                  have k435 : H431 53 34 = ((h 53 34) + (h 57 (rd.toNat))) := by rw [e434]; exact (fz_up_o (by decide)).trans k295
                  have t436 : H431 53 34 = H291 53 34 := by rw [e434]; exact fz_up_o (by decide)
                  have t437 : H431 53 0 = H291 53 0 := by rw [e434]; exact fz_up_o (by decide)
                  have hXw438 : fz_Xw H431 := fz_Xw_eq (by rw [e434]; exact fz_up_o (by decide)) (by rw [e434]; exact fz_up_ne (by decide)) (by rw [e434]; exact fz_up_ne (by decide)) (by rw [e434]; exact fz_up_ne (by decide)) (by rw [e434]; exact fz_up_ne (by decide)) hXw297
                  have hRM439 : fz_RM H431 := fz_RM_eq (by rw [e434]; exact fz_up_ne (by decide)) (by rw [e434]; exact fz_up_ne (by decide)) (by rw [e434]; exact fz_up_o (by decide)) (by rw [e434]; exact fz_up_o (by decide)) hRM298
                  have hRPm440 : fl_RPm H431 := fl_RPm_eq (by rw [e434]; exact fz_up_ne (by decide)) (by rw [e434]; exact fz_up_o (by decide)) (by rw [e434]; exact fz_up_o (by decide)) hRPm299
                  refine fz_aload_n kX11_walk rfl rfl ?_
                  refine fz_getR (t := 77) kX11_walk rfl rfl ?_
                  refine fz_iconst ⟨by decide, by decide⟩ kX11_walk rfl ?_
                  refine fz_dup2 rfl rfl kX11_walk rfl ?_
                  obtain ⟨v441, e442⟩ : ∃ z, H431 77 (0) = z := ⟨_, rfl⟩
                  refine fz_ialdV (n := 4) (v := v441) kX11_walk rfl rfl (by omega) (by omega) e442 ?_
                  have b443 : (-2147483648) ≤ v441 ∧ v441 ≤ 2147483647 := by rw [← e442]; exact hI432.1 77 _
                  refine fz_iconst ⟨by decide, by decide⟩ kX11_walk rfl ?_
                  refine fz_iadd kX11_walk rfl ?_
                  have b444 := fz_w_b (v441 + 1)
                  refine fz_iast (n := 4) kX11_walk rfl rfl (by omega) (by omega) ?_
                  refine fz_nmu (S := [(53, 34), (74, 99999), (75, 99999), (76, 99999), (77, 99999), (86, 99999), (87, 99999), (88, 99999)]) (h0 := h) (fz_Iv_up hI432 (by decide) (show ((-2147483648) : Int) ≤ (fz_w (v441 + 1)) by omega) (show ((fz_w (v441 + 1)) : Int) ≤ 2147483647 by omega)) (fz_fr_up hf433 rfl) (fun H445 hI446 hf447 e448 => ?_)
                  have k449 : H445 53 34 = ((h 53 34) + (h 57 (rd.toNat))) := by rw [e448]; exact (fz_up_o (by decide)).trans k435
                  have t450 : H445 53 34 = H431 53 34 := by rw [e448]; exact fz_up_o (by decide)
                  have t451 : H445 53 0 = H431 53 0 := by rw [e448]; exact fz_up_o (by decide)
                  have hXw452 : fz_Xw H445 := fz_Xw_eq (by rw [e448]; exact fz_up_o (by decide)) (by rw [e448]; exact fz_up_ne (by decide)) (by rw [e448]; exact fz_up_ne (by decide)) (by rw [e448]; exact fz_up_ne (by decide)) (by rw [e448]; exact fz_up_ne (by decide)) hXw438
                  have hRM453 : fz_RM H445 := fz_RM_eq (by rw [e448]; exact fz_up_ne (by decide)) (by rw [e448]; exact fz_up_ne (by decide)) (by rw [e448]; exact fz_up_o (by decide)) (by rw [e448]; exact fz_up_o (by decide)) hRM439
                  have hRPm454 : fl_RPm H445 := fl_RPm_eq (by rw [e448]; exact fz_up_ne (by decide)) (by rw [e448]; exact fz_up_o (by decide)) (by rw [e448]; exact fz_up_o (by decide)) hRPm440
                  refine fz_aload_n kX11_walk rfl rfl ?_
                  refine fz_getR (t := 77) kX11_walk rfl rfl ?_
                  refine fz_iconst ⟨by decide, by decide⟩ kX11_walk rfl ?_
                  refine fz_dup2 rfl rfl kX11_walk rfl ?_
                  obtain ⟨v455, e456⟩ : ∃ z, H445 77 (1) = z := ⟨_, rfl⟩
                  refine fz_ialdV (n := 4) (v := v455) kX11_walk rfl rfl (by omega) (by omega) e456 ?_
                  have b457 : (-2147483648) ≤ v455 ∧ v455 ≤ 2147483647 := by rw [← e456]; exact hI446.1 77 _
                  refine fz_aload_n kX11_walk rfl rfl ?_
                  refine fz_getR (t := 57) kX11_walk rfl rfl ?_
                  refine fz_iload_n kX11_walk rfl rfl ?_
                  refine fz_ialdV (n := 12) (v := h 57 (rd.toNat)) kX11_walk rfl rfl (by omega) (by omega) (hf447 57 _ rfl) ?_
                  refine fz_iadd kX11_walk rfl ?_
                  have b458 := fz_w_b (v455 + (h 57 (rd.toNat)))
                  refine fz_iast (n := 4) kX11_walk rfl rfl (by omega) (by omega) ?_
                  refine fz_nmu (S := [(53, 34), (74, 99999), (75, 99999), (76, 99999), (77, 99999), (86, 99999), (87, 99999), (88, 99999)]) (h0 := h) (fz_Iv_up hI446 (by decide) (show ((-2147483648) : Int) ≤ (fz_w (v455 + (h 57 (rd.toNat)))) by omega) (show ((fz_w (v455 + (h 57 (rd.toNat)))) : Int) ≤ 2147483647 by omega)) (fz_fr_up hf447 rfl) (fun H459 hI460 hf461 e462 => ?_)
                  have k463 : H459 53 34 = ((h 53 34) + (h 57 (rd.toNat))) := by rw [e462]; exact (fz_up_o (by decide)).trans k449
                  have t464 : H459 53 34 = H445 53 34 := by rw [e462]; exact fz_up_o (by decide)
                  have t465 : H459 53 0 = H445 53 0 := by rw [e462]; exact fz_up_o (by decide)
                  have hXw466 : fz_Xw H459 := fz_Xw_eq (by rw [e462]; exact fz_up_o (by decide)) (by rw [e462]; exact fz_up_ne (by decide)) (by rw [e462]; exact fz_up_ne (by decide)) (by rw [e462]; exact fz_up_ne (by decide)) (by rw [e462]; exact fz_up_ne (by decide)) hXw452
                  have hRM467 : fz_RM H459 := fz_RM_eq (by rw [e462]; exact fz_up_ne (by decide)) (by rw [e462]; exact fz_up_ne (by decide)) (by rw [e462]; exact fz_up_o (by decide)) (by rw [e462]; exact fz_up_o (by decide)) hRM453
                  have hRPm468 : fl_RPm H459 := fl_RPm_eq (by rw [e462]; exact fz_up_ne (by decide)) (by rw [e462]; exact fz_up_o (by decide)) (by rw [e462]; exact fz_up_o (by decide)) hRPm454
                  refine fz_aload_n kX11_walk rfl rfl ?_
                  have b469 : 0 ≤ h 53 10 ∧ h 53 10 ≤ 11 := hI.1 53 _
                  have e470 : H459 53 10 = h 53 10 := hf461 53 10 rfl
                  refine fz_callV (d' := 3) (M' := mX11_allHear) (As := []) (st := []) kX11_walk rfl rfl vX11_allHear rfl rfl rfl rfl (Nat.le_of_ble_eq_true rfl) (Nat.le_of_ble_eq_true rfl) (by decide) (sX11_allHear H459 hI460  hRM467 hRPm468) (fun H471 r472 q473 o474 => ?_)
                  obtain ⟨hI475, hf476, hRM477, hRPm478, rfl, f479⟩ := q473
                  clear o474
                  have hf480 := fz_fr_tr hf461 hf476 (show fz_su [(86, 99999), (87, 99999), (88, 99999)] [(53, 34), (74, 99999), (75, 99999), (76, 99999), (77, 99999), (86, 99999), (87, 99999), (88, 99999)] = true from rfl)
                  have k481 : H471 53 34 = ((h 53 34) + (h 57 (rd.toNat))) := (hf476 53 34 rfl).trans k463
                  have hXw482 : fz_Xw H471 := fz_Xw_eq (hf476 53 19 rfl) (funext fun s => hf476 66 s rfl) (funext fun s => hf476 67 s rfl) (funext fun s => hf476 68 s rfl) (funext fun s => hf476 69 s rfl) hXw466
                  have t483 : H471 53 34 = H459 53 34 := hf476 53 34 rfl
                  have t484 : H471 53 0 = H459 53 0 := hf476 53 0 rfl
                  have hHB485 : fl_HB H471 := fl_HB_of2 f479 (funext fun s => hf476 62 s rfl) (hf476 53 10 rfl) (hf476 53 0 rfl) (funext fun s => hf476 54 s rfl) (fun q => (hI475.1 54 q).1)
                  refine fz_aload_n kX11_walk rfl rfl ?_
                  refine fz_iload_n kX11_walk rfl rfl ?_
                  refine fz_aload_n kX11_walk rfl rfl ?_
                  refine fz_getR (t := 76) kX11_walk rfl rfl ?_
                  refine fz_iload_n kX11_walk rfl rfl ?_
                  obtain ⟨v487, e488⟩ : ∃ z, H471 76 (on.toNat) = z := ⟨_, rfl⟩
                  refine fz_ialdV (n := 4) (v := v487) kX11_walk rfl rfl (by omega) (by omega) e488 ?_
                  have b489 : 0 ≤ v487 ∧ v487 ≤ 7 := by rw [← e488]; exact hI475.1 76 _
                  have k490 : v487 = k427 := e488.symm.trans ((hf476 76 _ rfl).trans (by rw [k428, e462, fz_up_o (by decide), e448, fz_up_o (by decide), e434]; exact fz_up_e))
                  refine fz_aload_n kX11_walk rfl rfl ?_
                  refine fz_getV (v := ((h 53 34) + (h 57 (rd.toNat)))) kX11_walk rfl rfl k481 ?_
                  have b492 : 0 ≤ h 53 0 ∧ h 53 0 ≤ 8 := hI.1 53 _
                  have b493 : 0 ≤ h 53 8 ∧ h 53 8 ≤ 99 := hI.1 53 _
                  have e494 : H471 53 0 = h 53 0 := hf480 53 0 rfl
                  have e495 : H471 53 8 = h 53 8 := hf480 53 8 rfl
                  refine fz_callV (d' := 4) (M' := mX11_isArrested) (As := [fz_i on, fz_i v487, fz_i ((h 53 34) + (h 57 (rd.toNat)))]) (st := []) kX11_walk rfl rfl vX11_isArrested rfl rfl rfl rfl (Nat.le_of_ble_eq_true rfl) (Nat.le_of_ble_eq_true rfl) (by decide) (sX11_isArrested H471 hI475 on v487 ((h 53 34) + (h 57 (rd.toNat))) hXw482 hHB485 (by omega) (by omega)) (fun H496 r497 q498 o499 => ?_)
                  obtain ⟨hI500, hf501, hXw502, hHB503, y505, rfl, p506, f504⟩ := q498
                  clear o499
                  have hf507 := fz_fr_tr hf480 hf501 (show fz_su [(74, 99999), (75, 99999)] [(53, 34), (74, 99999), (75, 99999), (76, 99999), (77, 99999), (86, 99999), (87, 99999), (88, 99999)] = true from rfl)
                  have k508 : H496 53 34 = ((h 53 34) + (h 57 (rd.toNat))) := (hf501 53 34 rfl).trans k481
                  have hRM509 : fz_RM H496 := fz_RM_eq (funext fun s => hf501 55 s rfl) (funext fun s => hf501 56 s rfl) (hf501 53 0 rfl) (hf501 53 2 rfl) hRM477
                  have hRPm510 : fl_RPm H496 := fl_RPm_eq (funext fun s => hf501 61 s rfl) (hf501 53 10 rfl) (hf501 53 0 rfl) hRPm478
                  have t511 : H496 53 34 = H471 53 34 := hf501 53 34 rfl
                  have t512 : H496 53 0 = H471 53 0 := hf501 53 0 rfl
                  have k513 := fl_wd_ia f504 (fl_ST_HT f479 (funext fun s => hf476 60 s rfl) (funext fun s => hf476 62 s rfl) (funext fun s => hf476 63 s rfl) (funext fun s => hf476 64 s rfl) (funext fun s => hf476 66 s rfl) (funext fun s => hf476 67 s rfl) (funext fun s => hf476 68 s rfl) (funext fun s => hf476 69 s rfl) (hf476 53 10 rfl) (hf476 53 18 rfl) (hf476 53 19 rfl) ⟨by omega, by omega⟩) (fl_SM_fr hf461 rfl) ((hf476 53 8 rfl).trans (hf461 53 8 rfl))
                  refine fz_if_eq (tgt := 170) kX11_walk rfl (by decide) (fun c515 => ?_) (fun c515 => ?_)
                  · refine fz_aload_n kX11_walk rfl rfl ?_
                    refine fz_getR (t := 76) kX11_walk rfl rfl ?_
                    refine fz_iload_n kX11_walk rfl rfl ?_
                    obtain ⟨v516, e517⟩ : ∃ z, H496 76 (on.toNat) = z := ⟨_, rfl⟩
                    refine fz_ialdV (n := 4) (v := v516) kX11_walk rfl rfl (by omega) (by omega) e517 ?_
                    have b518 : 0 ≤ v516 ∧ v516 ≤ 7 := by rw [← e517]; exact hI500.1 76 _
                    have k519 : H496 76 = fz_up h 76 on.toNat (fz_ac (h 55 rd.toNat) (h 56 rd.toNat) (h 76 on.toNat)) 76 := by first | (rw [lost, fz_up_ne (by decide), show H496 76 = H471 76 from funext fun s => hf501 76 s rfl, show H471 76 = H459 76 from funext fun s => hf476 76 s rfl, e462, fz_up_ne (by decide), e448, fz_up_ne (by decide), e434]; exact fz_up_pair (by rw [e294]; exact fz_up_ne (by decide)) rfl k424) | (rw [show H496 76 = H471 76 from funext fun s => hf501 76 s rfl, show H471 76 = H459 76 from funext fun s => hf476 76 s rfl, e462, fz_up_ne (by decide), e448, fz_up_ne (by decide), e434]; exact fz_up_pair (by rw [e294]; exact fz_up_ne (by decide)) rfl k424)
                    have k521 : v516 = fz_ac (h 55 rd.toNat) (h 56 rd.toNat) (h 76 on.toNat) := e517.symm.trans ((congrFun k519 _).trans fz_up_e)
                    exact fz_iret kX11_walk rfl rfl (fun _ => ⟨hI500, hf507, hXw502, hRM509, hRPm510, _, rfl, (by omega), (by first | exact Or.inl ⟨(by unfold fz_wkN; omega), rfl, rfl, rfl⟩ | exact Or.inr (Or.inl ⟨(by unfold fz_wkN; omega), (by rw [← fz_ac_3 (by omega) (by omega)]; decide), rfl, rfl, rfl⟩) | exact Or.inr (Or.inr (Or.inl ⟨(by unfold fz_wkN; omega), fz_ac_nn (hI.1 55 _).1 (hI.1 56 _).1 (by omega), by omega, rfl, rfl, rfl⟩)) | exact Or.inr (Or.inr (Or.inr ⟨(by unfold fz_wkN; omega), by omega, by omega, by omega, by omega, k519⟩))), (by first | exact Or.inl ⟨by omega, rfl⟩ | exact fl_wdM_in (by omega) (by rw [e434, fz_up_ne (by decide), e294]; exact fz_up_ne (by decide)) e448 e442 e462 e456 rfl (funext fun s => hf476 77 s rfl) k513 (by omega) (by omega) (Or.inl ⟨by omega, _, _, (funext fun s => hf501 77 s rfl), lost, lost⟩) (hI.1 77 2) | exact fl_wdM_in (by omega) (by rw [e434, fz_up_ne (by decide), e294]; exact fz_up_ne (by decide)) e448 e442 e462 e456 rfl (funext fun s => hf476 77 s rfl) k513 (by omega) (by omega) (Or.inr ⟨by omega, (funext fun s => hf501 77 s rfl)⟩) (hI.1 77 2))⟩)
                  · refine fz_aload_n kX11_walk rfl rfl ?_
                    refine fz_getR (t := 77) kX11_walk rfl rfl ?_
                    refine fz_iconst ⟨by decide, by decide⟩ kX11_walk rfl ?_
                    refine fz_dup2 rfl rfl kX11_walk rfl ?_
                    obtain ⟨v524, e525⟩ : ∃ z, H496 77 (2) = z := ⟨_, rfl⟩
                    refine fz_ialdV (n := 4) (v := v524) kX11_walk rfl rfl (by omega) (by omega) e525 ?_
                    have b526 : (-2147483648) ≤ v524 ∧ v524 ≤ 2147483647 := by rw [← e525]; exact hI500.1 77 _
                    refine fz_iconst ⟨by decide, by decide⟩ kX11_walk rfl ?_
                    refine fz_iadd kX11_walk rfl ?_
                    have b527 := fz_w_b (v524 + 1)
                    refine fz_iast (n := 4) kX11_walk rfl rfl (by omega) (by omega) ?_
                    refine fz_nmu (S := [(53, 34), (74, 99999), (75, 99999), (76, 99999), (77, 99999), (86, 99999), (87, 99999), (88, 99999)]) (h0 := h) (fz_Iv_up hI500 (by decide) (show ((-2147483648) : Int) ≤ (fz_w (v524 + 1)) by omega) (show ((fz_w (v524 + 1)) : Int) ≤ 2147483647 by omega)) (fz_fr_up hf507 rfl) (fun H528 hI529 hf530 e531 => ?_)
                    have k532 : H528 53 34 = ((h 53 34) + (h 57 (rd.toNat))) := by rw [e531]; exact (fz_up_o (by decide)).trans k508
                    have t533 : H528 53 34 = H496 53 34 := by rw [e531]; exact fz_up_o (by decide)
                    have t534 : H528 53 0 = H496 53 0 := by rw [e531]; exact fz_up_o (by decide)
                    have hXw535 : fz_Xw H528 := fz_Xw_eq (by rw [e531]; exact fz_up_o (by decide)) (by rw [e531]; exact fz_up_ne (by decide)) (by rw [e531]; exact fz_up_ne (by decide)) (by rw [e531]; exact fz_up_ne (by decide)) (by rw [e531]; exact fz_up_ne (by decide)) hXw502
                    have hRM536 : fz_RM H528 := fz_RM_eq (by rw [e531]; exact fz_up_ne (by decide)) (by rw [e531]; exact fz_up_ne (by decide)) (by rw [e531]; exact fz_up_o (by decide)) (by rw [e531]; exact fz_up_o (by decide)) hRM509
                    have hRPm537 : fl_RPm H528 := fl_RPm_eq (by rw [e531]; exact fz_up_ne (by decide)) (by rw [e531]; exact fz_up_o (by decide)) (by rw [e531]; exact fz_up_o (by decide)) hRPm510
                    have hHB538 : fl_HB H528 := fl_HB_eq (by rw [e531]; exact fz_up_ne (by decide)) (by rw [e531]; exact fz_up_ne (by decide)) (by rw [e531]; exact fz_up_o (by decide)) (by rw [e531]; exact fz_up_o (by decide)) hHB503
                    refine fz_aload_n kX11_walk rfl rfl ?_
                    refine fz_getR (t := 76) kX11_walk rfl rfl ?_
                    refine fz_iload_n kX11_walk rfl rfl ?_
                    obtain ⟨v539, e540⟩ : ∃ z, H528 76 (on.toNat) = z := ⟨_, rfl⟩
                    refine fz_ialdV (n := 4) (v := v539) kX11_walk rfl rfl (by omega) (by omega) e540 ?_
                    have b541 : 0 ≤ v539 ∧ v539 ≤ 7 := by rw [← e540]; exact hI529.1 76 _
                    have k542 : H528 76 = fz_up h 76 on.toNat (fz_ac (h 55 rd.toNat) (h 56 rd.toNat) (h 76 on.toNat)) 76 := by first | (rw [e531, fz_up_ne (by decide), show H496 76 = H471 76 from funext fun s => hf501 76 s rfl, show H471 76 = H459 76 from funext fun s => hf476 76 s rfl, e462, fz_up_ne (by decide), e448, fz_up_ne (by decide), e434]; exact fz_up_pair (by rw [e294]; exact fz_up_ne (by decide)) rfl k424) | (rw [show H496 76 = H471 76 from funext fun s => hf501 76 s rfl, show H471 76 = H459 76 from funext fun s => hf476 76 s rfl, e462, fz_up_ne (by decide), e448, fz_up_ne (by decide), e434]; exact fz_up_pair (by rw [e294]; exact fz_up_ne (by decide)) rfl k424)
                    have k544 : v539 = fz_ac (h 55 rd.toNat) (h 56 rd.toNat) (h 76 on.toNat) := e540.symm.trans ((congrFun k542 _).trans fz_up_e)
                    exact fz_iret kX11_walk rfl rfl (fun _ => ⟨hI529, hf530, hXw535, hRM536, hRPm537, _, rfl, (by omega), (by first | exact Or.inl ⟨(by unfold fz_wkN; omega), rfl, rfl, rfl⟩ | exact Or.inr (Or.inl ⟨(by unfold fz_wkN; omega), (by rw [← fz_ac_3 (by omega) (by omega)]; decide), rfl, rfl, rfl⟩) | exact Or.inr (Or.inr (Or.inl ⟨(by unfold fz_wkN; omega), fz_ac_nn (hI.1 55 _).1 (hI.1 56 _).1 (by omega), by omega, rfl, rfl, rfl⟩)) | exact Or.inr (Or.inr (Or.inr ⟨(by unfold fz_wkN; omega), by omega, by omega, by omega, by omega, k542⟩))), (by first | exact Or.inl ⟨by omega, rfl⟩ | exact fl_wdM_in (by omega) (by rw [e434, fz_up_ne (by decide), e294]; exact fz_up_ne (by decide)) e448 e442 e462 e456 rfl (funext fun s => hf476 77 s rfl) k513 (by omega) (by omega) (Or.inl ⟨by omega, _, _, (funext fun s => hf501 77 s rfl), e525, e531⟩) (hI.1 77 2) | exact fl_wdM_in (by omega) (by rw [e434, fz_up_ne (by decide), e294]; exact fz_up_ne (by decide)) e448 e442 e462 e456 rfl (funext fun s => hf476 77 s rfl) k513 (by omega) (by omega) (Or.inr ⟨by omega, (funext fun s => hf501 77 s rfl)⟩) (hI.1 77 2))⟩)
              · refine fz_bipush ⟨by decide, by decide⟩ kX11_walk rfl ?_
                exact fz_iret kX11_walk rfl rfl (fun _ => ⟨hI, hf, hXw, hRM, hRPm, _, rfl, (by omega), (by first | exact Or.inl ⟨(by unfold fz_wkN; omega), rfl, rfl, rfl⟩ | exact Or.inr (Or.inl ⟨(by unfold fz_wkN; omega), (by rw [← fz_ac_3 (by omega) (by omega)]; decide), rfl, rfl, rfl⟩) | exact Or.inr (Or.inr (Or.inl ⟨(by unfold fz_wkN; omega), fz_ac_nn (hI.1 55 _).1 (hI.1 56 _).1 (by omega), by omega, rfl, rfl, rfl⟩)) | exact Or.inr (Or.inr (Or.inr ⟨(by unfold fz_wkN; omega), by omega, by omega, by omega, by omega, lost⟩))), (by first | exact Or.inl ⟨by omega, rfl⟩ | exact fl_wdM_in (by omega) (by rw [lost, fz_up_ne (by decide), lost]; exact fz_up_ne (by decide)) lost lost lost lost rfl (funext fun s => lost 77 s rfl) lost (by omega) (by omega) (Or.inl ⟨by omega, _, _, (funext fun s => lost 77 s rfl), lost, lost⟩) (hI.1 77 2) | exact fl_wdM_in (by omega) (by rw [lost, fz_up_ne (by decide), lost]; exact fz_up_ne (by decide)) lost lost lost lost rfl (funext fun s => lost 77 s rfl) lost (by omega) (by omega) (Or.inr ⟨by omega, (funext fun s => lost 77 s rfl)⟩) (hI.1 77 2))⟩)
            · refine fz_bipush ⟨by decide, by decide⟩ kX11_walk rfl ?_
              exact fz_iret kX11_walk rfl rfl (fun _ => ⟨hI, hf, hXw, hRM, hRPm, _, rfl, (by omega), (by first | exact Or.inl ⟨(by unfold fz_wkN; omega), rfl, rfl, rfl⟩ | exact Or.inr (Or.inl ⟨(by unfold fz_wkN; omega), (by rw [← fz_ac_3 (by omega) (by omega)]; decide), rfl, rfl, rfl⟩) | exact Or.inr (Or.inr (Or.inl ⟨(by unfold fz_wkN; omega), fz_ac_nn (hI.1 55 _).1 (hI.1 56 _).1 (by omega), by omega, rfl, rfl, rfl⟩)) | exact Or.inr (Or.inr (Or.inr ⟨(by unfold fz_wkN; omega), by omega, by omega, by omega, by omega, lost⟩))), (by first | exact Or.inl ⟨by omega, rfl⟩ | exact fl_wdM_in (by omega) (by rw [lost, fz_up_ne (by decide), lost]; exact fz_up_ne (by decide)) lost lost lost lost rfl (funext fun s => lost 77 s rfl) lost (by omega) (by omega) (Or.inl ⟨by omega, _, _, (funext fun s => lost 77 s rfl), lost, lost⟩) (hI.1 77 2) | exact fl_wdM_in (by omega) (by rw [lost, fz_up_ne (by decide), lost]; exact fz_up_ne (by decide)) lost lost lost lost rfl (funext fun s => lost 77 s rfl) lost (by omega) (by omega) (Or.inr ⟨by omega, (funext fun s => lost 77 s rfl)⟩) (hI.1 77 2))⟩)
        · exfalso; omega
      · refine fz_if_ne (tgt := 17) kX11_walk rfl (by decide) (fun c551 => ?_) (fun c551 => ?_)
        · exfalso; omega
        · refine fz_iconst ⟨by decide, by decide⟩ kX11_walk rfl ?_
          exact fz_iret kX11_walk rfl rfl (fun _ => ⟨hI, hf, hXw, hRM, hRPm, _, rfl, (by omega), (by first | exact Or.inl ⟨(by unfold fz_wkN; omega), rfl, rfl, rfl⟩ | exact Or.inr (Or.inl ⟨(by unfold fz_wkN; omega), (by rw [← fz_ac_3 (by omega) (by omega)]; decide), rfl, rfl, rfl⟩) | exact Or.inr (Or.inr (Or.inl ⟨(by unfold fz_wkN; omega), fz_ac_nn (hI.1 55 _).1 (hI.1 56 _).1 (by omega), by omega, rfl, rfl, rfl⟩)) | exact Or.inr (Or.inr (Or.inr ⟨(by unfold fz_wkN; omega), by omega, by omega, by omega, by omega, lost⟩))), (by first | exact Or.inl ⟨by omega, rfl⟩ | exact fl_wdM_in (by omega) (by rw [lost, fz_up_ne (by decide), lost]; exact fz_up_ne (by decide)) lost lost lost lost rfl (funext fun s => lost 77 s rfl) lost (by omega) (by omega) (Or.inl ⟨by omega, _, _, (funext fun s => lost 77 s rfl), lost, lost⟩) (hI.1 77 2) | exact fl_wdM_in (by omega) (by rw [lost, fz_up_ne (by decide), lost]; exact fz_up_ne (by decide)) lost lost lost lost rfl (funext fun s => lost 77 s rfl) lost (by omega) (by omega) (Or.inr ⟨by omega, (funext fun s => lost 77 s rfl)⟩) (hI.1 77 2))⟩)
  · refine fz_if_eq (tgt := 15) kX11_walk rfl (by decide) (fun c554 => ?_) (fun c554 => ?_)
    · refine fz_iconst ⟨by decide, by decide⟩ kX11_walk rfl ?_
      exact fz_iret kX11_walk rfl rfl (fun _ => ⟨hI, hf, hXw, hRM, hRPm, _, rfl, (by omega), (by first | exact Or.inl ⟨(by unfold fz_wkN; omega), rfl, rfl, rfl⟩ | exact Or.inr (Or.inl ⟨(by unfold fz_wkN; omega), (by rw [← fz_ac_3 (by omega) (by omega)]; decide), rfl, rfl, rfl⟩) | exact Or.inr (Or.inr (Or.inl ⟨(by unfold fz_wkN; omega), fz_ac_nn (hI.1 55 _).1 (hI.1 56 _).1 (by omega), by omega, rfl, rfl, rfl⟩)) | exact Or.inr (Or.inr (Or.inr ⟨(by unfold fz_wkN; omega), by omega, by omega, by omega, by omega, lost⟩))), (by first | exact Or.inl ⟨by omega, rfl⟩ | exact fl_wdM_in (by omega) (by rw [lost, fz_up_ne (by decide), lost]; exact fz_up_ne (by decide)) lost lost lost lost rfl (funext fun s => lost 77 s rfl) lost (by omega) (by omega) (Or.inl ⟨by omega, _, _, (funext fun s => lost 77 s rfl), lost, lost⟩) (hI.1 77 2) | exact fl_wdM_in (by omega) (by rw [lost, fz_up_ne (by decide), lost]; exact fz_up_ne (by decide)) lost lost lost lost rfl (funext fun s => lost 77 s rfl) lost (by omega) (by omega) (Or.inr ⟨by omega, (funext fun s => lost 77 s rfl)⟩) (hI.1 77 2))⟩)
    · exfalso; omega

abbrev qX11_does (h : fz_H) (pm wt : Int) : fz_H → Option fz_V → Prop := fun h' r0 => fz_Iv h' ∧ fz_fr [(53, 10), (60, 99999), (61, 99999), (62, 99999), (63, 99999), (64, 99999), (77, 99999)] h h' ∧ ∃ r : Int, r0 = some (fz_i r) ∧ ((-3) ≤ r ∧ r ≤ 10) ∧ (h' 53 10 ≤ 10) ∧ (((0 ≤ pm ∧ pm ≤ 39 ∧ pm % 10 < 5 ∧ 1 ≤ wt ∧ wt ≤ 9 ∧ h 53 0 ≠ 0) ∧ h 53 10 < 10 ∧ r = h 53 10 ∧ h' 53 10 = h 53 10 + 1) ∨ ((0 ≤ pm ∧ pm ≤ 39 ∧ pm % 10 < 5 ∧ 1 ≤ wt ∧ wt ≤ 9 ∧ h 53 0 ≠ 0) ∧ 10 ≤ h 53 10 ∧ r = -3 ∧ h' 53 10 = h 53 10) ∨ (¬ (0 ≤ pm ∧ pm ≤ 39 ∧ pm % 10 < 5 ∧ 1 ≤ wt ∧ wt ≤ 9 ∧ h 53 0 ≠ 0) ∧ r = -1 ∧ h' 53 10 = h 53 10)) ∧ (fz_apM h h' (h' 53 10 - h 53 10) (fun _ => (pm / 10, h 76 (pm / 10).toNat, h 53 34, pm % 10, wt))) ∧ (fl_ddM h h' r)
set_option maxHeartbeats 1000000 in
set_option maxRecDepth 100000 in
theorem sX11_does (h : fz_H) (hI : fz_Iv h) (pm wt : Int) (hp0 : h 53 10 ≤ 10) : fz_R 3 mX11_does 0 [(0, fz_r 53), (1, fz_i pm), (2, fz_i wt)] [] h (qX11_does h pm wt) := by
  refine fz_knowl (fun hk => ?_)
  have hr_pm : -2147483648 ≤ pm ∧ pm < 2147483648 := hk _ (List.Mem.tail _ (List.Mem.head _))
  have hr_wt : -2147483648 ≤ wt ∧ wt < 2147483648 := hk _ (List.Mem.tail _ (List.Mem.tail _ (List.Mem.head _)))
  clear hk
  have hf : fz_fr [(53, 10), (60, 99999), (61, 99999), (62, 99999), (63, 99999), (64, 99999), (77, 99999)] h h := fz_fr_rf
  have b1 : 0 ≤ h 53 10 ∧ h 53 10 ≤ 11 := hI.1 53 _
  have b2 : 0 ≤ h 53 0 ∧ h 53 0 ≤ 8 := hI.1 53 _
  have b3 : 0 ≤ h 53 34 ∧ h 53 34 ≤ 999 := hI.1 53 _
  refine fz_iload_n kX11_does rfl rfl ?_
  refine fz_callS (d' := 2) (M' := mX11_isMarked) (As := [fz_i pm]) (st := []) kX11_does rfl rfl vX11_isMarked rfl rfl (Nat.le_of_ble_eq_true rfl) (Nat.le_of_ble_eq_true rfl) (by decide) (sX11_isMarked h hI pm ) (fun H4 r5 q6 o7 => ?_)
  obtain ⟨e8, y9, rfl, p10⟩ := q6
  subst H4
  clear o7
  rcases p10 with ⟨rfl, c11⟩ | ⟨rfl, c11⟩
  · refine fz_if_eq (tgt := 24) kX11_does rfl (by decide) (fun c12 => ?_) (fun c12 => ?_)
    · exfalso; omega
    · refine fz_iload_n kX11_does rfl rfl ?_
      refine fz_iconst ⟨by decide, by decide⟩ kX11_does rfl ?_
      refine fz_bipush ⟨by decide, by decide⟩ kX11_does rfl ?_
      refine fz_callS (d' := 0) (M' := mX11_within) (As := [fz_i wt, fz_i 1, fz_i 9]) (st := []) kX11_does rfl rfl vX11_within rfl rfl (Nat.le_of_ble_eq_true rfl) (Nat.le_of_ble_eq_true rfl) (by decide) (sX11_within h hI wt 1 9 ) (fun H13 r14 q15 o16 => ?_)
      obtain ⟨e17, y18, rfl, p19⟩ := q15
      subst H13
      clear o16
      rcases p19 with ⟨rfl, c20⟩ | ⟨rfl, c20⟩
      · refine fz_if_eq (tgt := 24) kX11_does rfl (by decide) (fun c21 => ?_) (fun c21 => ?_)
        · exfalso; omega
        · refine fz_aload_n kX11_does rfl rfl ?_
          refine fz_getV (v := h 53 0) kX11_does rfl rfl rfl ?_
          have b22 : 0 ≤ h 53 0 ∧ h 53 0 ≤ 8 := hI.1 53 _
          refine fz_if_ne (tgt := 26) kX11_does rfl (by decide) (fun c23 => ?_) (fun c23 => ?_)
          · refine fz_aload_n kX11_does rfl rfl ?_
            refine fz_getV (v := h 53 10) kX11_does rfl rfl rfl ?_
            have b24 : 0 ≤ h 53 10 ∧ h 53 10 ≤ 11 := hI.1 53 _
            refine fz_bipush ⟨by decide, by decide⟩ kX11_does rfl ?_
            refine fz_icmp_ne (tgt := 38) kX11_does rfl (by decide) (fun c25 => ?_) (fun c25 => ?_)
            · refine fz_aload_n kX11_does rfl rfl ?_
              refine fz_getR (t := 77) kX11_does rfl rfl ?_
              refine fz_iconst ⟨by decide, by decide⟩ kX11_does rfl ?_
              refine fz_dup2 rfl rfl kX11_does rfl ?_
              refine fz_ialdV (n := 4) (v := h 77 3) kX11_does rfl rfl (by omega) (by omega) rfl ?_
              have b26 : (-2147483648) ≤ h 77 3 ∧ h 77 3 ≤ 2147483647 := hI.1 77 _
              refine fz_iconst ⟨by decide, by decide⟩ kX11_does rfl ?_
              refine fz_iadd kX11_does rfl ?_
              have b27 := fz_w_b ((h 77 3) + 1)
              refine fz_iast (n := 4) kX11_does rfl rfl (by omega) (by omega) ?_
              refine fz_nmu (S := [(53, 10), (60, 99999), (61, 99999), (62, 99999), (63, 99999), (64, 99999), (77, 99999)]) (h0 := h) (fz_Iv_up hI (by decide) (show ((-2147483648) : Int) ≤ (fz_w ((h 77 3) + 1)) by omega) (show ((fz_w ((h 77 3) + 1)) : Int) ≤ 2147483647 by omega)) (fz_fr_up hf rfl) (fun H28 hI29 hf30 e31 => ?_)
              have k32 : H28 53 10 = (h 53 10) := by rw [e31]; exact (fz_up_o (by decide)).trans rfl
              have t33 : H28 53 10 = h 53 10 := by rw [e31]; exact fz_up_o (by decide)
              refine fz_aload_n kX11_does rfl rfl ?_
              refine fz_iload_n kX11_does rfl rfl ?_
              refine fz_bipush ⟨by decide, by decide⟩ kX11_does rfl ?_
              refine fz_idivN kX11_does rfl (by omega) (by omega) (by omega) ?_
              refine fz_aload_n kX11_does rfl rfl ?_
              refine fz_getR (t := 76) kX11_does rfl rfl ?_
              refine fz_iload_n kX11_does rfl rfl ?_
              refine fz_bipush ⟨by decide, by decide⟩ kX11_does rfl ?_
              refine fz_idivN kX11_does rfl (by omega) (by omega) (by omega) ?_
              refine fz_ialdV (n := 4) (v := h 76 ((pm / 10).toNat)) kX11_does rfl rfl (by omega) (by omega) (hf30 76 _ rfl) ?_
              have b34 : 0 ≤ h 76 ((pm / 10).toNat) ∧ h 76 ((pm / 10).toNat) ≤ 7 := hI.1 76 _
              refine fz_aload_n kX11_does rfl rfl ?_
              refine fz_getV (v := h 53 34) kX11_does rfl rfl (hf30 53 34 rfl) ?_
              have b35 : 0 ≤ h 53 34 ∧ h 53 34 ≤ 999 := hI.1 53 _
              refine fz_iload_n kX11_does rfl rfl ?_
              refine fz_bipush ⟨by decide, by decide⟩ kX11_does rfl ?_
              refine fz_iremN kX11_does rfl (by omega) (by omega) (by omega) ?_
              refine fz_iload_n kX11_does rfl rfl ?_
              have b36 : 0 ≤ H28 53 10 ∧ H28 53 10 ≤ 11 := hI29.1 53 _
              refine fz_callV (d' := 0) (M' := mX11_newDeed) (As := [fz_i (pm / 10), fz_i (h 76 ((pm / 10).toNat)), fz_i (h 53 34), fz_i (pm % 10), fz_i wt]) (st := []) kX11_does rfl rfl vX11_newDeed rfl rfl rfl rfl (Nat.le_of_ble_eq_true rfl) (Nat.le_of_ble_eq_true rfl) (by decide) (sX11_newDeed H28 hI29 (pm / 10) (h 76 ((pm / 10).toNat)) (h 53 34) (pm % 10) wt (by omega) (by omega) (by omega) (by omega) (by omega)) (fun H37 r38 q39 o40 => ?_)
              obtain ⟨hI41, hf42, y47, rfl, f43, f44, f45, f46⟩ := q39
              clear o40
              have hf48 := fz_fr_tr hf30 hf42 (show fz_su [(53, 10), (60, 99999), (61, 99999), (62, 99999), (63, 99999), (64, 99999)] [(53, 10), (60, 99999), (61, 99999), (62, 99999), (63, 99999), (64, 99999), (77, 99999)] = true from rfl)
              exact fz_iret kX11_does rfl rfl (fun _ => ⟨hI41, hf48, _, rfl, (by omega), (by omega), (by omega), (by first | exact fz_apM_b e31 (fz_apM_1 f46 (by omega) (by omega)) (by decide) | exact fz_apM_z (by omega)), (by first | exact Or.inr ⟨by omega, rfl⟩ | exact fl_ddM_in e31 rfl (by omega) (funext fun s => hf42 77 s rfl))⟩)
            · refine fz_bipush ⟨by decide, by decide⟩ kX11_does rfl ?_
              exact fz_iret kX11_does rfl rfl (fun _ => ⟨hI, hf, _, rfl, (by omega), (by omega), (by omega), (by first | exact fz_apM_b lost (fz_apM_1 lost (by omega) (by omega)) (by decide) | exact fz_apM_z (by omega)), (by first | exact Or.inr ⟨by omega, rfl⟩ | exact fl_ddM_in lost rfl (by omega) (funext fun s => lost 77 s rfl))⟩)
          · refine fz_iconst ⟨by decide, by decide⟩ kX11_does rfl ?_
            exact fz_iret kX11_does rfl rfl (fun _ => ⟨hI, hf, _, rfl, (by omega), (by omega), (by omega), (by first | exact fz_apM_b lost (fz_apM_1 lost (by omega) (by omega)) (by decide) | exact fz_apM_z (by omega)), (by first | exact Or.inr ⟨by omega, rfl⟩ | exact fl_ddM_in lost rfl (by omega) (funext fun s => lost 77 s rfl))⟩)
      · refine fz_if_eq (tgt := 24) kX11_does rfl (by decide) (fun c55 => ?_) (fun c55 => ?_)
        · refine fz_iconst ⟨by decide, by decide⟩ kX11_does rfl ?_
          exact fz_iret kX11_does rfl rfl (fun _ => ⟨hI, hf, _, rfl, (by omega), (by omega), (by omega), (by first | exact fz_apM_b lost (fz_apM_1 lost (by omega) (by omega)) (by decide) | exact fz_apM_z (by omega)), (by first | exact Or.inr ⟨by omega, rfl⟩ | exact fl_ddM_in lost rfl (by omega) (funext fun s => lost 77 s rfl))⟩)
        · exfalso; omega
  · refine fz_if_eq (tgt := 24) kX11_does rfl (by decide) (fun c58 => ?_) (fun c58 => ?_)
    · refine fz_iconst ⟨by decide, by decide⟩ kX11_does rfl ?_
      exact fz_iret kX11_does rfl rfl (fun _ => ⟨hI, hf, _, rfl, (by omega), (by omega), (by omega), (by first | exact fz_apM_b lost (fz_apM_1 lost (by omega) (by omega)) (by decide) | exact fz_apM_z (by omega)), (by first | exact Or.inr ⟨by omega, rfl⟩ | exact fl_ddM_in lost rfl (by omega) (funext fun s => lost 77 s rfl))⟩)
    · exfalso; omega
