/-! ===== what the methods keep ===== -/
abbrev qX11_isEnough (h : fz_H) (pm t hr wt to x : Int) : fz_H → Option fz_V → Prop := fun h' r0 => fz_Iv h' ∧ fz_fr [(53, 10), (60, 99999), (61, 99999), (62, 99999), (63, 99999), (64, 99999), (74, 99999), (75, 99999), (86, 99999), (87, 99999), (88, 99999)] h h' ∧ fz_Xw h' ∧ ∃ r : Int, r0 = some (fz_i r) ∧ (r = 0 ∨ r = 1) ∧ (h' 53 10 = h 53 10) ∧ (fz_apM h h' 0 (fun _ => (0, 0, 0, 0, 0)))
set_option maxHeartbeats 1000000 in
set_option maxRecDepth 100000 in
theorem sX11_isEnough (h : fz_H) (hI : fz_Iv h) (pm t hr wt to x : Int) (hXw : fz_Xw h) (hp0 : 0 ≤ pm ∧ pm ≤ 39) (hp1 : pm % 10 ≤ 4) (hp2 : 0 ≤ t ∧ t ≤ 7) (hp3 : 0 ≤ hr ∧ hr ≤ 999) (hp4 : 1 ≤ wt ∧ wt ≤ 9) (hp5 : 0 ≤ to ∧ to / 1000 ≤ 7) (hp6 : h 53 10 ≤ 10) : fz_R 4 mX11_isEnough 0 [(0, fz_r 53), (1, fz_i pm), (2, fz_i t), (3, fz_i hr), (4, fz_i wt), (5, fz_i to), (6, fz_i x)] [] h (qX11_isEnough h pm t hr wt to x) := by
  refine fz_knowl (fun hk => ?_)
  have hr_pm : -2147483648 ≤ pm ∧ pm < 2147483648 := hk _ (List.Mem.tail _ (List.Mem.head _))
  have hr_t : -2147483648 ≤ t ∧ t < 2147483648 := hk _ (List.Mem.tail _ (List.Mem.tail _ (List.Mem.head _)))
  have hr_hr : -2147483648 ≤ hr ∧ hr < 2147483648 := hk _ (List.Mem.tail _ (List.Mem.tail _ (List.Mem.tail _ (List.Mem.head _))))
  have hr_wt : -2147483648 ≤ wt ∧ wt < 2147483648 := hk _ (List.Mem.tail _ (List.Mem.tail _ (List.Mem.tail _ (List.Mem.tail _ (List.Mem.head _)))))
  have hr_to : -2147483648 ≤ to ∧ to < 2147483648 := hk _ (List.Mem.tail _ (List.Mem.tail _ (List.Mem.tail _ (List.Mem.tail _ (List.Mem.tail _ (List.Mem.head _))))))
  have hr_x : -2147483648 ≤ x ∧ x < 2147483648 := hk _ (List.Mem.tail _ (List.Mem.tail _ (List.Mem.tail _ (List.Mem.tail _ (List.Mem.tail _ (List.Mem.tail _ (List.Mem.head _)))))))
  clear hk
  have hf : fz_fr [(53, 10), (60, 99999), (61, 99999), (62, 99999), (63, 99999), (64, 99999), (74, 99999), (75, 99999), (86, 99999), (87, 99999), (88, 99999)] h h := fz_fr_rf
  have b1 : 0 ≤ h 53 10 ∧ h 53 10 ≤ 11 := hI.1 53 _
  refine fz_aload_n kX11_isEnough rfl rfl ?_
  refine fz_iload_n kX11_isEnough rfl rfl ?_
  refine fz_bipush ⟨by decide, by decide⟩ kX11_isEnough rfl ?_
  refine fz_idivN kX11_isEnough rfl (by omega) (by omega) (by omega) ?_
  refine fz_iload_n kX11_isEnough rfl rfl ?_
  refine fz_iload_n kX11_isEnough rfl rfl ?_
  refine fz_iload_n kX11_isEnough rfl rfl ?_
  refine fz_bipush ⟨by decide, by decide⟩ kX11_isEnough rfl ?_
  refine fz_iremN kX11_isEnough rfl (by omega) (by omega) (by omega) ?_
  refine fz_iload kX11_isEnough rfl rfl ?_
  refine fz_callV (d' := 0) (M' := mX11_newDeed) (As := [fz_i (pm / 10), fz_i t, fz_i hr, fz_i (pm % 10), fz_i wt]) (st := []) kX11_isEnough rfl rfl vX11_newDeed rfl rfl rfl rfl (Nat.le_of_ble_eq_true rfl) (Nat.le_of_ble_eq_true rfl) (by decide) (sX11_newDeed h hI (pm / 10) t hr (pm % 10) wt (by omega) (by omega) (by omega) (by omega) (by omega)) (fun H2 r3 q4 o5 => ?_)
  obtain ⟨hI6, hf7, y12, rfl, f8, f9, f10, f11⟩ := q4
  clear o5
  have hf13 := fz_fr_tr hf hf7 (show fz_su [(53, 10), (60, 99999), (61, 99999), (62, 99999), (63, 99999), (64, 99999)] [(53, 10), (60, 99999), (61, 99999), (62, 99999), (63, 99999), (64, 99999), (74, 99999), (75, 99999), (86, 99999), (87, 99999), (88, 99999)] = true from rfl)
  have hXw14 : fz_Xw H2 := fz_Xw_eq (hf7 53 19 rfl) (funext fun s => hf7 66 s rfl) (funext fun s => hf7 67 s rfl) (funext fun s => hf7 68 s rfl) (funext fun s => hf7 69 s rfl) hXw
  refine fz_pop rfl kX11_isEnough rfl ?_
  refine fz_aload_n kX11_isEnough rfl rfl ?_
  refine fz_aload_n kX11_isEnough rfl rfl ?_
  obtain ⟨v15, e16⟩ : ∃ z, H2 53 (10) = z := ⟨_, rfl⟩
  refine fz_getV (v := v15) kX11_isEnough rfl rfl e16 ?_
  have b17 : 0 ≤ v15 ∧ v15 ≤ 11 := by rw [← e16]; exact hI6.1 53 _
  refine fz_iconst ⟨by decide, by decide⟩ kX11_isEnough rfl ?_
  refine fz_isubN kX11_isEnough rfl (by omega) ?_
  refine fz_callV (d' := 2) (M' := mX11_hears) (As := [fz_i (v15 - 1)]) (st := []) kX11_isEnough rfl rfl vX11_hears rfl rfl rfl rfl (Nat.le_of_ble_eq_true rfl) (Nat.le_of_ble_eq_true rfl) (by decide) (sX11_hears H2 hI6 (v15 - 1) (by omega)) (fun H18 r19 q20 o21 => ?_)
  obtain ⟨hI22, hf23, rfl⟩ := q20
  clear o21
  have hf24 := fz_fr_tr hf13 hf23 (show fz_su [(86, 99999), (87, 99999), (88, 99999)] [(53, 10), (60, 99999), (61, 99999), (62, 99999), (63, 99999), (64, 99999), (74, 99999), (75, 99999), (86, 99999), (87, 99999), (88, 99999)] = true from rfl)
  have k25 : H18 53 10 = v15 := (hf23 53 10 rfl).trans e16
  have hXw26 : fz_Xw H18 := fz_Xw_eq (hf23 53 19 rfl) (funext fun s => hf23 66 s rfl) (funext fun s => hf23 67 s rfl) (funext fun s => hf23 68 s rfl) (funext fun s => hf23 69 s rfl) hXw14
  have t27 : H18 53 10 = H2 53 10 := hf23 53 10 rfl
  refine fz_aload_n kX11_isEnough rfl rfl ?_
  refine fz_iload_n kX11_isEnough rfl rfl ?_
  refine fz_bipush ⟨by decide, by decide⟩ kX11_isEnough rfl ?_
  refine fz_idivN kX11_isEnough rfl (by omega) (by omega) (by omega) ?_
  refine fz_iload_n kX11_isEnough rfl rfl ?_
  refine fz_bipush ⟨by decide, by decide⟩ kX11_isEnough rfl ?_
  refine fz_iremN kX11_isEnough rfl (by omega) (by omega) (by omega) ?_
  refine fz_iload kX11_isEnough rfl rfl ?_
  refine fz_sipush ⟨by decide, by decide⟩ kX11_isEnough rfl ?_
  refine fz_idivN kX11_isEnough rfl (by omega) (by omega) (by omega) ?_
  refine fz_iload kX11_isEnough rfl rfl ?_
  refine fz_sipush ⟨by decide, by decide⟩ kX11_isEnough rfl ?_
  refine fz_iremN kX11_isEnough rfl (by omega) (by omega) (by omega) ?_
  refine fz_callV (d' := 3) (M' := mX11_saidOf) (As := [fz_i (pm / 10), fz_i (pm % 10), fz_i (to / 1000), fz_i (to % 1000)]) (st := []) kX11_isEnough rfl rfl vX11_saidOf rfl rfl rfl rfl (Nat.le_of_ble_eq_true rfl) (Nat.le_of_ble_eq_true rfl) (by decide) (sX11_saidOf H18 hI22 (pm / 10) (pm % 10) (to / 1000) (to % 1000) hXw26 (by omega)) (fun H28 r29 q30 o31 => ?_)
  obtain ⟨hI32, hf33, hXw34, y36, rfl, f35⟩ := q30
  clear o31
  have hf37 := fz_fr_tr hf24 hf33 (show fz_su [(74, 99999), (75, 99999)] [(53, 10), (60, 99999), (61, 99999), (62, 99999), (63, 99999), (64, 99999), (74, 99999), (75, 99999), (86, 99999), (87, 99999), (88, 99999)] = true from rfl)
  have k38 : H28 53 10 = v15 := (hf33 53 10 rfl).trans k25
  have t39 : H28 53 10 = H18 53 10 := hf33 53 10 rfl
  refine fz_iload kX11_isEnough rfl rfl ?_
  refine fz_icmp_lt (tgt := 60) kX11_isEnough rfl (by decide) (fun c40 => ?_) (fun c40 => ?_)
  · refine fz_iconst ⟨by decide, by decide⟩ kX11_isEnough rfl ?_
    refine fz_istore (ls' := [(7, fz_i 0), (0, fz_r 53), (1, fz_i pm), (2, fz_i t), (3, fz_i hr), (4, fz_i wt), (5, fz_i to), (6, fz_i x)]) kX11_isEnough rfl (by decide) rfl ?_
    refine fz_aload_n kX11_isEnough rfl rfl ?_
    refine fz_dup rfl kX11_isEnough rfl ?_
    refine fz_getV (v := v15) kX11_isEnough rfl rfl k38 ?_
    refine fz_iconst ⟨by decide, by decide⟩ kX11_isEnough rfl ?_
    refine fz_isubN kX11_isEnough rfl (by omega) ?_
    refine fz_putI kX11_isEnough rfl rfl rfl ?_
    refine fz_nmu (S := [(53, 10), (60, 99999), (61, 99999), (62, 99999), (63, 99999), (64, 99999), (74, 99999), (75, 99999), (86, 99999), (87, 99999), (88, 99999)]) (h0 := h) (fz_Iv_up hI32 (by decide) (show (0 : Int) ≤ (v15 - 1) by omega) (show ((v15 - 1) : Int) ≤ 11 by omega)) (fz_fr_up hf37 rfl) (fun H41 hI42 hf43 e44 => ?_)
    have k45 : H41 53 10 = (v15 - 1) := by rw [e44]; exact fz_up_e
    have hXw46 : fz_Xw H41 := fz_Xw_eq (by rw [e44]; exact fz_up_s (by decide)) (by rw [e44]; exact fz_up_ne (by decide)) (by rw [e44]; exact fz_up_ne (by decide)) (by rw [e44]; exact fz_up_ne (by decide)) (by rw [e44]; exact fz_up_ne (by decide)) hXw34
    refine fz_iload kX11_isEnough rfl rfl ?_
    exact fz_zret kX11_isEnough rfl rfl (by omega) ⟨hI42, hf43, hXw46, _, rfl, (by omega), (by omega), (by exact fz_apM_up (fz_apM_f (fz_apM_f (fz_apM_lo (fz_apM_1 f11 (by omega) rfl)) (funext fun s => hf23 60 s rfl) (funext fun s => hf23 61 s rfl) (funext fun s => hf23 62 s rfl) (funext fun s => hf23 63 s rfl) (funext fun s => hf23 64 s rfl)) (funext fun s => hf33 60 s rfl) (funext fun s => hf33 61 s rfl) (funext fun s => hf33 62 s rfl) (funext fun s => hf33 63 s rfl) (funext fun s => hf33 64 s rfl)) e44 (by decide))⟩
  · refine fz_iconst ⟨by decide, by decide⟩ kX11_isEnough rfl ?_
    refine fz_goto (tgt := 61) kX11_isEnough rfl (by decide) ?_
    refine fz_istore (ls' := [(7, fz_i 1), (0, fz_r 53), (1, fz_i pm), (2, fz_i t), (3, fz_i hr), (4, fz_i wt), (5, fz_i to), (6, fz_i x)]) kX11_isEnough rfl (by decide) rfl ?_
    refine fz_aload_n kX11_isEnough rfl rfl ?_
    refine fz_dup rfl kX11_isEnough rfl ?_
    refine fz_getV (v := v15) kX11_isEnough rfl rfl k38 ?_
    refine fz_iconst ⟨by decide, by decide⟩ kX11_isEnough rfl ?_
    refine fz_isubN kX11_isEnough rfl (by omega) ?_
    refine fz_putI kX11_isEnough rfl rfl rfl ?_
    refine fz_nmu (S := [(53, 10), (60, 99999), (61, 99999), (62, 99999), (63, 99999), (64, 99999), (74, 99999), (75, 99999), (86, 99999), (87, 99999), (88, 99999)]) (h0 := h) (fz_Iv_up hI32 (by decide) (show (0 : Int) ≤ (v15 - 1) by omega) (show ((v15 - 1) : Int) ≤ 11 by omega)) (fz_fr_up hf37 rfl) (fun H48 hI49 hf50 e51 => ?_)
    have k52 : H48 53 10 = (v15 - 1) := by rw [e51]; exact fz_up_e
    have hXw53 : fz_Xw H48 := fz_Xw_eq (by rw [e51]; exact fz_up_s (by decide)) (by rw [e51]; exact fz_up_ne (by decide)) (by rw [e51]; exact fz_up_ne (by decide)) (by rw [e51]; exact fz_up_ne (by decide)) (by rw [e51]; exact fz_up_ne (by decide)) hXw34
    refine fz_iload kX11_isEnough rfl rfl ?_
    exact fz_zret kX11_isEnough rfl rfl (by omega) ⟨hI49, hf50, hXw53, _, rfl, (by omega), (by omega), (by exact fz_apM_up (fz_apM_f (fz_apM_f (fz_apM_lo (fz_apM_1 f11 (by omega) rfl)) (funext fun s => hf23 60 s rfl) (funext fun s => hf23 61 s rfl) (funext fun s => hf23 62 s rfl) (funext fun s => hf23 63 s rfl) (funext fun s => hf23 64 s rfl)) (funext fun s => hf33 60 s rfl) (funext fun s => hf33 61 s rfl) (funext fun s => hf33 62 s rfl) (funext fun s => hf33 63 s rfl) (funext fun s => hf33 64 s rfl)) e51 (by decide))⟩

abbrev qX11_needs (h : fz_H) (pm th to x : Int) : fz_H → Option fz_V → Prop := fun h' r0 => fz_Iv h' ∧ fz_fr [(53, 10), (60, 99999), (61, 99999), (62, 99999), (63, 99999), (64, 99999), (74, 99999), (75, 99999), (86, 99999), (87, 99999), (88, 99999)] h h' ∧ fz_Xw h' ∧ ∃ r : Int, r0 = some (fz_i r) ∧ ((-2) ≤ r ∧ r ≤ 9) ∧ (h' 53 10 = h 53 10) ∧ (fz_apM h h' 0 (fun _ => (0, 0, 0, 0, 0)))
set_option maxHeartbeats 1000000 in
set_option maxRecDepth 100000 in
theorem sX11_needs (h : fz_H) (hI : fz_Iv h) (pm th to x : Int) (hXw : fz_Xw h) (hp0 : h 53 10 ≤ 10) : fz_R 5 mX11_needs 0 [(0, fz_r 53), (1, fz_i pm), (2, fz_i th), (3, fz_i to), (4, fz_i x)] [] h (qX11_needs h pm th to x) := by
  refine fz_knowl (fun hk => ?_)
  have hr_pm : -2147483648 ≤ pm ∧ pm < 2147483648 := hk _ (List.Mem.tail _ (List.Mem.head _))
  have hr_th : -2147483648 ≤ th ∧ th < 2147483648 := hk _ (List.Mem.tail _ (List.Mem.tail _ (List.Mem.head _)))
  have hr_to : -2147483648 ≤ to ∧ to < 2147483648 := hk _ (List.Mem.tail _ (List.Mem.tail _ (List.Mem.tail _ (List.Mem.head _))))
  have hr_x : -2147483648 ≤ x ∧ x < 2147483648 := hk _ (List.Mem.tail _ (List.Mem.tail _ (List.Mem.tail _ (List.Mem.tail _ (List.Mem.head _)))))
  clear hk
  have hf : fz_fr [(53, 10), (60, 99999), (61, 99999), (62, 99999), (63, 99999), (64, 99999), (74, 99999), (75, 99999), (86, 99999), (87, 99999), (88, 99999)] h h := fz_fr_rf
  have b1 : 0 ≤ h 53 10 ∧ h 53 10 ≤ 11 := hI.1 53 _
  refine fz_iload_n kX11_needs rfl rfl ?_
  refine fz_callS (d' := 2) (M' := mX11_isMarked) (As := [fz_i pm]) (st := []) kX11_needs rfl rfl vX11_isMarked rfl rfl (Nat.le_of_ble_eq_true rfl) (Nat.le_of_ble_eq_true rfl) (by decide) (sX11_isMarked h hI pm ) (fun H2 r3 q4 o5 => ?_)
  obtain ⟨e6, y7, rfl, p8⟩ := q4
  subst H2
  clear o5
  rcases p8 with ⟨rfl, c9⟩ | ⟨rfl, c9⟩
  · refine fz_if_eq (tgt := 34) kX11_needs rfl (by decide) (fun c10 => ?_) (fun c10 => ?_)
    · exfalso; omega
    · refine fz_aload_n kX11_needs rfl rfl ?_
      refine fz_iload_n kX11_needs rfl rfl ?_
      have b11 : 0 ≤ h 53 0 ∧ h 53 0 ≤ 8 := hI.1 53 _
      refine fz_callV (d' := 2) (M' := mX11_isWhen) (As := [fz_i th]) (st := []) kX11_needs rfl rfl vX11_isWhen rfl rfl rfl rfl (Nat.le_of_ble_eq_true rfl) (Nat.le_of_ble_eq_true rfl) (by decide) (sX11_isWhen h hI th ) (fun H12 r13 q14 o15 => ?_)
      obtain ⟨e16, y17, rfl, p18⟩ := q14
      subst H12
      clear o15
      rcases p18 with ⟨rfl, c19⟩ | ⟨rfl, c19⟩
      · refine fz_if_eq (tgt := 34) kX11_needs rfl (by decide) (fun c20 => ?_) (fun c20 => ?_)
        · exfalso; omega
        · refine fz_aload_n kX11_needs rfl rfl ?_
          refine fz_iload_n kX11_needs rfl rfl ?_
          refine fz_callV (d' := 2) (M' := mX11_isWhen) (As := [fz_i to]) (st := []) kX11_needs rfl rfl vX11_isWhen rfl rfl rfl rfl (Nat.le_of_ble_eq_true rfl) (Nat.le_of_ble_eq_true rfl) (by decide) (sX11_isWhen h hI to ) (fun H21 r22 q23 o24 => ?_)
          obtain ⟨e25, y26, rfl, p27⟩ := q23
          subst H21
          clear o24
          rcases p27 with ⟨rfl, c28⟩ | ⟨rfl, c28⟩
          · refine fz_if_eq (tgt := 34) kX11_needs rfl (by decide) (fun c29 => ?_) (fun c29 => ?_)
            · exfalso; omega
            · refine fz_iload kX11_needs rfl rfl ?_
              refine fz_iconst ⟨by decide, by decide⟩ kX11_needs rfl ?_
              refine fz_bipush ⟨by decide, by decide⟩ kX11_needs rfl ?_
              refine fz_callS (d' := 0) (M' := mX11_within) (As := [fz_i x, fz_i 1, fz_i 99]) (st := []) kX11_needs rfl rfl vX11_within rfl rfl (Nat.le_of_ble_eq_true rfl) (Nat.le_of_ble_eq_true rfl) (by decide) (sX11_within h hI x 1 99 ) (fun H30 r31 q32 o33 => ?_)
              obtain ⟨e34, y35, rfl, p36⟩ := q32
              subst H30
              clear o33
              rcases p36 with ⟨rfl, c37⟩ | ⟨rfl, c37⟩
              · refine fz_if_ne (tgt := 36) kX11_needs rfl (by decide) (fun c38 => ?_) (fun c38 => ?_)
                · refine fz_aload_n kX11_needs rfl rfl ?_
                  refine fz_callV (d' := 3) (M' := mX11_allHear) (As := []) (st := []) kX11_needs rfl rfl vX11_allHear rfl rfl rfl rfl (Nat.le_of_ble_eq_true rfl) (Nat.le_of_ble_eq_true rfl) (by decide) (sX11_allHear h hI  ) (fun H39 r40 q41 o42 => ?_)
                  obtain ⟨hI43, hf44, rfl⟩ := q41
                  clear o42
                  have hf45 := fz_fr_tr hf hf44 (show fz_su [(86, 99999), (87, 99999), (88, 99999)] [(53, 10), (60, 99999), (61, 99999), (62, 99999), (63, 99999), (64, 99999), (74, 99999), (75, 99999), (86, 99999), (87, 99999), (88, 99999)] = true from rfl)
                  have k46 : H39 53 10 = (h 53 10) := (hf44 53 10 rfl).trans rfl
                  have hXw47 : fz_Xw H39 := fz_Xw_eq (hf44 53 19 rfl) (funext fun s => hf44 66 s rfl) (funext fun s => hf44 67 s rfl) (funext fun s => hf44 68 s rfl) (funext fun s => hf44 69 s rfl) hXw
                  have t48 : H39 53 10 = h 53 10 := hf44 53 10 rfl
                  refine fz_iconst ⟨by decide, by decide⟩ kX11_needs rfl ?_
                  refine fz_istore (ls' := [(5, fz_i 1), (0, fz_r 53), (1, fz_i pm), (2, fz_i th), (3, fz_i to), (4, fz_i x)]) kX11_needs rfl (by decide) rfl ?_
                  have lp55 : ∀ (n54 : Nat) (x49 : Int) (H51 : fz_H), fz_Iv H51 → fz_fr [(53, 10), (60, 99999), (61, 99999), (62, 99999), (63, 99999), (64, 99999), (74, 99999), (75, 99999), (86, 99999), (87, 99999), (88, 99999)] h H51 → fz_Xw H51 → (1 ≤ x49 ∧ x49 ≤ 2147483647) → (H51 53 10 = h 53 10) → (fz_apM h H51 0 (fun _ => (0, 0, 0, 0, 0))) → (10 - x49).toNat < n54 → fz_R 5 mX11_needs 43 [(5, fz_i x49), (0, fz_r 53), (1, fz_i pm), (2, fz_i th), (3, fz_i to), (4, fz_i x)] [] H51 (qX11_needs h pm th to x) := by
                    intro n54
                    induction n54 with
                    | zero => intro x49 H51 hI52 hf53 hXw50 hv58 hv59 hv60 hm57; exact absurd hm57 (by omega)
                    | succ n54 ih56 =>
                      intro x49 H51 hI52 hf53 hXw50 hv58 hv59 hv60 hm57
                      refine fz_iload kX11_needs rfl rfl ?_
                      refine fz_bipush ⟨by decide, by decide⟩ kX11_needs rfl ?_
                      refine fz_icmp_ge (tgt := 82) kX11_needs rfl (by decide) (fun c61 => ?_) (fun c61 => ?_)
                      · refine fz_bipush ⟨by decide, by decide⟩ kX11_needs rfl ?_
                        exact fz_iret kX11_needs rfl rfl (fun _ => ⟨hI52, hf53, hXw50, _, rfl, (by omega), (by omega), (by first | exact fz_apM_s0 hv60 lost (by omega) (by omega) (by omega) rfl | exact hv60 | exact fz_apM_z (by omega))⟩)
                      · refine fz_aload_n kX11_needs rfl rfl ?_
                        refine fz_iload_n kX11_needs rfl rfl ?_
                        refine fz_iload_n kX11_needs rfl rfl ?_
                        refine fz_sipush ⟨by decide, by decide⟩ kX11_needs rfl ?_
                        refine fz_idivN kX11_needs rfl (by omega) (by omega) (by omega) ?_
                        refine fz_iload_n kX11_needs rfl rfl ?_
                        refine fz_sipush ⟨by decide, by decide⟩ kX11_needs rfl ?_
                        refine fz_iremN kX11_needs rfl (by omega) (by omega) (by omega) ?_
                        refine fz_iload kX11_needs rfl rfl ?_
                        refine fz_iload_n kX11_needs rfl rfl ?_
                        refine fz_iload kX11_needs rfl rfl ?_
                        have b63 : 0 ≤ H51 53 10 ∧ H51 53 10 ≤ 11 := hI52.1 53 _
                        refine fz_callV (d' := 4) (M' := mX11_isEnough) (As := [fz_i pm, fz_i (th / 1000), fz_i (th % 1000), fz_i x49, fz_i to, fz_i x]) (st := []) kX11_needs rfl rfl vX11_isEnough rfl rfl rfl rfl (Nat.le_of_ble_eq_true rfl) (Nat.le_of_ble_eq_true rfl) (by decide) (sX11_isEnough H51 hI52 pm (th / 1000) (th % 1000) x49 to x hXw50 (by omega) (by omega) (by omega) (by omega) (by omega) (by omega) (by omega)) (fun H64 r65 q66 o67 => ?_)
                        obtain ⟨hI68, hf69, hXw70, y73, rfl, p74, f71, f72⟩ := q66
                        clear o67
                        have hf75 := fz_fr_tr hf53 hf69 (show fz_su [(53, 10), (60, 99999), (61, 99999), (62, 99999), (63, 99999), (64, 99999), (74, 99999), (75, 99999), (86, 99999), (87, 99999), (88, 99999)] [(53, 10), (60, 99999), (61, 99999), (62, 99999), (63, 99999), (64, 99999), (74, 99999), (75, 99999), (86, 99999), (87, 99999), (88, 99999)] = true from rfl)
                        refine fz_if_eq (tgt := 76) kX11_needs rfl (by decide) (fun c76 => ?_) (fun c76 => ?_)
                        · refine fz_iincN (ls' := [(5, fz_i (x49 + 1)), (0, fz_r 53), (1, fz_i pm), (2, fz_i th), (3, fz_i to), (4, fz_i x)]) kX11_needs rfl (by decide) rfl (by omega) rfl ?_
                          refine fz_goto (tgt := 43) kX11_needs rfl (by decide) ?_
                          exact ih56 (x49 + 1) H64 hI68 hf75 hXw70 (by omega) (by omega) (fz_apM_s0 hv60 f72 (by omega) (by omega) (by omega) rfl) (by omega)
                        · refine fz_iload kX11_needs rfl rfl ?_
                          exact fz_iret kX11_needs rfl rfl (fun _ => ⟨hI68, hf75, hXw70, _, rfl, (by omega), (by omega), (by first | exact fz_apM_s0 hv60 f72 (by omega) (by omega) (by omega) rfl | exact hv60 | exact fz_apM_z (by omega))⟩)
                  exact lp55 _ 1 H39 hI43 hf45 hXw47 (by omega) (by omega) (fz_apM_f (fz_apM_z (by omega)) (funext fun s => hf44 60 s rfl) (funext fun s => hf44 61 s rfl) (funext fun s => hf44 62 s rfl) (funext fun s => hf44 63 s rfl) (funext fun s => hf44 64 s rfl)) (Nat.lt_succ_self _)
                · exfalso; omega
              · refine fz_if_ne (tgt := 36) kX11_needs rfl (by decide) (fun c80 => ?_) (fun c80 => ?_)
                · exfalso; omega
                · refine fz_iconst ⟨by decide, by decide⟩ kX11_needs rfl ?_
                  exact fz_iret kX11_needs rfl rfl (fun _ => ⟨hI, hf, hXw, _, rfl, (by omega), (by omega), (by first | exact fz_apM_s0 lost lost (by omega) (by omega) (by omega) rfl | exact lost | exact fz_apM_z (by omega))⟩)
          · refine fz_if_eq (tgt := 34) kX11_needs rfl (by decide) (fun c82 => ?_) (fun c82 => ?_)
            · refine fz_iconst ⟨by decide, by decide⟩ kX11_needs rfl ?_
              exact fz_iret kX11_needs rfl rfl (fun _ => ⟨hI, hf, hXw, _, rfl, (by omega), (by omega), (by first | exact fz_apM_s0 lost lost (by omega) (by omega) (by omega) rfl | exact lost | exact fz_apM_z (by omega))⟩)
            · exfalso; omega
      · refine fz_if_eq (tgt := 34) kX11_needs rfl (by decide) (fun c84 => ?_) (fun c84 => ?_)
        · refine fz_iconst ⟨by decide, by decide⟩ kX11_needs rfl ?_
          exact fz_iret kX11_needs rfl rfl (fun _ => ⟨hI, hf, hXw, _, rfl, (by omega), (by omega), (by first | exact fz_apM_s0 lost lost (by omega) (by omega) (by omega) rfl | exact lost | exact fz_apM_z (by omega))⟩)
        · exfalso; omega
  · refine fz_if_eq (tgt := 34) kX11_needs rfl (by decide) (fun c86 => ?_) (fun c86 => ?_)
    · refine fz_iconst ⟨by decide, by decide⟩ kX11_needs rfl ?_
      exact fz_iret kX11_needs rfl rfl (fun _ => ⟨hI, hf, hXw, _, rfl, (by omega), (by omega), (by first | exact fz_apM_s0 lost lost (by omega) (by omega) (by omega) rfl | exact lost | exact fz_apM_z (by omega))⟩)
    · exfalso; omega

abbrev qX11_latest (h : fz_H) (pm t to wx : Int) : fz_H → Option fz_V → Prop := fun h' r0 => fz_Iv h' ∧ fz_fr [(53, 10), (60, 99999), (61, 99999), (62, 99999), (63, 99999), (64, 99999), (74, 99999), (75, 99999), (86, 99999), (87, 99999), (88, 99999)] h h' ∧ fz_Xw h' ∧ ∃ r : Int, r0 = some (fz_i r) ∧ ((-2) ≤ r ∧ r ≤ 999) ∧ (h' 53 10 = h 53 10) ∧ (fz_apM h h' 0 (fun _ => (0, 0, 0, 0, 0)))
set_option maxHeartbeats 1000000 in
set_option maxRecDepth 100000 in
theorem sX11_latest (h : fz_H) (hI : fz_Iv h) (pm t to wx : Int) (hXw : fz_Xw h) (hp0 : h 53 10 ≤ 10) : fz_R 5 mX11_latest 0 [(0, fz_r 53), (1, fz_i pm), (2, fz_i t), (3, fz_i to), (4, fz_i wx)] [] h (qX11_latest h pm t to wx) := by
  refine fz_knowl (fun hk => ?_)
  have hr_pm : -2147483648 ≤ pm ∧ pm < 2147483648 := hk _ (List.Mem.tail _ (List.Mem.head _))
  have hr_t : -2147483648 ≤ t ∧ t < 2147483648 := hk _ (List.Mem.tail _ (List.Mem.tail _ (List.Mem.head _)))
  have hr_to : -2147483648 ≤ to ∧ to < 2147483648 := hk _ (List.Mem.tail _ (List.Mem.tail _ (List.Mem.tail _ (List.Mem.head _))))
  have hr_wx : -2147483648 ≤ wx ∧ wx < 2147483648 := hk _ (List.Mem.tail _ (List.Mem.tail _ (List.Mem.tail _ (List.Mem.tail _ (List.Mem.head _)))))
  clear hk
  have hf : fz_fr [(53, 10), (60, 99999), (61, 99999), (62, 99999), (63, 99999), (64, 99999), (74, 99999), (75, 99999), (86, 99999), (87, 99999), (88, 99999)] h h := fz_fr_rf
  have b1 : 0 ≤ h 53 10 ∧ h 53 10 ≤ 11 := hI.1 53 _
  refine fz_iload_n kX11_latest rfl rfl ?_
  refine fz_callS (d' := 2) (M' := mX11_isMarked) (As := [fz_i pm]) (st := []) kX11_latest rfl rfl vX11_isMarked rfl rfl (Nat.le_of_ble_eq_true rfl) (Nat.le_of_ble_eq_true rfl) (by decide) (sX11_isMarked h hI pm ) (fun H2 r3 q4 o5 => ?_)
  obtain ⟨e6, y7, rfl, p8⟩ := q4
  subst H2
  clear o5
  rcases p8 with ⟨rfl, c9⟩ | ⟨rfl, c9⟩
  · refine fz_if_eq (tgt := 50) kX11_latest rfl (by decide) (fun c10 => ?_) (fun c10 => ?_)
    · exfalso; omega
    · refine fz_aload_n kX11_latest rfl rfl ?_
      refine fz_iload_n kX11_latest rfl rfl ?_
      have b11 : 0 ≤ h 53 0 ∧ h 53 0 ≤ 8 := hI.1 53 _
      refine fz_callV (d' := 1) (M' := mX11_isTown) (As := [fz_i t]) (st := []) kX11_latest rfl rfl vX11_isTown rfl rfl rfl rfl (Nat.le_of_ble_eq_true rfl) (Nat.le_of_ble_eq_true rfl) (by decide) (sX11_isTown h hI t ) (fun H12 r13 q14 o15 => ?_)
      obtain ⟨e16, y17, rfl, p18⟩ := q14
      subst H12
      clear o15
      rcases p18 with ⟨rfl, c19⟩ | ⟨rfl, c19⟩
      · refine fz_if_eq (tgt := 50) kX11_latest rfl (by decide) (fun c20 => ?_) (fun c20 => ?_)
        · exfalso; omega
        · refine fz_aload_n kX11_latest rfl rfl ?_
          refine fz_iload_n kX11_latest rfl rfl ?_
          refine fz_callV (d' := 2) (M' := mX11_isWhen) (As := [fz_i to]) (st := []) kX11_latest rfl rfl vX11_isWhen rfl rfl rfl rfl (Nat.le_of_ble_eq_true rfl) (Nat.le_of_ble_eq_true rfl) (by decide) (sX11_isWhen h hI to ) (fun H21 r22 q23 o24 => ?_)
          obtain ⟨e25, y26, rfl, p27⟩ := q23
          subst H21
          clear o24
          rcases p27 with ⟨rfl, c28⟩ | ⟨rfl, c28⟩
          · refine fz_if_eq (tgt := 50) kX11_latest rfl (by decide) (fun c29 => ?_) (fun c29 => ?_)
            · exfalso; omega
            · refine fz_iload kX11_latest rfl rfl ?_
              refine fz_if_lt (tgt := 50) kX11_latest rfl (by decide) (fun c30 => ?_) (fun c30 => ?_)
              · refine fz_iconst ⟨by decide, by decide⟩ kX11_latest rfl ?_
                exact fz_iret kX11_latest rfl rfl (fun _ => ⟨hI, hf, hXw, _, rfl, (by omega), (by omega), (by first | exact fz_apM_s0 lost lost (by omega) (by omega) (by omega) rfl | exact lost | exact fz_apM_z (by omega))⟩)
              · refine fz_iload kX11_latest rfl rfl ?_
                refine fz_bipush ⟨by decide, by decide⟩ kX11_latest rfl ?_
                refine fz_idivN kX11_latest rfl (by omega) (by omega) (by omega) ?_
                refine fz_iconst ⟨by decide, by decide⟩ kX11_latest rfl ?_
                refine fz_bipush ⟨by decide, by decide⟩ kX11_latest rfl ?_
                refine fz_callS (d' := 0) (M' := mX11_within) (As := [fz_i (wx / 100), fz_i 1, fz_i 9]) (st := []) kX11_latest rfl rfl vX11_within rfl rfl (Nat.le_of_ble_eq_true rfl) (Nat.le_of_ble_eq_true rfl) (by decide) (sX11_within h hI (wx / 100) 1 9 ) (fun H32 r33 q34 o35 => ?_)
                obtain ⟨e36, y37, rfl, p38⟩ := q34
                subst H32
                clear o35
                rcases p38 with ⟨rfl, c39⟩ | ⟨rfl, c39⟩
                · refine fz_if_eq (tgt := 50) kX11_latest rfl (by decide) (fun c40 => ?_) (fun c40 => ?_)
                  · exfalso; omega
                  · refine fz_iload kX11_latest rfl rfl ?_
                    refine fz_bipush ⟨by decide, by decide⟩ kX11_latest rfl ?_
                    refine fz_iremN kX11_latest rfl (by omega) (by omega) (by omega) ?_
                    refine fz_if_ne (tgt := 52) kX11_latest rfl (by decide) (fun c41 => ?_) (fun c41 => ?_)
                    · refine fz_aload_n kX11_latest rfl rfl ?_
                      refine fz_callV (d' := 3) (M' := mX11_allHear) (As := []) (st := []) kX11_latest rfl rfl vX11_allHear rfl rfl rfl rfl (Nat.le_of_ble_eq_true rfl) (Nat.le_of_ble_eq_true rfl) (by decide) (sX11_allHear h hI  ) (fun H42 r43 q44 o45 => ?_)
                      obtain ⟨hI46, hf47, rfl⟩ := q44
                      clear o45
                      have hf48 := fz_fr_tr hf hf47 (show fz_su [(86, 99999), (87, 99999), (88, 99999)] [(53, 10), (60, 99999), (61, 99999), (62, 99999), (63, 99999), (64, 99999), (74, 99999), (75, 99999), (86, 99999), (87, 99999), (88, 99999)] = true from rfl)
                      have k49 : H42 53 10 = (h 53 10) := (hf47 53 10 rfl).trans rfl
                      have hXw50 : fz_Xw H42 := fz_Xw_eq (hf47 53 19 rfl) (funext fun s => hf47 66 s rfl) (funext fun s => hf47 67 s rfl) (funext fun s => hf47 68 s rfl) (funext fun s => hf47 69 s rfl) hXw
                      have t51 : H42 53 10 = h 53 10 := hf47 53 10 rfl
                      refine fz_sipush ⟨by decide, by decide⟩ kX11_latest rfl ?_
                      refine fz_istore (ls' := [(5, fz_i 999), (0, fz_r 53), (1, fz_i pm), (2, fz_i t), (3, fz_i to), (4, fz_i wx)]) kX11_latest rfl (by decide) rfl ?_
                      have lp58 : ∀ (n57 : Nat) (x52 : Int) (H54 : fz_H), fz_Iv H54 → fz_fr [(53, 10), (60, 99999), (61, 99999), (62, 99999), (63, 99999), (64, 99999), (74, 99999), (75, 99999), (86, 99999), (87, 99999), (88, 99999)] h H54 → fz_Xw H54 → ((-2147483648) ≤ x52 ∧ x52 ≤ 999) → (H54 53 10 = h 53 10) → (fz_apM h H54 0 (fun _ => (0, 0, 0, 0, 0))) → (x52 + 1 - 0).toNat < n57 → fz_R 5 mX11_latest 61 [(5, fz_i x52), (0, fz_r 53), (1, fz_i pm), (2, fz_i t), (3, fz_i to), (4, fz_i wx)] [] H54 (qX11_latest h pm t to wx) := by
                        intro n57
                        induction n57 with
                        | zero => intro x52 H54 hI55 hf56 hXw53 hv61 hv62 hv63 hm60; exact absurd hm60 (by omega)
                        | succ n57 ih59 =>
                          intro x52 H54 hI55 hf56 hXw53 hv61 hv62 hv63 hm60
                          refine fz_iload kX11_latest rfl rfl ?_
                          refine fz_if_lt (tgt := 97) kX11_latest rfl (by decide) (fun c64 => ?_) (fun c64 => ?_)
                          · refine fz_bipush ⟨by decide, by decide⟩ kX11_latest rfl ?_
                            exact fz_iret kX11_latest rfl rfl (fun _ => ⟨hI55, hf56, hXw53, _, rfl, (by omega), (by omega), (by first | exact fz_apM_s0 hv63 lost (by omega) (by omega) (by omega) rfl | exact hv63 | exact fz_apM_z (by omega))⟩)
                          · refine fz_aload_n kX11_latest rfl rfl ?_
                            refine fz_iload_n kX11_latest rfl rfl ?_
                            refine fz_iload_n kX11_latest rfl rfl ?_
                            refine fz_iload kX11_latest rfl rfl ?_
                            refine fz_iload kX11_latest rfl rfl ?_
                            refine fz_bipush ⟨by decide, by decide⟩ kX11_latest rfl ?_
                            refine fz_idivN kX11_latest rfl (by omega) (by omega) (by omega) ?_
                            refine fz_iload_n kX11_latest rfl rfl ?_
                            refine fz_iload kX11_latest rfl rfl ?_
                            refine fz_bipush ⟨by decide, by decide⟩ kX11_latest rfl ?_
                            refine fz_iremN kX11_latest rfl (by omega) (by omega) (by omega) ?_
                            have b66 : 0 ≤ H54 53 10 ∧ H54 53 10 ≤ 11 := hI55.1 53 _
                            refine fz_callV (d' := 4) (M' := mX11_isEnough) (As := [fz_i pm, fz_i t, fz_i x52, fz_i (wx / 100), fz_i to, fz_i (wx % 100)]) (st := []) kX11_latest rfl rfl vX11_isEnough rfl rfl rfl rfl (Nat.le_of_ble_eq_true rfl) (Nat.le_of_ble_eq_true rfl) (by decide) (sX11_isEnough H54 hI55 pm t x52 (wx / 100) to (wx % 100) hXw53 (by omega) (by omega) (by omega) (by omega) (by omega) (by omega) (by omega)) (fun H67 r68 q69 o70 => ?_)
                            obtain ⟨hI71, hf72, hXw73, y76, rfl, p77, f74, f75⟩ := q69
                            clear o70
                            have hf78 := fz_fr_tr hf56 hf72 (show fz_su [(53, 10), (60, 99999), (61, 99999), (62, 99999), (63, 99999), (64, 99999), (74, 99999), (75, 99999), (86, 99999), (87, 99999), (88, 99999)] [(53, 10), (60, 99999), (61, 99999), (62, 99999), (63, 99999), (64, 99999), (74, 99999), (75, 99999), (86, 99999), (87, 99999), (88, 99999)] = true from rfl)
                            refine fz_if_eq (tgt := 91) kX11_latest rfl (by decide) (fun c79 => ?_) (fun c79 => ?_)
                            · refine fz_iincN (ls' := [(5, fz_i (x52 + (-1))), (0, fz_r 53), (1, fz_i pm), (2, fz_i t), (3, fz_i to), (4, fz_i wx)]) kX11_latest rfl (by decide) rfl (by omega) rfl ?_
                              refine fz_goto (tgt := 61) kX11_latest rfl (by decide) ?_
                              exact ih59 (x52 + (-1)) H67 hI71 hf78 hXw73 (by omega) (by omega) (fz_apM_s0 hv63 f75 (by omega) (by omega) (by omega) rfl) (by omega)
                            · refine fz_iload kX11_latest rfl rfl ?_
                              exact fz_iret kX11_latest rfl rfl (fun _ => ⟨hI71, hf78, hXw73, _, rfl, (by omega), (by omega), (by first | exact fz_apM_s0 hv63 f75 (by omega) (by omega) (by omega) rfl | exact hv63 | exact fz_apM_z (by omega))⟩)
                      exact lp58 _ 999 H42 hI46 hf48 hXw50 (by omega) (by omega) (fz_apM_f (fz_apM_z (by omega)) (funext fun s => hf47 60 s rfl) (funext fun s => hf47 61 s rfl) (funext fun s => hf47 62 s rfl) (funext fun s => hf47 63 s rfl) (funext fun s => hf47 64 s rfl)) (Nat.lt_succ_self _)
                    · refine fz_iconst ⟨by decide, by decide⟩ kX11_latest rfl ?_
                      exact fz_iret kX11_latest rfl rfl (fun _ => ⟨hI, hf, hXw, _, rfl, (by omega), (by omega), (by first | exact fz_apM_s0 lost lost (by omega) (by omega) (by omega) rfl | exact lost | exact fz_apM_z (by omega))⟩)
                · refine fz_if_eq (tgt := 50) kX11_latest rfl (by decide) (fun c84 => ?_) (fun c84 => ?_)
                  · refine fz_iconst ⟨by decide, by decide⟩ kX11_latest rfl ?_
                    exact fz_iret kX11_latest rfl rfl (fun _ => ⟨hI, hf, hXw, _, rfl, (by omega), (by omega), (by first | exact fz_apM_s0 lost lost (by omega) (by omega) (by omega) rfl | exact lost | exact fz_apM_z (by omega))⟩)
                  · exfalso; omega
          · refine fz_if_eq (tgt := 50) kX11_latest rfl (by decide) (fun c86 => ?_) (fun c86 => ?_)
            · refine fz_iconst ⟨by decide, by decide⟩ kX11_latest rfl ?_
              exact fz_iret kX11_latest rfl rfl (fun _ => ⟨hI, hf, hXw, _, rfl, (by omega), (by omega), (by first | exact fz_apM_s0 lost lost (by omega) (by omega) (by omega) rfl | exact lost | exact fz_apM_z (by omega))⟩)
            · exfalso; omega
      · refine fz_if_eq (tgt := 50) kX11_latest rfl (by decide) (fun c88 => ?_) (fun c88 => ?_)
        · refine fz_iconst ⟨by decide, by decide⟩ kX11_latest rfl ?_
          exact fz_iret kX11_latest rfl rfl (fun _ => ⟨hI, hf, hXw, _, rfl, (by omega), (by omega), (by first | exact fz_apM_s0 lost lost (by omega) (by omega) (by omega) rfl | exact lost | exact fz_apM_z (by omega))⟩)
        · exfalso; omega
  · refine fz_if_eq (tgt := 50) kX11_latest rfl (by decide) (fun c90 => ?_) (fun c90 => ?_)
    · refine fz_iconst ⟨by decide, by decide⟩ kX11_latest rfl ?_
      exact fz_iret kX11_latest rfl rfl (fun _ => ⟨hI, hf, hXw, _, rfl, (by omega), (by omega), (by first | exact fz_apM_s0 lost lost (by omega) (by omega) (by omega) rfl | exact lost | exact fz_apM_z (by omega))⟩)
    · exfalso; omega

abbrev qX11_cut (h : fz_H) (d t wh : Int) : fz_H → Option fz_V → Prop := fun h' r0 => fz_Iv h' ∧ fz_fr [(58, 99999), (86, 99999), (87, 99999)] h h' ∧ ∃ r : Int, r0 = some (fz_i r) ∧ ((-2147483648) ≤ r ∧ r ≤ 2147483647) ∧ (h' 58 = h 58)
set_option maxHeartbeats 1000000 in
set_option maxRecDepth 100000 in
theorem sX11_cut (h : fz_H) (hI : fz_Iv h) (d t wh : Int) : fz_R 3 mX11_cut 0 [(0, fz_r 53), (1, fz_i d), (2, fz_i t), (3, fz_i wh)] [] h (qX11_cut h d t wh) := by
  refine fz_knowl (fun hk => ?_)
  have hr_d : -2147483648 ≤ d ∧ d < 2147483648 := hk _ (List.Mem.tail _ (List.Mem.head _))
  have hr_t : -2147483648 ≤ t ∧ t < 2147483648 := hk _ (List.Mem.tail _ (List.Mem.tail _ (List.Mem.head _)))
  have hr_wh : -2147483648 ≤ wh ∧ wh < 2147483648 := hk _ (List.Mem.tail _ (List.Mem.tail _ (List.Mem.tail _ (List.Mem.head _))))
  clear hk
  have hf : fz_fr [(58, 99999), (86, 99999), (87, 99999)] h h := fz_fr_rf
  refine fz_aload_n kX11_cut rfl rfl ?_
  refine fz_iload_n kX11_cut rfl rfl ?_
  have b1 : 0 ≤ h 53 10 ∧ h 53 10 ≤ 11 := hI.1 53 _
  refine fz_callV (d' := 1) (M' := mX11_isDeed) (As := [fz_i d]) (st := []) kX11_cut rfl rfl vX11_isDeed rfl rfl rfl rfl (Nat.le_of_ble_eq_true rfl) (Nat.le_of_ble_eq_true rfl) (by decide) (sX11_isDeed h hI d ) (fun H2 r3 q4 o5 => ?_)
  obtain ⟨e6, y7, rfl, p8⟩ := q4
  subst H2
  clear o5
  rcases p8 with ⟨rfl, c9⟩ | ⟨rfl, c9⟩
  · refine fz_if_eq (tgt := 25) kX11_cut rfl (by decide) (fun c10 => ?_) (fun c10 => ?_)
    · exfalso; omega
    · refine fz_aload_n kX11_cut rfl rfl ?_
      refine fz_iload_n kX11_cut rfl rfl ?_
      have b11 : 0 ≤ h 53 0 ∧ h 53 0 ≤ 8 := hI.1 53 _
      refine fz_callV (d' := 1) (M' := mX11_isTown) (As := [fz_i t]) (st := []) kX11_cut rfl rfl vX11_isTown rfl rfl rfl rfl (Nat.le_of_ble_eq_true rfl) (Nat.le_of_ble_eq_true rfl) (by decide) (sX11_isTown h hI t ) (fun H12 r13 q14 o15 => ?_)
      obtain ⟨e16, y17, rfl, p18⟩ := q14
      subst H12
      clear o15
      rcases p18 with ⟨rfl, c19⟩ | ⟨rfl, c19⟩
      · refine fz_if_eq (tgt := 25) kX11_cut rfl (by decide) (fun c20 => ?_) (fun c20 => ?_)
        · exfalso; omega
        · refine fz_iload_n kX11_cut rfl rfl ?_
          refine fz_iconst ⟨by decide, by decide⟩ kX11_cut rfl ?_
          refine fz_iconst ⟨by decide, by decide⟩ kX11_cut rfl ?_
          refine fz_callS (d' := 0) (M' := mX11_within) (As := [fz_i wh, fz_i 0, fz_i 1]) (st := []) kX11_cut rfl rfl vX11_within rfl rfl (Nat.le_of_ble_eq_true rfl) (Nat.le_of_ble_eq_true rfl) (by decide) (sX11_within h hI wh 0 1 ) (fun H21 r22 q23 o24 => ?_)
          obtain ⟨e25, y26, rfl, p27⟩ := q23
          subst H21
          clear o24
          rcases p27 with ⟨rfl, c28⟩ | ⟨rfl, c28⟩
          · refine fz_if_ne (tgt := 27) kX11_cut rfl (by decide) (fun c29 => ?_) (fun c29 => ?_)
            · refine fz_iconst ⟨by decide, by decide⟩ kX11_cut rfl ?_
              refine fz_istore (ls' := [(4, fz_i 0), (0, fz_r 53), (1, fz_i d), (2, fz_i t), (3, fz_i wh)]) kX11_cut rfl (by decide) rfl ?_
              refine fz_iconst ⟨by decide, by decide⟩ kX11_cut rfl ?_
              refine fz_istore (ls' := [(5, fz_i 0), (4, fz_i 0), (0, fz_r 53), (1, fz_i d), (2, fz_i t), (3, fz_i wh)]) kX11_cut rfl (by decide) rfl ?_
              have lp33 : ∀ (n32 : Nat) (x30 : Int) (x31 : Int), (0 ≤ x30 ∧ x30 ≤ 2147483647) → ((-2147483648) ≤ x31 ∧ x31 ≤ 2147483647) → (fz_cb (h 58) 1 x31 x30) → ((h 53 2) - x30).toNat < n32 → fz_R 3 mX11_cut 33 [(5, fz_i x30), (4, fz_i x31), (0, fz_r 53), (1, fz_i d), (2, fz_i t), (3, fz_i wh)] [] h (qX11_cut h d t wh) := by
                intro n32
                induction n32 with
                | zero => intro x30 x31 hv36 hv37 hv38 hm35; exact absurd hm35 (by omega)
                | succ n32 ih34 =>
                  intro x30 x31 hv36 hv37 hv38 hm35
                  refine fz_iload kX11_cut rfl rfl ?_
                  refine fz_aload_n kX11_cut rfl rfl ?_
                  refine fz_getV (v := h 53 2) kX11_cut rfl rfl rfl ?_
                  have b39 : 0 ≤ h 53 2 ∧ h 53 2 ≤ 12 := hI.1 53 _
                  refine fz_icmp_ge (tgt := 68) kX11_cut rfl (by decide) (fun c40 => ?_) (fun c40 => ?_)
                  · refine fz_bipush ⟨by decide, by decide⟩ kX11_cut rfl ?_
                    refine fz_istore (ls' := [(5, fz_i (-2)), (4, fz_i x31), (0, fz_r 53), (1, fz_i d), (2, fz_i t), (3, fz_i wh)]) kX11_cut rfl (by decide) rfl ?_
                    refine fz_iconst ⟨by decide, by decide⟩ kX11_cut rfl ?_
                    refine fz_istore (ls' := [(6, fz_i 0), (5, fz_i (-2)), (4, fz_i x31), (0, fz_r 53), (1, fz_i d), (2, fz_i t), (3, fz_i wh)]) kX11_cut rfl (by decide) rfl ?_
                    have lp47 : ∀ (n46 : Nat) (x41 : Int) (x42 : Int) (H43 : fz_H), fz_Iv H43 → fz_fr [(58, 99999), (86, 99999), (87, 99999)] h H43 → (0 ≤ x41 ∧ x41 ≤ 2147483647) → ((-2147483648) ≤ x42 ∧ x42 ≤ 2147483647) → (fz_o8 h H43) → ((fz_shl 1 (h 53 2)) - x41).toNat < n46 → fz_R 3 mX11_cut 75 [(6, fz_i x41), (5, fz_i x42), (4, fz_i x31), (0, fz_r 53), (1, fz_i d), (2, fz_i t), (3, fz_i wh)] [] H43 (qX11_cut h d t wh) := by
                      intro n46
                      induction n46 with
                      | zero => intro x41 x42 H43 hI44 hf45 hv50 hv51 hv52 hm49; exact absurd hm49 (by omega)
                      | succ n46 ih48 =>
                        intro x41 x42 H43 hI44 hf45 hv50 hv51 hv52 hm49
                        refine fz_iload kX11_cut rfl rfl ?_
                        refine fz_iconst ⟨by decide, by decide⟩ kX11_cut rfl ?_
                        refine fz_aload_n kX11_cut rfl rfl ?_
                        refine fz_getV (v := h 53 2) kX11_cut rfl rfl (hf45 53 2 rfl) ?_
                        refine fz_ishl kX11_cut rfl ?_
                        have b53 : -2147483648 ≤ (fz_shl 1 (h 53 2)) ∧ (fz_shl 1 (h 53 2)) < 2147483648 := fz_b32 _
                        refine fz_icmp_ge (tgt := 177) kX11_cut rfl (by decide) (fun c55 => ?_) (fun c55 => ?_)
                        · refine fz_iconst ⟨by decide, by decide⟩ kX11_cut rfl ?_
                          refine fz_istore (ls' := [(6, fz_i 0), (5, fz_i x42), (4, fz_i x31), (0, fz_r 53), (1, fz_i d), (2, fz_i t), (3, fz_i wh)]) kX11_cut rfl (by decide) rfl ?_
                          have lp61 : ∀ (n60 : Nat) (x56 : Int) (H57 : fz_H), fz_Iv H57 → fz_fr [(58, 99999), (86, 99999), (87, 99999)] h H57 → (0 ≤ x56 ∧ x56 ≤ 2147483647) → (fz_rs h H57 x56) → ((h 53 2) - x56).toNat < n60 → fz_R 3 mX11_cut 180 [(6, fz_i x56), (5, fz_i x42), (4, fz_i x31), (0, fz_r 53), (1, fz_i d), (2, fz_i t), (3, fz_i wh)] [] H57 (qX11_cut h d t wh) := by
                            intro n60
                            induction n60 with
                            | zero => intro x56 H57 hI58 hf59 hv64 hv65 hm63; exact absurd hm63 (by omega)
                            | succ n60 ih62 =>
                              intro x56 H57 hI58 hf59 hv64 hv65 hm63
                              refine fz_iload kX11_cut rfl rfl ?_
                              refine fz_aload_n kX11_cut rfl rfl ?_
                              refine fz_getV (v := h 53 2) kX11_cut rfl rfl (hf59 53 2 rfl) ?_
                              refine fz_icmp_ge (tgt := 209) kX11_cut rfl (by decide) (fun c66 => ?_) (fun c66 => ?_)
                              · refine fz_iload kX11_cut rfl rfl ?_
                                refine fz_bipush ⟨by decide, by decide⟩ kX11_cut rfl ?_
                                refine fz_icmp_eq (tgt := 221) kX11_cut rfl (by decide) (fun c67 => ?_) (fun c67 => ?_)
                                · refine fz_iload kX11_cut rfl rfl ?_
                                  refine fz_goto (tgt := 231) kX11_cut rfl (by decide) ?_
                                  exact fz_iret kX11_cut rfl rfl (fun _ => ⟨hI58, hf59, _, rfl, (by omega), (by first | rfl | exact fz_rs_e hv65 (by omega))⟩)
                                · refine fz_iload_n kX11_cut rfl rfl ?_
                                  refine fz_iconst ⟨by decide, by decide⟩ kX11_cut rfl ?_
                                  refine fz_icmp_ne (tgt := 226) kX11_cut rfl (by decide) (fun c69 => ?_) (fun c69 => ?_)
                                  · refine fz_iload kX11_cut rfl rfl ?_
                                    refine fz_callS (d' := 0) (M' := mJ6_bitCount_0f7a4) (As := [fz_i x42]) (st := []) kX11_cut rfl rfl vJ6_bitCount_0f7a4 rfl rfl (Nat.le_of_ble_eq_true rfl) (Nat.le_of_ble_eq_true rfl) (by decide) (sJ6_bitCount_0f7a4 H57 hI58 x42 ) (fun H70 r71 q72 o73 => ?_)
                                    obtain ⟨e74, y76, rfl, f75⟩ := q72
                                    subst H70
                                    clear o73
                                    exact fz_iret kX11_cut rfl rfl (fun _ => ⟨hI58, hf59, _, rfl, (by omega), (by first | rfl | exact fz_rs_e hv65 (by omega))⟩)
                                  · refine fz_iload kX11_cut rfl rfl ?_
                                    refine fz_goto (tgt := 231) kX11_cut rfl (by decide) ?_
                                    exact fz_iret kX11_cut rfl rfl (fun _ => ⟨hI58, hf59, _, rfl, (by omega), (by first | rfl | exact fz_rs_e hv65 (by omega))⟩)
                              · refine fz_aload_n kX11_cut rfl rfl ?_
                                refine fz_getR (t := 58) kX11_cut rfl rfl ?_
                                refine fz_iload kX11_cut rfl rfl ?_
                                refine fz_iload kX11_cut rfl rfl ?_
                                refine fz_iload kX11_cut rfl rfl ?_
                                refine fz_ishr kX11_cut rfl ?_
                                have b79 : -2147483648 ≤ (fz_shr x31 x56) ∧ (fz_shr x31 x56) < 2147483648 := fz_b32 _
                                refine fz_iconst ⟨by decide, by decide⟩ kX11_cut rfl ?_
                                refine fz_iand kX11_cut rfl ?_
                                have b81 : -2147483648 ≤ (fz_and (fz_shr x31 x56) 1) ∧ (fz_and (fz_shr x31 x56) 1) < 2147483648 := fz_b32 _
                                have b82 : 0 ≤ (fz_and (fz_shr x31 x56) 1) ∧ (fz_and (fz_shr x31 x56) 1) ≤ 1 := fz_and_m (by omega) (by omega)
                                refine fz_iast (n := 12) kX11_cut rfl rfl (by omega) (by omega) ?_
                                refine fz_nmu (S := [(58, 99999), (86, 99999), (87, 99999)]) (h0 := h) (fz_Iv_up hI58 (by decide) (show (0 : Int) ≤ (fz_and (fz_shr x31 x56) 1) by omega) (show ((fz_and (fz_shr x31 x56) 1) : Int) ≤ 1 by omega)) (fz_fr_up hf59 rfl) (fun H83 hI84 hf85 e86 => ?_)
                                refine fz_iincN (ls' := [(6, fz_i (x56 + 1)), (5, fz_i x42), (4, fz_i x31), (0, fz_r 53), (1, fz_i d), (2, fz_i t), (3, fz_i wh)]) kX11_cut rfl (by decide) rfl (by omega) rfl ?_
                                refine fz_goto (tgt := 180) kX11_cut rfl (by decide) ?_
                                exact ih62 (x56 + 1) H83 hI84 hf85 (by omega) (fz_rs_st hv65 e86 (by omega) (fz_cb_g hv38 (by omega) (hI.1 58 _))) (by omega)
                          exact lp61 _ 0 H43 hI44 hf45 (by omega) (fz_rs_0 hv52 (by omega)) (Nat.lt_succ_self _)
                        · refine fz_iload kX11_cut rfl rfl ?_
                          refine fz_callS (d' := 0) (M' := mJ6_bitCount_0f7a4) (As := [fz_i x41]) (st := []) kX11_cut rfl rfl vJ6_bitCount_0f7a4 rfl rfl (Nat.le_of_ble_eq_true rfl) (Nat.le_of_ble_eq_true rfl) (by decide) (sJ6_bitCount_0f7a4 H43 hI44 x41 ) (fun H89 r90 q91 o92 => ?_)
                          obtain ⟨e93, y95, rfl, f94⟩ := q91
                          subst H89
                          clear o92
                          refine fz_istore (ls' := [(7, fz_i y95), (6, fz_i x41), (5, fz_i x42), (4, fz_i x31), (0, fz_r 53), (1, fz_i d), (2, fz_i t), (3, fz_i wh)]) kX11_cut rfl (by decide) rfl ?_
                          refine fz_iload kX11_cut rfl rfl ?_
                          refine fz_iconst ⟨by decide, by decide⟩ kX11_cut rfl ?_
                          refine fz_icmp_gt (tgt := 171) kX11_cut rfl (by decide) (fun c96 => ?_) (fun c96 => ?_)
                          · refine fz_iincN (ls' := [(6, fz_i (x41 + 1)), (7, fz_i y95), (5, fz_i x42), (4, fz_i x31), (0, fz_r 53), (1, fz_i d), (2, fz_i t), (3, fz_i wh)]) kX11_cut rfl (by decide) rfl (by omega) rfl ?_
                            refine fz_goto (tgt := 75) kX11_cut rfl (by decide) ?_
                            refine fz_sub (fz_pk_sub (ls' := [(6, fz_i (x41 + 1)), (5, fz_i x42), (4, fz_i x31), (0, fz_r 53), (1, fz_i d), (2, fz_i t), (3, fz_i wh)]) [0, 2, 3, 4, 5, 6, 7] rfl) ?_
                            exact ih48 (x41 + 1) x42 H43 hI44 hf45 (by omega) (by omega) (by first | exact fz_o8_f lost (funext fun s => lost 58 s rfl) | exact hv52) (by omega)
                          · refine fz_iload kX11_cut rfl rfl ?_
                            refine fz_bipush ⟨by decide, by decide⟩ kX11_cut rfl ?_
                            refine fz_icmp_eq (tgt := 119) kX11_cut rfl (by decide) (fun c98 => ?_) (fun c98 => ?_)
                            · refine fz_iconst ⟨by decide, by decide⟩ kX11_cut rfl ?_
                              refine fz_istore (ls' := [(8, fz_i 0), (7, fz_i y95), (6, fz_i x41), (5, fz_i x42), (4, fz_i x31), (0, fz_r 53), (1, fz_i d), (2, fz_i t), (3, fz_i wh)]) kX11_cut rfl (by decide) rfl ?_
                              have lp104 : ∀ (n103 : Nat) (x99 : Int) (H100 : fz_H), fz_Iv H100 → fz_fr [(58, 99999), (86, 99999), (87, 99999)] h H100 → (0 ≤ x99 ∧ x99 ≤ 2147483647) → (fz_o8 h H100) → ((h 53 2) - x99).toNat < n103 → fz_R 3 mX11_cut 122 [(8, fz_i x99), (7, fz_i y95), (6, fz_i x41), (5, fz_i x42), (4, fz_i x31), (0, fz_r 53), (1, fz_i d), (2, fz_i t), (3, fz_i wh)] [] H100 (qX11_cut h d t wh) := by
                                intro n103
                                induction n103 with
                                | zero => intro x99 H100 hI101 hf102 hv107 hv108 hm106; exact absurd hm106 (by omega)
                                | succ n103 ih105 =>
                                  intro x99 H100 hI101 hf102 hv107 hv108 hm106
                                  refine fz_iload kX11_cut rfl rfl ?_
                                  refine fz_aload_n kX11_cut rfl rfl ?_
                                  refine fz_getV (v := h 53 2) kX11_cut rfl rfl (hf102 53 2 rfl) ?_
                                  refine fz_icmp_ge (tgt := 156) kX11_cut rfl (by decide) (fun c109 => ?_) (fun c109 => ?_)
                                  · refine fz_aload_n kX11_cut rfl rfl ?_
                                    refine fz_iload_n kX11_cut rfl rfl ?_
                                    refine fz_iload_n kX11_cut rfl rfl ?_
                                    refine fz_callV (d' := 2) (M' := mX11_heardAt) (As := [fz_i d, fz_i t]) (st := []) kX11_cut rfl rfl vX11_heardAt rfl rfl rfl rfl (Nat.le_of_ble_eq_true rfl) (Nat.le_of_ble_eq_true rfl) (by decide) (sX11_heardAt H100 hI101 d t (by omega) (by omega)) (fun H110 r111 q112 o113 => ?_)
                                    obtain ⟨hI114, hf115, y117, rfl, f116⟩ := q112
                                    clear o113
                                    have hf118 := fz_fr_tr hf102 hf115 (show fz_su [(86, 99999), (87, 99999)] [(58, 99999), (86, 99999), (87, 99999)] = true from rfl)
                                    refine fz_bipush ⟨by decide, by decide⟩ kX11_cut rfl ?_
                                    refine fz_icmp_ne (tgt := 171) kX11_cut rfl (by decide) (fun c119 => ?_) (fun c119 => ?_)
                                    · refine fz_iincN (ls' := [(6, fz_i (x41 + 1)), (8, fz_i x99), (7, fz_i y95), (5, fz_i x42), (4, fz_i x31), (0, fz_r 53), (1, fz_i d), (2, fz_i t), (3, fz_i wh)]) kX11_cut rfl (by decide) rfl (by omega) rfl ?_
                                      refine fz_goto (tgt := 75) kX11_cut rfl (by decide) ?_
                                      refine fz_sub (fz_pk_sub (ls' := [(6, fz_i (x41 + 1)), (5, fz_i x42), (4, fz_i x31), (0, fz_r 53), (1, fz_i d), (2, fz_i t), (3, fz_i wh)]) [0, 3, 4, 5, 6, 7, 8] rfl) ?_
                                      exact ih48 (x41 + 1) x42 H110 hI114 hf118 (by omega) (by omega) (by first | exact fz_o8_f hv108 (funext fun s => hf115 58 s rfl) | exact hv52) (by omega)
                                    · refine fz_iload kX11_cut rfl rfl ?_
                                      refine fz_istore (ls' := [(5, fz_i x41), (8, fz_i x99), (7, fz_i y95), (6, fz_i x41), (4, fz_i x31), (0, fz_r 53), (1, fz_i d), (2, fz_i t), (3, fz_i wh)]) kX11_cut rfl (by decide) rfl ?_
                                      refine fz_iincN (ls' := [(6, fz_i (x41 + 1)), (5, fz_i x41), (8, fz_i x99), (7, fz_i y95), (4, fz_i x31), (0, fz_r 53), (1, fz_i d), (2, fz_i t), (3, fz_i wh)]) kX11_cut rfl (by decide) rfl (by omega) rfl ?_
                                      refine fz_goto (tgt := 75) kX11_cut rfl (by decide) ?_
                                      refine fz_sub (fz_pk_sub (ls' := [(6, fz_i (x41 + 1)), (5, fz_i x41), (4, fz_i x31), (0, fz_r 53), (1, fz_i d), (2, fz_i t), (3, fz_i wh)]) [0, 1, 4, 5, 6, 7, 8] rfl) ?_
                                      exact ih48 (x41 + 1) x41 H110 hI114 hf118 (by omega) (by omega) (by first | exact fz_o8_f hv108 (funext fun s => hf115 58 s rfl) | exact hv52) (by omega)
                                  · refine fz_aload_n kX11_cut rfl rfl ?_
                                    refine fz_getR (t := 58) kX11_cut rfl rfl ?_
                                    refine fz_iload kX11_cut rfl rfl ?_
                                    refine fz_iload kX11_cut rfl rfl ?_
                                    refine fz_iload kX11_cut rfl rfl ?_
                                    refine fz_iconst ⟨by decide, by decide⟩ kX11_cut rfl ?_
                                    refine fz_ixor kX11_cut rfl ?_
                                    have b122 : -2147483648 ≤ (fz_xor x41 (-1)) ∧ (fz_xor x41 (-1)) < 2147483648 := fz_b32 _
                                    refine fz_iand kX11_cut rfl ?_
                                    have b124 : -2147483648 ≤ (fz_and x31 (fz_xor x41 (-1))) ∧ (fz_and x31 (fz_xor x41 (-1))) < 2147483648 := fz_b32 _
                                    refine fz_iload kX11_cut rfl rfl ?_
                                    refine fz_ishr kX11_cut rfl ?_
                                    have b126 : -2147483648 ≤ (fz_shr (fz_and x31 (fz_xor x41 (-1))) x99) ∧ (fz_shr (fz_and x31 (fz_xor x41 (-1))) x99) < 2147483648 := fz_b32 _
                                    refine fz_iconst ⟨by decide, by decide⟩ kX11_cut rfl ?_
                                    refine fz_iand kX11_cut rfl ?_
                                    have b128 : -2147483648 ≤ (fz_and (fz_shr (fz_and x31 (fz_xor x41 (-1))) x99) 1) ∧ (fz_and (fz_shr (fz_and x31 (fz_xor x41 (-1))) x99) 1) < 2147483648 := fz_b32 _
                                    have b129 : 0 ≤ (fz_and (fz_shr (fz_and x31 (fz_xor x41 (-1))) x99) 1) ∧ (fz_and (fz_shr (fz_and x31 (fz_xor x41 (-1))) x99) 1) ≤ 1 := fz_and_m (by omega) (by omega)
                                    refine fz_iast (n := 12) kX11_cut rfl rfl (by omega) (by omega) ?_
                                    refine fz_nmu (S := [(58, 99999), (86, 99999), (87, 99999)]) (h0 := h) (fz_Iv_up hI101 (by decide) (show (0 : Int) ≤ (fz_and (fz_shr (fz_and x31 (fz_xor x41 (-1))) x99) 1) by omega) (show ((fz_and (fz_shr (fz_and x31 (fz_xor x41 (-1))) x99) 1) : Int) ≤ 1 by omega)) (fz_fr_up hf102 rfl) (fun H130 hI131 hf132 e133 => ?_)
                                    refine fz_iincN (ls' := [(8, fz_i (x99 + 1)), (7, fz_i y95), (6, fz_i x41), (5, fz_i x42), (4, fz_i x31), (0, fz_r 53), (1, fz_i d), (2, fz_i t), (3, fz_i wh)]) kX11_cut rfl (by decide) rfl (by omega) rfl ?_
                                    refine fz_goto (tgt := 122) kX11_cut rfl (by decide) ?_
                                    exact ih105 (x99 + 1) H130 hI131 hf132 (by omega) (fz_o8_st hv108 e133 (by omega)) (by omega)
                              exact lp104 _ 0 H43 hI44 hf45 (by omega) (hv52) (Nat.lt_succ_self _)
                            · refine fz_iload kX11_cut rfl rfl ?_
                              refine fz_iload kX11_cut rfl rfl ?_
                              refine fz_callS (d' := 0) (M' := mJ6_bitCount_0f7a4) (As := [fz_i x42]) (st := [fz_i y95]) kX11_cut rfl rfl vJ6_bitCount_0f7a4 rfl rfl (Nat.le_of_ble_eq_true rfl) (Nat.le_of_ble_eq_true rfl) (by decide) (sJ6_bitCount_0f7a4 H43 hI44 x42 ) (fun H136 r137 q138 o139 => ?_)
                              obtain ⟨e140, y142, rfl, f141⟩ := q138
                              subst H136
                              clear o139
                              refine fz_icmp_lt (tgt := 119) kX11_cut rfl (by decide) (fun c143 => ?_) (fun c143 => ?_)
                              · refine fz_iconst ⟨by decide, by decide⟩ kX11_cut rfl ?_
                                refine fz_istore (ls' := [(8, fz_i 0), (7, fz_i y95), (6, fz_i x41), (5, fz_i x42), (4, fz_i x31), (0, fz_r 53), (1, fz_i d), (2, fz_i t), (3, fz_i wh)]) kX11_cut rfl (by decide) rfl ?_
                                have lp149 : ∀ (n148 : Nat) (x144 : Int) (H145 : fz_H), fz_Iv H145 → fz_fr [(58, 99999), (86, 99999), (87, 99999)] h H145 → (0 ≤ x144 ∧ x144 ≤ 2147483647) → (fz_o8 h H145) → ((h 53 2) - x144).toNat < n148 → fz_R 3 mX11_cut 122 [(8, fz_i x144), (7, fz_i y95), (6, fz_i x41), (5, fz_i x42), (4, fz_i x31), (0, fz_r 53), (1, fz_i d), (2, fz_i t), (3, fz_i wh)] [] H145 (qX11_cut h d t wh) := by
                                  intro n148
                                  induction n148 with
                                  | zero => intro x144 H145 hI146 hf147 hv152 hv153 hm151; exact absurd hm151 (by omega)
                                  | succ n148 ih150 =>
                                    intro x144 H145 hI146 hf147 hv152 hv153 hm151
                                    refine fz_iload kX11_cut rfl rfl ?_
                                    refine fz_aload_n kX11_cut rfl rfl ?_
                                    refine fz_getV (v := h 53 2) kX11_cut rfl rfl (hf147 53 2 rfl) ?_
                                    refine fz_icmp_ge (tgt := 156) kX11_cut rfl (by decide) (fun c154 => ?_) (fun c154 => ?_)
                                    · refine fz_aload_n kX11_cut rfl rfl ?_
                                      refine fz_iload_n kX11_cut rfl rfl ?_
                                      refine fz_iload_n kX11_cut rfl rfl ?_
                                      refine fz_callV (d' := 2) (M' := mX11_heardAt) (As := [fz_i d, fz_i t]) (st := []) kX11_cut rfl rfl vX11_heardAt rfl rfl rfl rfl (Nat.le_of_ble_eq_true rfl) (Nat.le_of_ble_eq_true rfl) (by decide) (sX11_heardAt H145 hI146 d t (by omega) (by omega)) (fun H155 r156 q157 o158 => ?_)
                                      obtain ⟨hI159, hf160, y162, rfl, f161⟩ := q157
                                      clear o158
                                      have hf163 := fz_fr_tr hf147 hf160 (show fz_su [(86, 99999), (87, 99999)] [(58, 99999), (86, 99999), (87, 99999)] = true from rfl)
                                      refine fz_bipush ⟨by decide, by decide⟩ kX11_cut rfl ?_
                                      refine fz_icmp_ne (tgt := 171) kX11_cut rfl (by decide) (fun c164 => ?_) (fun c164 => ?_)
                                      · refine fz_iincN (ls' := [(6, fz_i (x41 + 1)), (8, fz_i x144), (7, fz_i y95), (5, fz_i x42), (4, fz_i x31), (0, fz_r 53), (1, fz_i d), (2, fz_i t), (3, fz_i wh)]) kX11_cut rfl (by decide) rfl (by omega) rfl ?_
                                        refine fz_goto (tgt := 75) kX11_cut rfl (by decide) ?_
                                        refine fz_sub (fz_pk_sub (ls' := [(6, fz_i (x41 + 1)), (5, fz_i x42), (4, fz_i x31), (0, fz_r 53), (1, fz_i d), (2, fz_i t), (3, fz_i wh)]) [0, 3, 4, 5, 6, 7, 8] rfl) ?_
                                        exact ih48 (x41 + 1) x42 H155 hI159 hf163 (by omega) (by omega) (by first | exact fz_o8_f hv153 (funext fun s => hf160 58 s rfl) | exact hv52) (by omega)
                                      · refine fz_iload kX11_cut rfl rfl ?_
                                        refine fz_istore (ls' := [(5, fz_i x41), (8, fz_i x144), (7, fz_i y95), (6, fz_i x41), (4, fz_i x31), (0, fz_r 53), (1, fz_i d), (2, fz_i t), (3, fz_i wh)]) kX11_cut rfl (by decide) rfl ?_
                                        refine fz_iincN (ls' := [(6, fz_i (x41 + 1)), (5, fz_i x41), (8, fz_i x144), (7, fz_i y95), (4, fz_i x31), (0, fz_r 53), (1, fz_i d), (2, fz_i t), (3, fz_i wh)]) kX11_cut rfl (by decide) rfl (by omega) rfl ?_
                                        refine fz_goto (tgt := 75) kX11_cut rfl (by decide) ?_
                                        refine fz_sub (fz_pk_sub (ls' := [(6, fz_i (x41 + 1)), (5, fz_i x41), (4, fz_i x31), (0, fz_r 53), (1, fz_i d), (2, fz_i t), (3, fz_i wh)]) [0, 1, 4, 5, 6, 7, 8] rfl) ?_
                                        exact ih48 (x41 + 1) x41 H155 hI159 hf163 (by omega) (by omega) (by first | exact fz_o8_f hv153 (funext fun s => hf160 58 s rfl) | exact hv52) (by omega)
                                    · refine fz_aload_n kX11_cut rfl rfl ?_
                                      refine fz_getR (t := 58) kX11_cut rfl rfl ?_
                                      refine fz_iload kX11_cut rfl rfl ?_
                                      refine fz_iload kX11_cut rfl rfl ?_
                                      refine fz_iload kX11_cut rfl rfl ?_
                                      refine fz_iconst ⟨by decide, by decide⟩ kX11_cut rfl ?_
                                      refine fz_ixor kX11_cut rfl ?_
                                      have b167 : -2147483648 ≤ (fz_xor x41 (-1)) ∧ (fz_xor x41 (-1)) < 2147483648 := fz_b32 _
                                      refine fz_iand kX11_cut rfl ?_
                                      have b169 : -2147483648 ≤ (fz_and x31 (fz_xor x41 (-1))) ∧ (fz_and x31 (fz_xor x41 (-1))) < 2147483648 := fz_b32 _
                                      refine fz_iload kX11_cut rfl rfl ?_
                                      refine fz_ishr kX11_cut rfl ?_
                                      have b171 : -2147483648 ≤ (fz_shr (fz_and x31 (fz_xor x41 (-1))) x144) ∧ (fz_shr (fz_and x31 (fz_xor x41 (-1))) x144) < 2147483648 := fz_b32 _
                                      refine fz_iconst ⟨by decide, by decide⟩ kX11_cut rfl ?_
                                      refine fz_iand kX11_cut rfl ?_
                                      have b173 : -2147483648 ≤ (fz_and (fz_shr (fz_and x31 (fz_xor x41 (-1))) x144) 1) ∧ (fz_and (fz_shr (fz_and x31 (fz_xor x41 (-1))) x144) 1) < 2147483648 := fz_b32 _
                                      have b174 : 0 ≤ (fz_and (fz_shr (fz_and x31 (fz_xor x41 (-1))) x144) 1) ∧ (fz_and (fz_shr (fz_and x31 (fz_xor x41 (-1))) x144) 1) ≤ 1 := fz_and_m (by omega) (by omega)
                                      refine fz_iast (n := 12) kX11_cut rfl rfl (by omega) (by omega) ?_
                                      refine fz_nmu (S := [(58, 99999), (86, 99999), (87, 99999)]) (h0 := h) (fz_Iv_up hI146 (by decide) (show (0 : Int) ≤ (fz_and (fz_shr (fz_and x31 (fz_xor x41 (-1))) x144) 1) by omega) (show ((fz_and (fz_shr (fz_and x31 (fz_xor x41 (-1))) x144) 1) : Int) ≤ 1 by omega)) (fz_fr_up hf147 rfl) (fun H175 hI176 hf177 e178 => ?_)
                                      refine fz_iincN (ls' := [(8, fz_i (x144 + 1)), (7, fz_i y95), (6, fz_i x41), (5, fz_i x42), (4, fz_i x31), (0, fz_r 53), (1, fz_i d), (2, fz_i t), (3, fz_i wh)]) kX11_cut rfl (by decide) rfl (by omega) rfl ?_
                                      refine fz_goto (tgt := 122) kX11_cut rfl (by decide) ?_
                                      exact ih150 (x144 + 1) H175 hI176 hf177 (by omega) (fz_o8_st hv153 e178 (by omega)) (by omega)
                                exact lp149 _ 0 H43 hI44 hf45 (by omega) (hv52) (Nat.lt_succ_self _)
                              · refine fz_goto (tgt := 171) kX11_cut rfl (by decide) ?_
                                refine fz_iincN (ls' := [(6, fz_i (x41 + 1)), (7, fz_i y95), (5, fz_i x42), (4, fz_i x31), (0, fz_r 53), (1, fz_i d), (2, fz_i t), (3, fz_i wh)]) kX11_cut rfl (by decide) rfl (by omega) rfl ?_
                                refine fz_goto (tgt := 75) kX11_cut rfl (by decide) ?_
                                refine fz_sub (fz_pk_sub (ls' := [(6, fz_i (x41 + 1)), (5, fz_i x42), (4, fz_i x31), (0, fz_r 53), (1, fz_i d), (2, fz_i t), (3, fz_i wh)]) [0, 2, 3, 4, 5, 6, 7] rfl) ?_
                                exact ih48 (x41 + 1) x42 H43 hI44 hf45 (by omega) (by omega) (by first | exact fz_o8_f lost (funext fun s => lost 58 s rfl) | exact hv52) (by omega)
                    exact lp47 _ 0 (-2) h hI hf (by omega) (by omega) (fz_o8_z) (Nat.lt_succ_self _)
                  · refine fz_aload_n kX11_cut rfl rfl ?_
                    refine fz_getR (t := 58) kX11_cut rfl rfl ?_
                    refine fz_iload kX11_cut rfl rfl ?_
                    refine fz_ialdV (n := 12) (v := h 58 (x30.toNat)) kX11_cut rfl rfl (by omega) (by omega) rfl ?_
                    have b183 : 0 ≤ h 58 (x30.toNat) ∧ h 58 (x30.toNat) ≤ 1 := hI.1 58 _
                    refine fz_iconst ⟨by decide, by decide⟩ kX11_cut rfl ?_
                    refine fz_icmp_ne (tgt := 62) kX11_cut rfl (by decide) (fun c184 => ?_) (fun c184 => ?_)
                    · refine fz_iincN (ls' := [(5, fz_i (x30 + 1)), (4, fz_i x31), (0, fz_r 53), (1, fz_i d), (2, fz_i t), (3, fz_i wh)]) kX11_cut rfl (by decide) rfl (by omega) rfl ?_
                      refine fz_goto (tgt := 33) kX11_cut rfl (by decide) ?_
                      exact ih34 (x30 + 1) x31 (by omega) (by omega) (by first | exact fz_cb_1 hv38 (by omega) (by omega) | exact fz_cb_0 hv38 (by omega) (by omega)) (by omega)
                    · refine fz_iload kX11_cut rfl rfl ?_
                      refine fz_iconst ⟨by decide, by decide⟩ kX11_cut rfl ?_
                      refine fz_iload kX11_cut rfl rfl ?_
                      refine fz_ishl kX11_cut rfl ?_
                      have b186 : -2147483648 ≤ (fz_shl 1 x30) ∧ (fz_shl 1 x30) < 2147483648 := fz_b32 _
                      refine fz_ior kX11_cut rfl ?_
                      have b188 : -2147483648 ≤ (fz_or x31 (fz_shl 1 x30)) ∧ (fz_or x31 (fz_shl 1 x30)) < 2147483648 := fz_b32 _
                      refine fz_istore (ls' := [(4, fz_i (fz_or x31 (fz_shl 1 x30))), (5, fz_i x30), (0, fz_r 53), (1, fz_i d), (2, fz_i t), (3, fz_i wh)]) kX11_cut rfl (by decide) rfl ?_
                      refine fz_iincN (ls' := [(5, fz_i (x30 + 1)), (4, fz_i (fz_or x31 (fz_shl 1 x30))), (0, fz_r 53), (1, fz_i d), (2, fz_i t), (3, fz_i wh)]) kX11_cut rfl (by decide) rfl (by omega) rfl ?_
                      refine fz_goto (tgt := 33) kX11_cut rfl (by decide) ?_
                      exact ih34 (x30 + 1) (fz_or x31 (fz_shl 1 x30)) (by omega) (by omega) (by first | exact fz_cb_1 hv38 (by omega) (by omega) | exact fz_cb_0 hv38 (by omega) (by omega)) (by omega)
              exact lp33 _ 0 0 (by omega) (by omega) (fz_cb_z rfl) (Nat.lt_succ_self _)
            · exfalso; omega
          · refine fz_if_ne (tgt := 27) kX11_cut rfl (by decide) (fun c192 => ?_) (fun c192 => ?_)
            · exfalso; omega
            · refine fz_iconst ⟨by decide, by decide⟩ kX11_cut rfl ?_
              exact fz_iret kX11_cut rfl rfl (fun _ => ⟨hI, hf, _, rfl, (by omega), (by first | rfl | exact fz_rs_e lost (by omega))⟩)
      · refine fz_if_eq (tgt := 25) kX11_cut rfl (by decide) (fun c194 => ?_) (fun c194 => ?_)
        · refine fz_iconst ⟨by decide, by decide⟩ kX11_cut rfl ?_
          exact fz_iret kX11_cut rfl rfl (fun _ => ⟨hI, hf, _, rfl, (by omega), (by first | rfl | exact fz_rs_e lost (by omega))⟩)
        · exfalso; omega
  · refine fz_if_eq (tgt := 25) kX11_cut rfl (by decide) (fun c196 => ?_) (fun c196 => ?_)
    · refine fz_iconst ⟨by decide, by decide⟩ kX11_cut rfl ?_
      exact fz_iret kX11_cut rfl rfl (fun _ => ⟨hI, hf, _, rfl, (by omega), (by first | rfl | exact fz_rs_e lost (by omega))⟩)
    · exfalso; omega

abbrev qX11_isFree (h : fz_H) (pe hr : Int) : fz_H → Option fz_V → Prop := fun h' r0 => fz_Iv h' ∧ fz_fr [(74, 99999), (75, 99999)] h h' ∧ fz_Xw h' ∧ ∃ r : Int, r0 = some (fz_i r) ∧ (r = 0 ∨ r = 1)
set_option maxHeartbeats 1000000 in
set_option maxRecDepth 100000 in
theorem sX11_isFree (h : fz_H) (hI : fz_Iv h) (pe hr : Int) (hXw : fz_Xw h) : fz_R 5 mX11_isFree 0 [(0, fz_r 53), (1, fz_i pe), (2, fz_i hr)] [] h (qX11_isFree h pe hr) := by
  refine fz_knowl (fun hk => ?_)
  have hr_pe : -2147483648 ≤ pe ∧ pe < 2147483648 := hk _ (List.Mem.tail _ (List.Mem.head _))
  have hr_hr : -2147483648 ≤ hr ∧ hr < 2147483648 := hk _ (List.Mem.tail _ (List.Mem.tail _ (List.Mem.head _)))
  clear hk
  have hf : fz_fr [(74, 99999), (75, 99999)] h h := fz_fr_rf
  refine fz_iconst ⟨by decide, by decide⟩ kX11_isFree rfl ?_
  refine fz_istore_n (ls' := [(3, fz_i 0), (0, fz_r 53), (1, fz_i pe), (2, fz_i hr)]) kX11_isFree rfl (by decide) rfl ?_
  have lp7 : ∀ (n6 : Nat) (x1 : Int) (H3 : fz_H), fz_Iv H3 → fz_fr [(74, 99999), (75, 99999)] h H3 → fz_Xw H3 → (0 ≤ x1 ∧ x1 ≤ 2147483647) → ((h 53 0) - x1).toNat < n6 → fz_R 5 mX11_isFree 2 [(3, fz_i x1), (0, fz_r 53), (1, fz_i pe), (2, fz_i hr)] [] H3 (qX11_isFree h pe hr) := by
    intro n6
    induction n6 with
    | zero => intro x1 H3 hI4 hf5 hXw2 hv10 hm9; exact absurd hm9 (by omega)
    | succ n6 ih8 =>
      intro x1 H3 hI4 hf5 hXw2 hv10 hm9
      refine fz_iload_n kX11_isFree rfl rfl ?_
      refine fz_aload_n kX11_isFree rfl rfl ?_
      refine fz_getV (v := h 53 0) kX11_isFree rfl rfl (hf5 53 0 rfl) ?_
      have b11 : 0 ≤ h 53 0 ∧ h 53 0 ≤ 8 := hI.1 53 _
      refine fz_icmp_ge (tgt := 28) kX11_isFree rfl (by decide) (fun c12 => ?_) (fun c12 => ?_)
      · refine fz_iconst ⟨by decide, by decide⟩ kX11_isFree rfl ?_
        exact fz_zret kX11_isFree rfl rfl (by omega) ⟨hI4, hf5, hXw2, _, rfl, (by omega)⟩
      · refine fz_aload_n kX11_isFree rfl rfl ?_
        refine fz_iload_n kX11_isFree rfl rfl ?_
        refine fz_iload_n kX11_isFree rfl rfl ?_
        refine fz_iload_n kX11_isFree rfl rfl ?_
        refine fz_callV (d' := 4) (M' := mX11_isArrested) (As := [fz_i pe, fz_i x1, fz_i hr]) (st := []) kX11_isFree rfl rfl vX11_isArrested rfl rfl rfl rfl (Nat.le_of_ble_eq_true rfl) (Nat.le_of_ble_eq_true rfl) (by decide) (sX11_isArrested H3 hI4 pe x1 hr hXw2 (by omega)) (fun H13 r14 q15 o16 => ?_)
        obtain ⟨hI17, hf18, hXw19, y20, rfl, p21⟩ := q15
        clear o16
        have hf22 := fz_fr_tr hf5 hf18 (show fz_su [(74, 99999), (75, 99999)] [(74, 99999), (75, 99999)] = true from rfl)
        refine fz_if_eq (tgt := 22) kX11_isFree rfl (by decide) (fun c23 => ?_) (fun c23 => ?_)
        · refine fz_iincN (ls' := [(3, fz_i (x1 + 1)), (0, fz_r 53), (1, fz_i pe), (2, fz_i hr)]) kX11_isFree rfl (by decide) rfl (by omega) rfl ?_
          refine fz_goto (tgt := 2) kX11_isFree rfl (by decide) ?_
          exact ih8 (x1 + 1) H13 hI17 hf22 hXw19 (by omega) (by omega)
        · refine fz_iconst ⟨by decide, by decide⟩ kX11_isFree rfl ?_
          exact fz_zret kX11_isFree rfl rfl (by omega) ⟨hI17, hf22, hXw19, _, rfl, (by omega)⟩
  exact lp7 _ 0 h hI hf hXw (by omega) (Nat.lt_succ_self _)

abbrev qX11_free (h : fz_H) (on hr wh : Int) : fz_H → Option fz_V → Prop := fun h' r0 => fz_Iv h' ∧ fz_fr [(60, 99999), (74, 99999), (75, 99999), (86, 99999), (87, 99999), (88, 99999)] h h' ∧ fz_Xw h' ∧ ∃ r : Int, r0 = some (fz_i r) ∧ ((-2147483648) ≤ r ∧ r ≤ 2147483647) ∧ (h' 60 = h 60)
set_option maxHeartbeats 1000000 in
set_option maxRecDepth 100000 in
theorem sX11_free (h : fz_H) (hI : fz_Iv h) (on hr wh : Int) (hXw : fz_Xw h) : fz_R 6 mX11_free 0 [(0, fz_r 53), (1, fz_i on), (2, fz_i hr), (3, fz_i wh)] [] h (qX11_free h on hr wh) := by
  refine fz_knowl (fun hk => ?_)
  have hr_on : -2147483648 ≤ on ∧ on < 2147483648 := hk _ (List.Mem.tail _ (List.Mem.head _))
  have hr_hr : -2147483648 ≤ hr ∧ hr < 2147483648 := hk _ (List.Mem.tail _ (List.Mem.tail _ (List.Mem.head _)))
  have hr_wh : -2147483648 ≤ wh ∧ wh < 2147483648 := hk _ (List.Mem.tail _ (List.Mem.tail _ (List.Mem.tail _ (List.Mem.head _))))
  clear hk
  have hf : fz_fr [(60, 99999), (74, 99999), (75, 99999), (86, 99999), (87, 99999), (88, 99999)] h h := fz_fr_rf
  refine fz_iload_n kX11_free rfl rfl ?_
  refine fz_callS (d' := 1) (M' := mX11_isPerson) (As := [fz_i on]) (st := []) kX11_free rfl rfl vX11_isPerson rfl rfl (Nat.le_of_ble_eq_true rfl) (Nat.le_of_ble_eq_true rfl) (by decide) (sX11_isPerson h hI on ) (fun H1 r2 q3 o4 => ?_)
  obtain ⟨e5, y6, rfl, p7⟩ := q3
  subst H1
  clear o4
  rcases p7 with ⟨rfl, c8⟩ | ⟨rfl, c8⟩
  · refine fz_if_eq (tgt := 23) kX11_free rfl (by decide) (fun c9 => ?_) (fun c9 => ?_)
    · exfalso; omega
    · refine fz_iload_n kX11_free rfl rfl ?_
      refine fz_callS (d' := 1) (M' := mX11_isHour) (As := [fz_i hr]) (st := []) kX11_free rfl rfl vX11_isHour rfl rfl (Nat.le_of_ble_eq_true rfl) (Nat.le_of_ble_eq_true rfl) (by decide) (sX11_isHour h hI hr ) (fun H10 r11 q12 o13 => ?_)
      obtain ⟨e14, y15, rfl, p16⟩ := q12
      subst H10
      clear o13
      rcases p16 with ⟨rfl, c17⟩ | ⟨rfl, c17⟩
      · refine fz_if_eq (tgt := 23) kX11_free rfl (by decide) (fun c18 => ?_) (fun c18 => ?_)
        · exfalso; omega
        · refine fz_iload_n kX11_free rfl rfl ?_
          refine fz_iconst ⟨by decide, by decide⟩ kX11_free rfl ?_
          refine fz_iconst ⟨by decide, by decide⟩ kX11_free rfl ?_
          refine fz_callS (d' := 0) (M' := mX11_within) (As := [fz_i wh, fz_i 0, fz_i 1]) (st := []) kX11_free rfl rfl vX11_within rfl rfl (Nat.le_of_ble_eq_true rfl) (Nat.le_of_ble_eq_true rfl) (by decide) (sX11_within h hI wh 0 1 ) (fun H19 r20 q21 o22 => ?_)
          obtain ⟨e23, y24, rfl, p25⟩ := q21
          subst H19
          clear o22
          rcases p25 with ⟨rfl, c26⟩ | ⟨rfl, c26⟩
          · refine fz_if_ne (tgt := 25) kX11_free rfl (by decide) (fun c27 => ?_) (fun c27 => ?_)
            · refine fz_aload_n kX11_free rfl rfl ?_
              refine fz_callV (d' := 3) (M' := mX11_allHear) (As := []) (st := []) kX11_free rfl rfl vX11_allHear rfl rfl rfl rfl (Nat.le_of_ble_eq_true rfl) (Nat.le_of_ble_eq_true rfl) (by decide) (sX11_allHear h hI  ) (fun H28 r29 q30 o31 => ?_)
              obtain ⟨hI32, hf33, rfl⟩ := q30
              clear o31
              have hf34 := fz_fr_tr hf hf33 (show fz_su [(86, 99999), (87, 99999), (88, 99999)] [(60, 99999), (74, 99999), (75, 99999), (86, 99999), (87, 99999), (88, 99999)] = true from rfl)
              have hXw35 : fz_Xw H28 := fz_Xw_eq (hf33 53 19 rfl) (funext fun s => hf33 66 s rfl) (funext fun s => hf33 67 s rfl) (funext fun s => hf33 68 s rfl) (funext fun s => hf33 69 s rfl) hXw
              have t36 : H28 53 10 = h 53 10 := hf33 53 10 rfl
              refine fz_aload_n kX11_free rfl rfl ?_
              refine fz_iload_n kX11_free rfl rfl ?_
              have b37 : 0 ≤ h 53 10 ∧ h 53 10 ≤ 11 := hI.1 53 _
              have e38 : H28 53 10 = h 53 10 := hf34 53 10 rfl
              refine fz_callV (d' := 0) (M' := mX11_deedsOf) (As := [fz_i on]) (st := []) kX11_free rfl rfl vX11_deedsOf rfl rfl rfl rfl (Nat.le_of_ble_eq_true rfl) (Nat.le_of_ble_eq_true rfl) (by decide) (sX11_deedsOf H28 hI32 on ) (fun H39 r40 q41 o42 => ?_)
              obtain ⟨e43, y47, rfl, f44, f45, f46⟩ := q41
              subst H39
              clear o42
              refine fz_istore (ls' := [(4, fz_i y47), (0, fz_r 53), (1, fz_i on), (2, fz_i hr), (3, fz_i wh)]) kX11_free rfl (by decide) rfl ?_
              refine fz_bipush ⟨by decide, by decide⟩ kX11_free rfl ?_
              refine fz_istore (ls' := [(5, fz_i (-2)), (4, fz_i y47), (0, fz_r 53), (1, fz_i on), (2, fz_i hr), (3, fz_i wh)]) kX11_free rfl (by decide) rfl ?_
              refine fz_iconst ⟨by decide, by decide⟩ kX11_free rfl ?_
              refine fz_istore (ls' := [(6, fz_i 0), (5, fz_i (-2)), (4, fz_i y47), (0, fz_r 53), (1, fz_i on), (2, fz_i hr), (3, fz_i wh)]) kX11_free rfl (by decide) rfl ?_
              have lp55 : ∀ (n54 : Nat) (x48 : Int) (x49 : Int) (H51 : fz_H), fz_Iv H51 → fz_fr [(60, 99999), (74, 99999), (75, 99999), (86, 99999), (87, 99999), (88, 99999)] h H51 → fz_Xw H51 → (0 ≤ x48 ∧ x48 ≤ 2147483647) → ((-2147483648) ≤ x49 ∧ x49 ≤ 2147483647) → (H51 53 10 = h 53 10) → (H51 60 = h 60) → (y47 + 1 - x48).toNat < n54 → fz_R 6 mX11_free 43 [(6, fz_i x48), (5, fz_i x49), (4, fz_i y47), (0, fz_r 53), (1, fz_i on), (2, fz_i hr), (3, fz_i wh)] [] H51 (qX11_free h on hr wh) := by
                intro n54
                induction n54 with
                | zero => intro x48 x49 H51 hI52 hf53 hXw50 hv58 hv59 hv60 hv61 hm57; exact absurd hm57 (by omega)
                | succ n54 ih56 =>
                  intro x48 x49 H51 hI52 hf53 hXw50 hv58 hv59 hv60 hv61 hm57
                  refine fz_iload kX11_free rfl rfl ?_
                  refine fz_iload kX11_free rfl rfl ?_
                  refine fz_icmp_gt (tgt := 117) kX11_free rfl (by decide) (fun c62 => ?_) (fun c62 => ?_)
                  · refine fz_iload_n kX11_free rfl rfl ?_
                    refine fz_iconst ⟨by decide, by decide⟩ kX11_free rfl ?_
                    refine fz_icmp_ne (tgt := 127) kX11_free rfl (by decide) (fun c63 => ?_) (fun c63 => ?_)
                    · refine fz_iload kX11_free rfl rfl ?_
                      refine fz_callS (d' := 0) (M' := mJ6_bitCount_0f7a4) (As := [fz_i x49]) (st := []) kX11_free rfl rfl vJ6_bitCount_0f7a4 rfl rfl (Nat.le_of_ble_eq_true rfl) (Nat.le_of_ble_eq_true rfl) (by decide) (sJ6_bitCount_0f7a4 H51 hI52 x49 ) (fun H64 r65 q66 o67 => ?_)
                      obtain ⟨e68, y70, rfl, f69⟩ := q66
                      subst H64
                      clear o67
                      exact fz_iret kX11_free rfl rfl (fun _ => ⟨hI52, hf53, hXw50, _, rfl, (by omega), (by first | exact hv61 | rfl)⟩)
                    · refine fz_iload kX11_free rfl rfl ?_
                      refine fz_goto (tgt := 132) kX11_free rfl (by decide) ?_
                      exact fz_iret kX11_free rfl rfl (fun _ => ⟨hI52, hf53, hXw50, _, rfl, (by omega), (by first | exact hv61 | rfl)⟩)
                  · refine fz_iload kX11_free rfl rfl ?_
                    refine fz_iload kX11_free rfl rfl ?_
                    refine fz_iconst ⟨by decide, by decide⟩ kX11_free rfl ?_
                    refine fz_ixor kX11_free rfl ?_
                    have b73 : -2147483648 ≤ (fz_xor y47 (-1)) ∧ (fz_xor y47 (-1)) < 2147483648 := fz_b32 _
                    refine fz_iand kX11_free rfl ?_
                    have b74 : -2147483648 ≤ (fz_and x48 (fz_xor y47 (-1))) ∧ (fz_and x48 (fz_xor y47 (-1))) < 2147483648 := fz_b32 _
                    refine fz_if_ne (tgt := 111) kX11_free rfl (by decide) (fun c75 => ?_) (fun c75 => ?_)
                    · refine fz_iincN (ls' := [(6, fz_i (x48 + 1)), (5, fz_i x49), (4, fz_i y47), (0, fz_r 53), (1, fz_i on), (2, fz_i hr), (3, fz_i wh)]) kX11_free rfl (by decide) rfl (by omega) rfl ?_
                      refine fz_goto (tgt := 43) kX11_free rfl (by decide) ?_
                      exact ih56 (x48 + 1) x49 H51 hI52 hf53 hXw50 (by omega) (by omega) (by omega) (by first | exact fz_fg_back hv61 lost (funext fun s => lost 60 s rfl) lost (funext fun s => hf33 60 s rfl) f46 (by omega) (by omega) (by omega) (fun _ _ z => z) (fun _ hd z => fz_bt_sub lost hd z) | exact hv61) (by omega)
                    · refine fz_iload kX11_free rfl rfl ?_
                      refine fz_bipush ⟨by decide, by decide⟩ kX11_free rfl ?_
                      refine fz_icmp_eq (tgt := 83) kX11_free rfl (by decide) (fun c77 => ?_) (fun c77 => ?_)
                      · have k78 : fz_and x48 (fz_xor y47 (-1)) = 0 := by omega
                        refine fz_aload_n kX11_free rfl rfl ?_
                        refine fz_iload kX11_free rfl rfl ?_
                        refine fz_bipush ⟨by decide, by decide⟩ kX11_free rfl ?_
                        have b80 : 0 ≤ h 53 10 ∧ h 53 10 ≤ 11 := hI.1 53 _
                        have e81 : H51 53 10 = h 53 10 := hf53 53 10 rfl
                        refine fz_callV (d' := 0) (M' := mX11_forgets) (As := [fz_i x48, fz_i (-2)]) (st := []) kX11_free rfl rfl vX11_forgets rfl rfl rfl rfl (Nat.le_of_ble_eq_true rfl) (Nat.le_of_ble_eq_true rfl) (by decide) (sX11_forgets H51 hI52 x48 (-2) ) (fun H82 r83 q84 o85 => ?_)
                        obtain ⟨hI86, hf87, rfl, f88⟩ := q84
                        clear o85
                        have hf89 := fz_fr_tr hf53 hf87 (show fz_su [(60, 99999)] [(60, 99999), (74, 99999), (75, 99999), (86, 99999), (87, 99999), (88, 99999)] = true from rfl)
                        have hXw90 : fz_Xw H82 := fz_Xw_eq (hf87 53 19 rfl) (funext fun s => hf87 66 s rfl) (funext fun s => hf87 67 s rfl) (funext fun s => hf87 68 s rfl) (funext fun s => hf87 69 s rfl) hXw50
                        have t91 : H82 53 10 = H51 53 10 := hf87 53 10 rfl
                        refine fz_aload_n kX11_free rfl rfl ?_
                        refine fz_iload_n kX11_free rfl rfl ?_
                        refine fz_iload_n kX11_free rfl rfl ?_
                        refine fz_callV (d' := 5) (M' := mX11_isFree) (As := [fz_i on, fz_i hr]) (st := []) kX11_free rfl rfl vX11_isFree rfl rfl rfl rfl (Nat.le_of_ble_eq_true rfl) (Nat.le_of_ble_eq_true rfl) (by decide) (sX11_isFree H82 hI86 on hr hXw90) (fun H92 r93 q94 o95 => ?_)
                        obtain ⟨hI96, hf97, hXw98, y99, rfl, p100⟩ := q94
                        clear o95
                        have hf101 := fz_fr_tr hf89 hf97 (show fz_su [(74, 99999), (75, 99999)] [(60, 99999), (74, 99999), (75, 99999), (86, 99999), (87, 99999), (88, 99999)] = true from rfl)
                        have t102 : H92 53 10 = H82 53 10 := hf97 53 10 rfl
                        refine fz_if_eq (tgt := 104) kX11_free rfl (by decide) (fun c103 => ?_) (fun c103 => ?_)
                        · refine fz_aload_n kX11_free rfl rfl ?_
                          refine fz_iload kX11_free rfl rfl ?_
                          refine fz_iload_n kX11_free rfl rfl ?_
                          have e104 : H92 53 10 = h 53 10 := hf101 53 10 rfl
                          refine fz_callV (d' := 0) (M' := mX11_forgets) (As := [fz_i x48, fz_i on]) (st := []) kX11_free rfl rfl vX11_forgets rfl rfl rfl rfl (Nat.le_of_ble_eq_true rfl) (Nat.le_of_ble_eq_true rfl) (by decide) (sX11_forgets H92 hI96 x48 on ) (fun H105 r106 q107 o108 => ?_)
                          obtain ⟨hI109, hf110, rfl, f111⟩ := q107
                          clear o108
                          have hf112 := fz_fr_tr hf101 hf110 (show fz_su [(60, 99999)] [(60, 99999), (74, 99999), (75, 99999), (86, 99999), (87, 99999), (88, 99999)] = true from rfl)
                          have hXw113 : fz_Xw H105 := fz_Xw_eq (hf110 53 19 rfl) (funext fun s => hf110 66 s rfl) (funext fun s => hf110 67 s rfl) (funext fun s => hf110 68 s rfl) (funext fun s => hf110 69 s rfl) hXw98
                          have t114 : H105 53 10 = H92 53 10 := hf110 53 10 rfl
                          refine fz_iincN (ls' := [(6, fz_i (x48 + 1)), (5, fz_i x49), (4, fz_i y47), (0, fz_r 53), (1, fz_i on), (2, fz_i hr), (3, fz_i wh)]) kX11_free rfl (by decide) rfl (by omega) rfl ?_
                          refine fz_goto (tgt := 43) kX11_free rfl (by decide) ?_
                          exact ih56 (x48 + 1) x49 H105 hI109 hf112 hXw113 (by omega) (by omega) (by omega) (by first | exact fz_fg_back hv61 f88 (funext fun s => hf97 60 s rfl) f111 (funext fun s => hf33 60 s rfl) f46 (by omega) (by omega) (by omega) (fun _ _ z => z) (fun _ hd z => fz_bt_sub k78 hd z) | exact hv61) (by omega)
                        · refine fz_iload kX11_free rfl rfl ?_
                          refine fz_istore (ls' := [(5, fz_i x48), (6, fz_i x48), (4, fz_i y47), (0, fz_r 53), (1, fz_i on), (2, fz_i hr), (3, fz_i wh)]) kX11_free rfl (by decide) rfl ?_
                          refine fz_aload_n kX11_free rfl rfl ?_
                          refine fz_iload kX11_free rfl rfl ?_
                          refine fz_iload_n kX11_free rfl rfl ?_
                          have e116 : H92 53 10 = h 53 10 := hf101 53 10 rfl
                          refine fz_callV (d' := 0) (M' := mX11_forgets) (As := [fz_i x48, fz_i on]) (st := []) kX11_free rfl rfl vX11_forgets rfl rfl rfl rfl (Nat.le_of_ble_eq_true rfl) (Nat.le_of_ble_eq_true rfl) (by decide) (sX11_forgets H92 hI96 x48 on ) (fun H117 r118 q119 o120 => ?_)
                          obtain ⟨hI121, hf122, rfl, f123⟩ := q119
                          clear o120
                          have hf124 := fz_fr_tr hf101 hf122 (show fz_su [(60, 99999)] [(60, 99999), (74, 99999), (75, 99999), (86, 99999), (87, 99999), (88, 99999)] = true from rfl)
                          have hXw125 : fz_Xw H117 := fz_Xw_eq (hf122 53 19 rfl) (funext fun s => hf122 66 s rfl) (funext fun s => hf122 67 s rfl) (funext fun s => hf122 68 s rfl) (funext fun s => hf122 69 s rfl) hXw98
                          have t126 : H117 53 10 = H92 53 10 := hf122 53 10 rfl
                          refine fz_iincN (ls' := [(6, fz_i (x48 + 1)), (5, fz_i x48), (4, fz_i y47), (0, fz_r 53), (1, fz_i on), (2, fz_i hr), (3, fz_i wh)]) kX11_free rfl (by decide) rfl (by omega) rfl ?_
                          refine fz_goto (tgt := 43) kX11_free rfl (by decide) ?_
                          exact ih56 (x48 + 1) x48 H117 hI121 hf124 hXw125 (by omega) (by omega) (by omega) (by first | exact fz_fg_back hv61 f88 (funext fun s => hf97 60 s rfl) f123 (funext fun s => hf33 60 s rfl) f46 (by omega) (by omega) (by omega) (fun _ _ z => z) (fun _ hd z => fz_bt_sub k78 hd z) | exact hv61) (by omega)
                      · refine fz_iload kX11_free rfl rfl ?_
                        refine fz_callS (d' := 0) (M' := mJ6_bitCount_0f7a4) (As := [fz_i x48]) (st := []) kX11_free rfl rfl vJ6_bitCount_0f7a4 rfl rfl (Nat.le_of_ble_eq_true rfl) (Nat.le_of_ble_eq_true rfl) (by decide) (sJ6_bitCount_0f7a4 H51 hI52 x48 ) (fun H128 r129 q130 o131 => ?_)
                        obtain ⟨e132, y134, rfl, f133⟩ := q130
                        subst H128
                        clear o131
                        refine fz_iload kX11_free rfl rfl ?_
                        refine fz_callS (d' := 0) (M' := mJ6_bitCount_0f7a4) (As := [fz_i x49]) (st := [fz_i y134]) kX11_free rfl rfl vJ6_bitCount_0f7a4 rfl rfl (Nat.le_of_ble_eq_true rfl) (Nat.le_of_ble_eq_true rfl) (by decide) (sJ6_bitCount_0f7a4 H51 hI52 x49 ) (fun H135 r136 q137 o138 => ?_)
                        obtain ⟨e139, y141, rfl, f140⟩ := q137
                        subst H135
                        clear o138
                        refine fz_icmp_lt (tgt := 83) kX11_free rfl (by decide) (fun c142 => ?_) (fun c142 => ?_)
                        · have k143 : fz_and x48 (fz_xor y47 (-1)) = 0 := by omega
                          refine fz_aload_n kX11_free rfl rfl ?_
                          refine fz_iload kX11_free rfl rfl ?_
                          refine fz_bipush ⟨by decide, by decide⟩ kX11_free rfl ?_
                          have b145 : 0 ≤ h 53 10 ∧ h 53 10 ≤ 11 := hI.1 53 _
                          have e146 : H51 53 10 = h 53 10 := hf53 53 10 rfl
                          refine fz_callV (d' := 0) (M' := mX11_forgets) (As := [fz_i x48, fz_i (-2)]) (st := []) kX11_free rfl rfl vX11_forgets rfl rfl rfl rfl (Nat.le_of_ble_eq_true rfl) (Nat.le_of_ble_eq_true rfl) (by decide) (sX11_forgets H51 hI52 x48 (-2) ) (fun H147 r148 q149 o150 => ?_)
                          obtain ⟨hI151, hf152, rfl, f153⟩ := q149
                          clear o150
                          have hf154 := fz_fr_tr hf53 hf152 (show fz_su [(60, 99999)] [(60, 99999), (74, 99999), (75, 99999), (86, 99999), (87, 99999), (88, 99999)] = true from rfl)
                          have hXw155 : fz_Xw H147 := fz_Xw_eq (hf152 53 19 rfl) (funext fun s => hf152 66 s rfl) (funext fun s => hf152 67 s rfl) (funext fun s => hf152 68 s rfl) (funext fun s => hf152 69 s rfl) hXw50
                          have t156 : H147 53 10 = H51 53 10 := hf152 53 10 rfl
                          refine fz_aload_n kX11_free rfl rfl ?_
                          refine fz_iload_n kX11_free rfl rfl ?_
                          refine fz_iload_n kX11_free rfl rfl ?_
                          refine fz_callV (d' := 5) (M' := mX11_isFree) (As := [fz_i on, fz_i hr]) (st := []) kX11_free rfl rfl vX11_isFree rfl rfl rfl rfl (Nat.le_of_ble_eq_true rfl) (Nat.le_of_ble_eq_true rfl) (by decide) (sX11_isFree H147 hI151 on hr hXw155) (fun H157 r158 q159 o160 => ?_)
                          obtain ⟨hI161, hf162, hXw163, y164, rfl, p165⟩ := q159
                          clear o160
                          have hf166 := fz_fr_tr hf154 hf162 (show fz_su [(74, 99999), (75, 99999)] [(60, 99999), (74, 99999), (75, 99999), (86, 99999), (87, 99999), (88, 99999)] = true from rfl)
                          have t167 : H157 53 10 = H147 53 10 := hf162 53 10 rfl
                          refine fz_if_eq (tgt := 104) kX11_free rfl (by decide) (fun c168 => ?_) (fun c168 => ?_)
                          · refine fz_aload_n kX11_free rfl rfl ?_
                            refine fz_iload kX11_free rfl rfl ?_
                            refine fz_iload_n kX11_free rfl rfl ?_
                            have e169 : H157 53 10 = h 53 10 := hf166 53 10 rfl
                            refine fz_callV (d' := 0) (M' := mX11_forgets) (As := [fz_i x48, fz_i on]) (st := []) kX11_free rfl rfl vX11_forgets rfl rfl rfl rfl (Nat.le_of_ble_eq_true rfl) (Nat.le_of_ble_eq_true rfl) (by decide) (sX11_forgets H157 hI161 x48 on ) (fun H170 r171 q172 o173 => ?_)
                            obtain ⟨hI174, hf175, rfl, f176⟩ := q172
                            clear o173
                            have hf177 := fz_fr_tr hf166 hf175 (show fz_su [(60, 99999)] [(60, 99999), (74, 99999), (75, 99999), (86, 99999), (87, 99999), (88, 99999)] = true from rfl)
                            have hXw178 : fz_Xw H170 := fz_Xw_eq (hf175 53 19 rfl) (funext fun s => hf175 66 s rfl) (funext fun s => hf175 67 s rfl) (funext fun s => hf175 68 s rfl) (funext fun s => hf175 69 s rfl) hXw163
                            have t179 : H170 53 10 = H157 53 10 := hf175 53 10 rfl
                            refine fz_iincN (ls' := [(6, fz_i (x48 + 1)), (5, fz_i x49), (4, fz_i y47), (0, fz_r 53), (1, fz_i on), (2, fz_i hr), (3, fz_i wh)]) kX11_free rfl (by decide) rfl (by omega) rfl ?_
                            refine fz_goto (tgt := 43) kX11_free rfl (by decide) ?_
                            exact ih56 (x48 + 1) x49 H170 hI174 hf177 hXw178 (by omega) (by omega) (by omega) (by first | exact fz_fg_back hv61 f153 (funext fun s => hf162 60 s rfl) f176 (funext fun s => hf33 60 s rfl) f46 (by omega) (by omega) (by omega) (fun _ _ z => z) (fun _ hd z => fz_bt_sub k143 hd z) | exact hv61) (by omega)
                          · refine fz_iload kX11_free rfl rfl ?_
                            refine fz_istore (ls' := [(5, fz_i x48), (6, fz_i x48), (4, fz_i y47), (0, fz_r 53), (1, fz_i on), (2, fz_i hr), (3, fz_i wh)]) kX11_free rfl (by decide) rfl ?_
                            refine fz_aload_n kX11_free rfl rfl ?_
                            refine fz_iload kX11_free rfl rfl ?_
                            refine fz_iload_n kX11_free rfl rfl ?_
                            have e181 : H157 53 10 = h 53 10 := hf166 53 10 rfl
                            refine fz_callV (d' := 0) (M' := mX11_forgets) (As := [fz_i x48, fz_i on]) (st := []) kX11_free rfl rfl vX11_forgets rfl rfl rfl rfl (Nat.le_of_ble_eq_true rfl) (Nat.le_of_ble_eq_true rfl) (by decide) (sX11_forgets H157 hI161 x48 on ) (fun H182 r183 q184 o185 => ?_)
                            obtain ⟨hI186, hf187, rfl, f188⟩ := q184
                            clear o185
                            have hf189 := fz_fr_tr hf166 hf187 (show fz_su [(60, 99999)] [(60, 99999), (74, 99999), (75, 99999), (86, 99999), (87, 99999), (88, 99999)] = true from rfl)
                            have hXw190 : fz_Xw H182 := fz_Xw_eq (hf187 53 19 rfl) (funext fun s => hf187 66 s rfl) (funext fun s => hf187 67 s rfl) (funext fun s => hf187 68 s rfl) (funext fun s => hf187 69 s rfl) hXw163
                            have t191 : H182 53 10 = H157 53 10 := hf187 53 10 rfl
                            refine fz_iincN (ls' := [(6, fz_i (x48 + 1)), (5, fz_i x48), (4, fz_i y47), (0, fz_r 53), (1, fz_i on), (2, fz_i hr), (3, fz_i wh)]) kX11_free rfl (by decide) rfl (by omega) rfl ?_
                            refine fz_goto (tgt := 43) kX11_free rfl (by decide) ?_
                            exact ih56 (x48 + 1) x48 H182 hI186 hf189 hXw190 (by omega) (by omega) (by omega) (by first | exact fz_fg_back hv61 f153 (funext fun s => hf162 60 s rfl) f188 (funext fun s => hf33 60 s rfl) f46 (by omega) (by omega) (by omega) (fun _ _ z => z) (fun _ hd z => fz_bt_sub k143 hd z) | exact hv61) (by omega)
                        · refine fz_goto (tgt := 111) kX11_free rfl (by decide) ?_
                          refine fz_iincN (ls' := [(6, fz_i (x48 + 1)), (5, fz_i x49), (4, fz_i y47), (0, fz_r 53), (1, fz_i on), (2, fz_i hr), (3, fz_i wh)]) kX11_free rfl (by decide) rfl (by omega) rfl ?_
                          refine fz_goto (tgt := 43) kX11_free rfl (by decide) ?_
                          exact ih56 (x48 + 1) x49 H51 hI52 hf53 hXw50 (by omega) (by omega) (by omega) (by first | exact fz_fg_back hv61 lost (funext fun s => lost 60 s rfl) lost (funext fun s => hf33 60 s rfl) f46 (by omega) (by omega) (by omega) (fun _ _ z => z) (fun _ hd z => fz_bt_sub lost hd z) | exact hv61) (by omega)
              exact lp55 _ 0 (-2) H28 hI32 hf34 hXw35 (by omega) (by omega) (by omega) ((funext fun s => hf33 60 s rfl)) (Nat.lt_succ_self _)
            · exfalso; omega
          · refine fz_if_ne (tgt := 25) kX11_free rfl (by decide) (fun c195 => ?_) (fun c195 => ?_)
            · exfalso; omega
            · refine fz_iconst ⟨by decide, by decide⟩ kX11_free rfl ?_
              exact fz_iret kX11_free rfl rfl (fun _ => ⟨hI, hf, hXw, _, rfl, (by omega), (by first | exact lost | rfl)⟩)
      · refine fz_if_eq (tgt := 23) kX11_free rfl (by decide) (fun c197 => ?_) (fun c197 => ?_)
        · refine fz_iconst ⟨by decide, by decide⟩ kX11_free rfl ?_
          exact fz_iret kX11_free rfl rfl (fun _ => ⟨hI, hf, hXw, _, rfl, (by omega), (by first | exact lost | rfl)⟩)
        · exfalso; omega
  · refine fz_if_eq (tgt := 23) kX11_free rfl (by decide) (fun c199 => ?_) (fun c199 => ?_)
    · refine fz_iconst ⟨by decide, by decide⟩ kX11_free rfl ?_
      exact fz_iret kX11_free rfl rfl (fun _ => ⟨hI, hf, hXw, _, rfl, (by omega), (by first | exact lost | rfl)⟩)
    · exfalso; omega

abbrev qX11_marksAlike (h : fz_H) (a b t hr : Int) : fz_H → Option fz_V → Prop := fun h' r0 => fz_Iv h' ∧ fz_fr [(74, 99999), (75, 99999)] h h' ∧ fz_Xw h' ∧ ∃ r : Int, r0 = some (fz_i r) ∧ (0 ≤ r ∧ r ≤ 5)
set_option maxHeartbeats 1000000 in
set_option maxRecDepth 100000 in
theorem sX11_marksAlike (h : fz_H) (hI : fz_Iv h) (a b t hr : Int) (hXw : fz_Xw h) (hp0 : 0 ≤ t ∧ t ≤ 7) : fz_R 4 mX11_marksAlike 0 [(0, fz_r 53), (1, fz_i a), (2, fz_i b), (3, fz_i t), (4, fz_i hr)] [] h (qX11_marksAlike h a b t hr) := by
  refine fz_knowl (fun hk => ?_)
  have hr_a : -2147483648 ≤ a ∧ a < 2147483648 := hk _ (List.Mem.tail _ (List.Mem.head _))
  have hr_b : -2147483648 ≤ b ∧ b < 2147483648 := hk _ (List.Mem.tail _ (List.Mem.tail _ (List.Mem.head _)))
  have hr_t : -2147483648 ≤ t ∧ t < 2147483648 := hk _ (List.Mem.tail _ (List.Mem.tail _ (List.Mem.tail _ (List.Mem.head _))))
  have hr_hr : -2147483648 ≤ hr ∧ hr < 2147483648 := hk _ (List.Mem.tail _ (List.Mem.tail _ (List.Mem.tail _ (List.Mem.tail _ (List.Mem.head _)))))
  clear hk
  have hf : fz_fr [(74, 99999), (75, 99999)] h h := fz_fr_rf
  refine fz_iconst ⟨by decide, by decide⟩ kX11_marksAlike rfl ?_
  refine fz_istore (ls' := [(5, fz_i 0), (0, fz_r 53), (1, fz_i a), (2, fz_i b), (3, fz_i t), (4, fz_i hr)]) kX11_marksAlike rfl (by decide) rfl ?_
  refine fz_iconst ⟨by decide, by decide⟩ kX11_marksAlike rfl ?_
  refine fz_istore (ls' := [(6, fz_i 0), (5, fz_i 0), (0, fz_r 53), (1, fz_i a), (2, fz_i b), (3, fz_i t), (4, fz_i hr)]) kX11_marksAlike rfl (by decide) rfl ?_
  have lp8 : ∀ (n7 : Nat) (x1 : Int) (x2 : Int) (H4 : fz_H), fz_Iv H4 → fz_fr [(74, 99999), (75, 99999)] h H4 → fz_Xw H4 → (0 ≤ x1 ∧ x1 ≤ 2147483647) → (0 ≤ x2 ∧ x2 ≤ 5) → (x2 ≤ x1) → (5 - x1).toNat < n7 → fz_R 4 mX11_marksAlike 6 [(6, fz_i x1), (5, fz_i x2), (0, fz_r 53), (1, fz_i a), (2, fz_i b), (3, fz_i t), (4, fz_i hr)] [] H4 (qX11_marksAlike h a b t hr) := by
    intro n7
    induction n7 with
    | zero => intro x1 x2 H4 hI5 hf6 hXw3 hv11 hv12 hv13 hm10; exact absurd hm10 (by omega)
    | succ n7 ih9 =>
      intro x1 x2 H4 hI5 hf6 hXw3 hv11 hv12 hv13 hm10
      refine fz_iload kX11_marksAlike rfl rfl ?_
      refine fz_iconst ⟨by decide, by decide⟩ kX11_marksAlike rfl ?_
      refine fz_icmp_ge (tgt := 44) kX11_marksAlike rfl (by decide) (fun c14 => ?_) (fun c14 => ?_)
      · refine fz_iload kX11_marksAlike rfl rfl ?_
        exact fz_iret kX11_marksAlike rfl rfl (fun _ => ⟨hI5, hf6, hXw3, _, rfl, (by omega)⟩)
      · refine fz_aload_n kX11_marksAlike rfl rfl ?_
        refine fz_iload_n kX11_marksAlike rfl rfl ?_
        refine fz_iload kX11_marksAlike rfl rfl ?_
        refine fz_iload_n kX11_marksAlike rfl rfl ?_
        refine fz_iload kX11_marksAlike rfl rfl ?_
        refine fz_callV (d' := 3) (M' := mX11_saidOf) (As := [fz_i a, fz_i x1, fz_i t, fz_i hr]) (st := []) kX11_marksAlike rfl rfl vX11_saidOf rfl rfl rfl rfl (Nat.le_of_ble_eq_true rfl) (Nat.le_of_ble_eq_true rfl) (by decide) (sX11_saidOf H4 hI5 a x1 t hr hXw3 (by omega)) (fun H15 r16 q17 o18 => ?_)
        obtain ⟨hI19, hf20, hXw21, y23, rfl, f22⟩ := q17
        clear o18
        have hf24 := fz_fr_tr hf6 hf20 (show fz_su [(74, 99999), (75, 99999)] [(74, 99999), (75, 99999)] = true from rfl)
        refine fz_aload_n kX11_marksAlike rfl rfl ?_
        refine fz_iload_n kX11_marksAlike rfl rfl ?_
        refine fz_iload kX11_marksAlike rfl rfl ?_
        refine fz_iload_n kX11_marksAlike rfl rfl ?_
        refine fz_iload kX11_marksAlike rfl rfl ?_
        refine fz_callV (d' := 3) (M' := mX11_saidOf) (As := [fz_i b, fz_i x1, fz_i t, fz_i hr]) (st := [fz_i y23]) kX11_marksAlike rfl rfl vX11_saidOf rfl rfl rfl rfl (Nat.le_of_ble_eq_true rfl) (Nat.le_of_ble_eq_true rfl) (by decide) (sX11_saidOf H15 hI19 b x1 t hr hXw21 (by omega)) (fun H25 r26 q27 o28 => ?_)
        obtain ⟨hI29, hf30, hXw31, y33, rfl, f32⟩ := q27
        clear o28
        have hf34 := fz_fr_tr hf24 hf30 (show fz_su [(74, 99999), (75, 99999)] [(74, 99999), (75, 99999)] = true from rfl)
        refine fz_icmp_ne (tgt := 38) kX11_marksAlike rfl (by decide) (fun c35 => ?_) (fun c35 => ?_)
        · refine fz_iincN (ls' := [(6, fz_i (x1 + 1)), (5, fz_i x2), (0, fz_r 53), (1, fz_i a), (2, fz_i b), (3, fz_i t), (4, fz_i hr)]) kX11_marksAlike rfl (by decide) rfl (by omega) rfl ?_
          refine fz_goto (tgt := 6) kX11_marksAlike rfl (by decide) ?_
          exact ih9 (x1 + 1) x2 H25 hI29 hf34 hXw31 (by omega) (by omega) (by omega) (by omega)
        · refine fz_iincN (ls' := [(5, fz_i (x2 + 1)), (6, fz_i x1), (0, fz_r 53), (1, fz_i a), (2, fz_i b), (3, fz_i t), (4, fz_i hr)]) kX11_marksAlike rfl (by decide) rfl (by omega) rfl ?_
          refine fz_iincN (ls' := [(6, fz_i (x1 + 1)), (5, fz_i (x2 + 1)), (0, fz_r 53), (1, fz_i a), (2, fz_i b), (3, fz_i t), (4, fz_i hr)]) kX11_marksAlike rfl (by decide) rfl (by omega) rfl ?_
          refine fz_goto (tgt := 6) kX11_marksAlike rfl (by decide) ?_
          exact ih9 (x1 + 1) (x2 + 1) H25 hI29 hf34 hXw31 (by omega) (by omega) (by omega) (by omega)
  exact lp8 _ 0 0 h hI hf hXw (by omega) (by omega) (by omega) (Nat.lt_succ_self _)

abbrev qX11_alike (h : fz_H) (pq th wh : Int) : fz_H → Option fz_V → Prop := fun h' r0 => fz_Iv h' ∧ fz_fr [(60, 99999), (74, 99999), (75, 99999), (86, 99999), (87, 99999), (88, 99999)] h h' ∧ fz_Xw h' ∧ ∃ r : Int, r0 = some (fz_i r) ∧ ((-2147483648) ≤ r ∧ r ≤ 2147483647) ∧ (h' 60 = h 60)
set_option maxHeartbeats 1000000 in
set_option maxRecDepth 100000 in
theorem sX11_alike (h : fz_H) (hI : fz_Iv h) (pq th wh : Int) (hXw : fz_Xw h) : fz_R 5 mX11_alike 0 [(0, fz_r 53), (1, fz_i pq), (2, fz_i th), (3, fz_i wh)] [] h (qX11_alike h pq th wh) := by
  refine fz_knowl (fun hk => ?_)
  have hr_pq : -2147483648 ≤ pq ∧ pq < 2147483648 := hk _ (List.Mem.tail _ (List.Mem.head _))
  have hr_th : -2147483648 ≤ th ∧ th < 2147483648 := hk _ (List.Mem.tail _ (List.Mem.tail _ (List.Mem.head _)))
  have hr_wh : -2147483648 ≤ wh ∧ wh < 2147483648 := hk _ (List.Mem.tail _ (List.Mem.tail _ (List.Mem.tail _ (List.Mem.head _))))
  clear hk
  have hf : fz_fr [(60, 99999), (74, 99999), (75, 99999), (86, 99999), (87, 99999), (88, 99999)] h h := fz_fr_rf
  refine fz_iload_n kX11_alike rfl rfl ?_
  refine fz_if_lt (tgt := 52) kX11_alike rfl (by decide) (fun c1 => ?_) (fun c1 => ?_)
  · refine fz_ldc (x := (-2000000000)) kX11_alike rfl rfl rfl ?_
    exact fz_iret kX11_alike rfl rfl (fun _ => ⟨hI, hf, hXw, _, rfl, (by omega), (by first | exact lost | rfl | exact (funext fun s => lost 60 s rfl).trans (funext fun s => lost 60 s rfl) | exact fz_fg_back ((funext fun s => lost 60 s rfl).trans (funext fun s => lost 60 s rfl)) lost (funext fun s => lost 60 s rfl) lost ((funext fun s => lost 60 s rfl).trans (funext fun s => lost 60 s rfl)) lost (by omega) (by omega) (by omega) (fun _ _ z => z) (fun _ _ z => z))⟩)
  · refine fz_iload_n kX11_alike rfl rfl ?_
    refine fz_bipush ⟨by decide, by decide⟩ kX11_alike rfl ?_
    refine fz_idivN kX11_alike rfl (by omega) (by omega) (by omega) ?_
    refine fz_callS (d' := 1) (M' := mX11_isPerson) (As := [fz_i (pq / 10)]) (st := []) kX11_alike rfl rfl vX11_isPerson rfl rfl (Nat.le_of_ble_eq_true rfl) (Nat.le_of_ble_eq_true rfl) (by decide) (sX11_isPerson h hI (pq / 10) ) (fun H3 r4 q5 o6 => ?_)
    obtain ⟨e7, y8, rfl, p9⟩ := q5
    subst H3
    clear o6
    rcases p9 with ⟨rfl, c10⟩ | ⟨rfl, c10⟩
    · refine fz_if_eq (tgt := 52) kX11_alike rfl (by decide) (fun c11 => ?_) (fun c11 => ?_)
      · exfalso; omega
      · refine fz_iload_n kX11_alike rfl rfl ?_
        refine fz_bipush ⟨by decide, by decide⟩ kX11_alike rfl ?_
        refine fz_iremN kX11_alike rfl (by omega) (by omega) (by omega) ?_
        refine fz_callS (d' := 1) (M' := mX11_isPerson) (As := [fz_i (pq % 10)]) (st := []) kX11_alike rfl rfl vX11_isPerson rfl rfl (Nat.le_of_ble_eq_true rfl) (Nat.le_of_ble_eq_true rfl) (by decide) (sX11_isPerson h hI (pq % 10) ) (fun H12 r13 q14 o15 => ?_)
        obtain ⟨e16, y17, rfl, p18⟩ := q14
        subst H12
        clear o15
        rcases p18 with ⟨rfl, c19⟩ | ⟨rfl, c19⟩
        · refine fz_if_eq (tgt := 52) kX11_alike rfl (by decide) (fun c20 => ?_) (fun c20 => ?_)
          · exfalso; omega
          · refine fz_iload_n kX11_alike rfl rfl ?_
            refine fz_bipush ⟨by decide, by decide⟩ kX11_alike rfl ?_
            refine fz_idivN kX11_alike rfl (by omega) (by omega) (by omega) ?_
            refine fz_iload_n kX11_alike rfl rfl ?_
            refine fz_bipush ⟨by decide, by decide⟩ kX11_alike rfl ?_
            refine fz_iremN kX11_alike rfl (by omega) (by omega) (by omega) ?_
            refine fz_icmp_eq (tgt := 52) kX11_alike rfl (by decide) (fun c21 => ?_) (fun c21 => ?_)
            · refine fz_ldc (x := (-2000000000)) kX11_alike rfl rfl rfl ?_
              exact fz_iret kX11_alike rfl rfl (fun _ => ⟨hI, hf, hXw, _, rfl, (by omega), (by first | exact lost | rfl | exact (funext fun s => lost 60 s rfl).trans (funext fun s => lost 60 s rfl) | exact fz_fg_back ((funext fun s => lost 60 s rfl).trans (funext fun s => lost 60 s rfl)) lost (funext fun s => lost 60 s rfl) lost ((funext fun s => lost 60 s rfl).trans (funext fun s => lost 60 s rfl)) lost (by omega) (by omega) (by omega) (fun _ _ z => z) (fun _ _ z => z))⟩)
            · refine fz_aload_n kX11_alike rfl rfl ?_
              refine fz_iload_n kX11_alike rfl rfl ?_
              have b23 : 0 ≤ h 53 0 ∧ h 53 0 ≤ 8 := hI.1 53 _
              refine fz_callV (d' := 2) (M' := mX11_isWhen) (As := [fz_i th]) (st := []) kX11_alike rfl rfl vX11_isWhen rfl rfl rfl rfl (Nat.le_of_ble_eq_true rfl) (Nat.le_of_ble_eq_true rfl) (by decide) (sX11_isWhen h hI th ) (fun H24 r25 q26 o27 => ?_)
              obtain ⟨e28, y29, rfl, p30⟩ := q26
              subst H24
              clear o27
              rcases p30 with ⟨rfl, c31⟩ | ⟨rfl, c31⟩
              · refine fz_if_eq (tgt := 52) kX11_alike rfl (by decide) (fun c32 => ?_) (fun c32 => ?_)
                · exfalso; omega
                · refine fz_iload_n kX11_alike rfl rfl ?_
                  refine fz_iconst ⟨by decide, by decide⟩ kX11_alike rfl ?_
                  refine fz_iconst ⟨by decide, by decide⟩ kX11_alike rfl ?_
                  refine fz_callS (d' := 0) (M' := mX11_within) (As := [fz_i wh, fz_i 0, fz_i 2]) (st := []) kX11_alike rfl rfl vX11_within rfl rfl (Nat.le_of_ble_eq_true rfl) (Nat.le_of_ble_eq_true rfl) (by decide) (sX11_within h hI wh 0 2 ) (fun H33 r34 q35 o36 => ?_)
                  obtain ⟨e37, y38, rfl, p39⟩ := q35
                  subst H33
                  clear o36
                  rcases p39 with ⟨rfl, c40⟩ | ⟨rfl, c40⟩
                  · refine fz_if_ne (tgt := 55) kX11_alike rfl (by decide) (fun c41 => ?_) (fun c41 => ?_)
                    · refine fz_aload_n kX11_alike rfl rfl ?_
                      refine fz_callV (d' := 3) (M' := mX11_allHear) (As := []) (st := []) kX11_alike rfl rfl vX11_allHear rfl rfl rfl rfl (Nat.le_of_ble_eq_true rfl) (Nat.le_of_ble_eq_true rfl) (by decide) (sX11_allHear h hI  ) (fun H42 r43 q44 o45 => ?_)
                      obtain ⟨hI46, hf47, rfl⟩ := q44
                      clear o45
                      have hf48 := fz_fr_tr hf hf47 (show fz_su [(86, 99999), (87, 99999), (88, 99999)] [(60, 99999), (74, 99999), (75, 99999), (86, 99999), (87, 99999), (88, 99999)] = true from rfl)
                      have hXw49 : fz_Xw H42 := fz_Xw_eq (hf47 53 19 rfl) (funext fun s => hf47 66 s rfl) (funext fun s => hf47 67 s rfl) (funext fun s => hf47 68 s rfl) (funext fun s => hf47 69 s rfl) hXw
                      have t50 : H42 53 10 = h 53 10 := hf47 53 10 rfl
                      refine fz_iload_n kX11_alike rfl rfl ?_
                      refine fz_bipush ⟨by decide, by decide⟩ kX11_alike rfl ?_
                      refine fz_idivN kX11_alike rfl (by omega) (by omega) (by omega) ?_
                      refine fz_istore (ls' := [(4, fz_i (pq / 10)), (0, fz_r 53), (1, fz_i pq), (2, fz_i th), (3, fz_i wh)]) kX11_alike rfl (by decide) rfl ?_
                      refine fz_iload_n kX11_alike rfl rfl ?_
                      refine fz_bipush ⟨by decide, by decide⟩ kX11_alike rfl ?_
                      refine fz_iremN kX11_alike rfl (by omega) (by omega) (by omega) ?_
                      refine fz_istore (ls' := [(5, fz_i (pq % 10)), (4, fz_i (pq / 10)), (0, fz_r 53), (1, fz_i pq), (2, fz_i th), (3, fz_i wh)]) kX11_alike rfl (by decide) rfl ?_
                      refine fz_iload_n kX11_alike rfl rfl ?_
                      refine fz_sipush ⟨by decide, by decide⟩ kX11_alike rfl ?_
                      refine fz_idivN kX11_alike rfl (by omega) (by omega) (by omega) ?_
                      refine fz_istore (ls' := [(6, fz_i (th / 1000)), (5, fz_i (pq % 10)), (4, fz_i (pq / 10)), (0, fz_r 53), (1, fz_i pq), (2, fz_i th), (3, fz_i wh)]) kX11_alike rfl (by decide) rfl ?_
                      refine fz_iload_n kX11_alike rfl rfl ?_
                      refine fz_sipush ⟨by decide, by decide⟩ kX11_alike rfl ?_
                      refine fz_iremN kX11_alike rfl (by omega) (by omega) (by omega) ?_
                      refine fz_istore (ls' := [(7, fz_i (th % 1000)), (6, fz_i (th / 1000)), (5, fz_i (pq % 10)), (4, fz_i (pq / 10)), (0, fz_r 53), (1, fz_i pq), (2, fz_i th), (3, fz_i wh)]) kX11_alike rfl (by decide) rfl ?_
                      refine fz_iload_n kX11_alike rfl rfl ?_
                      refine fz_if_ne (tgt := 102) kX11_alike rfl (by decide) (fun c51 => ?_) (fun c51 => ?_)
                      · refine fz_iload_n kX11_alike rfl rfl ?_
                        refine fz_iconst ⟨by decide, by decide⟩ kX11_alike rfl ?_
                        refine fz_icmp_ne (tgt := 156) kX11_alike rfl (by decide) (fun c52 => ?_) (fun c52 => ?_)
                        · refine fz_aload_n kX11_alike rfl rfl ?_
                          refine fz_iload kX11_alike rfl rfl ?_
                          refine fz_iload kX11_alike rfl rfl ?_
                          refine fz_iload kX11_alike rfl rfl ?_
                          refine fz_callV (d' := 4) (M' := mX11_receivedIn) (As := [fz_i (pq / 10), fz_i (th / 1000), fz_i (th % 1000)]) (st := []) kX11_alike rfl rfl vX11_receivedIn rfl rfl rfl rfl (Nat.le_of_ble_eq_true rfl) (Nat.le_of_ble_eq_true rfl) (by decide) (sX11_receivedIn H42 hI46 (pq / 10) (th / 1000) (th % 1000) hXw49 (by omega)) (fun H53 r54 q55 o56 => ?_)
                          obtain ⟨hI57, hf58, hXw59, y61, rfl, f60⟩ := q55
                          clear o56
                          have hf62 := fz_fr_tr hf48 hf58 (show fz_su [(74, 99999), (75, 99999)] [(60, 99999), (74, 99999), (75, 99999), (86, 99999), (87, 99999), (88, 99999)] = true from rfl)
                          have t63 : H53 53 10 = H42 53 10 := hf58 53 10 rfl
                          refine fz_istore (ls' := [(8, fz_i y61), (7, fz_i (th % 1000)), (6, fz_i (th / 1000)), (5, fz_i (pq % 10)), (4, fz_i (pq / 10)), (0, fz_r 53), (1, fz_i pq), (2, fz_i th), (3, fz_i wh)]) kX11_alike rfl (by decide) rfl ?_
                          refine fz_aload_n kX11_alike rfl rfl ?_
                          refine fz_iload kX11_alike rfl rfl ?_
                          have b64 : 0 ≤ h 53 10 ∧ h 53 10 ≤ 11 := hI.1 53 _
                          have e65 : H53 53 10 = h 53 10 := hf62 53 10 rfl
                          refine fz_callV (d' := 0) (M' := mX11_deedsOf) (As := [fz_i (pq % 10)]) (st := []) kX11_alike rfl rfl vX11_deedsOf rfl rfl rfl rfl (Nat.le_of_ble_eq_true rfl) (Nat.le_of_ble_eq_true rfl) (by decide) (sX11_deedsOf H53 hI57 (pq % 10) ) (fun H66 r67 q68 o69 => ?_)
                          obtain ⟨e70, y74, rfl, f71, f72, f73⟩ := q68
                          subst H66
                          clear o69
                          refine fz_istore (ls' := [(9, fz_i y74), (8, fz_i y61), (7, fz_i (th % 1000)), (6, fz_i (th / 1000)), (5, fz_i (pq % 10)), (4, fz_i (pq / 10)), (0, fz_r 53), (1, fz_i pq), (2, fz_i th), (3, fz_i wh)]) kX11_alike rfl (by decide) rfl ?_
                          refine fz_aload_n kX11_alike rfl rfl ?_
                          refine fz_iload kX11_alike rfl rfl ?_
                          refine fz_iload kX11_alike rfl rfl ?_
                          refine fz_callV (d' := 0) (M' := mX11_forgets) (As := [fz_i y74, fz_i (pq / 10)]) (st := []) kX11_alike rfl rfl vX11_forgets rfl rfl rfl rfl (Nat.le_of_ble_eq_true rfl) (Nat.le_of_ble_eq_true rfl) (by decide) (sX11_forgets H53 hI57 y74 (pq / 10) ) (fun H75 r76 q77 o78 => ?_)
                          obtain ⟨hI79, hf80, rfl, f81⟩ := q77
                          clear o78
                          have hf82 := fz_fr_tr hf62 hf80 (show fz_su [(60, 99999)] [(60, 99999), (74, 99999), (75, 99999), (86, 99999), (87, 99999), (88, 99999)] = true from rfl)
                          have hXw83 : fz_Xw H75 := fz_Xw_eq (hf80 53 19 rfl) (funext fun s => hf80 66 s rfl) (funext fun s => hf80 67 s rfl) (funext fun s => hf80 68 s rfl) (funext fun s => hf80 69 s rfl) hXw59
                          have t84 : H75 53 10 = H53 53 10 := hf80 53 10 rfl
                          refine fz_aload_n kX11_alike rfl rfl ?_
                          refine fz_iload kX11_alike rfl rfl ?_
                          refine fz_iload kX11_alike rfl rfl ?_
                          refine fz_iload kX11_alike rfl rfl ?_
                          refine fz_callV (d' := 4) (M' := mX11_receivedIn) (As := [fz_i (pq / 10), fz_i (th / 1000), fz_i (th % 1000)]) (st := []) kX11_alike rfl rfl vX11_receivedIn rfl rfl rfl rfl (Nat.le_of_ble_eq_true rfl) (Nat.le_of_ble_eq_true rfl) (by decide) (sX11_receivedIn H75 hI79 (pq / 10) (th / 1000) (th % 1000) hXw83 (by omega)) (fun H85 r86 q87 o88 => ?_)
                          obtain ⟨hI89, hf90, hXw91, y93, rfl, f92⟩ := q87
                          clear o88
                          have hf94 := fz_fr_tr hf82 hf90 (show fz_su [(74, 99999), (75, 99999)] [(60, 99999), (74, 99999), (75, 99999), (86, 99999), (87, 99999), (88, 99999)] = true from rfl)
                          have t95 : H85 53 10 = H75 53 10 := hf90 53 10 rfl
                          refine fz_istore (ls' := [(10, fz_i y93), (9, fz_i y74), (8, fz_i y61), (7, fz_i (th % 1000)), (6, fz_i (th / 1000)), (5, fz_i (pq % 10)), (4, fz_i (pq / 10)), (0, fz_r 53), (1, fz_i pq), (2, fz_i th), (3, fz_i wh)]) kX11_alike rfl (by decide) rfl ?_
                          refine fz_aload_n kX11_alike rfl rfl ?_
                          refine fz_iload kX11_alike rfl rfl ?_
                          refine fz_iload kX11_alike rfl rfl ?_
                          have e96 : H85 53 10 = h 53 10 := hf94 53 10 rfl
                          refine fz_callV (d' := 0) (M' := mX11_forgets) (As := [fz_i y74, fz_i (pq % 10)]) (st := []) kX11_alike rfl rfl vX11_forgets rfl rfl rfl rfl (Nat.le_of_ble_eq_true rfl) (Nat.le_of_ble_eq_true rfl) (by decide) (sX11_forgets H85 hI89 y74 (pq % 10) ) (fun H97 r98 q99 o100 => ?_)
                          obtain ⟨hI101, hf102, rfl, f103⟩ := q99
                          clear o100
                          have hf104 := fz_fr_tr hf94 hf102 (show fz_su [(60, 99999)] [(60, 99999), (74, 99999), (75, 99999), (86, 99999), (87, 99999), (88, 99999)] = true from rfl)
                          have hXw105 : fz_Xw H97 := fz_Xw_eq (hf102 53 19 rfl) (funext fun s => hf102 66 s rfl) (funext fun s => hf102 67 s rfl) (funext fun s => hf102 68 s rfl) (funext fun s => hf102 69 s rfl) hXw91
                          have t106 : H97 53 10 = H85 53 10 := hf102 53 10 rfl
                          refine fz_iload kX11_alike rfl rfl ?_
                          refine fz_iload kX11_alike rfl rfl ?_
                          refine fz_isub kX11_alike rfl ?_
                          refine fz_nmw (fun z107 e108 => ?_)
                          exact fz_iret kX11_alike rfl rfl (fun _ => ⟨hI101, hf104, hXw105, _, rfl, (by omega), (by first | exact lost | rfl | exact (funext fun s => lost 60 s rfl).trans (funext fun s => hf47 60 s rfl) | exact fz_fg_back ((funext fun s => hf58 60 s rfl).trans (funext fun s => hf47 60 s rfl)) f81 (funext fun s => hf90 60 s rfl) f103 ((funext fun s => hf58 60 s rfl).trans (funext fun s => hf47 60 s rfl)) f73 (by omega) (by omega) (by omega) (fun _ _ z => z) (fun _ _ z => z))⟩)
                        · refine fz_iconst ⟨by decide, by decide⟩ kX11_alike rfl ?_
                          refine fz_istore (ls' := [(8, fz_i 0), (7, fz_i (th % 1000)), (6, fz_i (th / 1000)), (5, fz_i (pq % 10)), (4, fz_i (pq / 10)), (0, fz_r 53), (1, fz_i pq), (2, fz_i th), (3, fz_i wh)]) kX11_alike rfl (by decide) rfl ?_
                          refine fz_iconst ⟨by decide, by decide⟩ kX11_alike rfl ?_
                          refine fz_istore (ls' := [(9, fz_i 0), (8, fz_i 0), (7, fz_i (th % 1000)), (6, fz_i (th / 1000)), (5, fz_i (pq % 10)), (4, fz_i (pq / 10)), (0, fz_r 53), (1, fz_i pq), (2, fz_i th), (3, fz_i wh)]) kX11_alike rfl (by decide) rfl ?_
                          have lp117 : ∀ (n116 : Nat) (x110 : Int) (x111 : Int) (H113 : fz_H), fz_Iv H113 → fz_fr [(60, 99999), (74, 99999), (75, 99999), (86, 99999), (87, 99999), (88, 99999)] h H113 → fz_Xw H113 → (0 ≤ x110 ∧ x110 ≤ 2147483647) → ((-2147483648) ≤ x111 ∧ x111 ≤ 2147483647) → (H113 60 = h 60) → ((h 53 0) - x110).toNat < n116 → fz_R 5 mX11_alike 113 [(9, fz_i x110), (8, fz_i x111), (7, fz_i (th % 1000)), (6, fz_i (th / 1000)), (5, fz_i (pq % 10)), (4, fz_i (pq / 10)), (0, fz_r 53), (1, fz_i pq), (2, fz_i th), (3, fz_i wh)] [] H113 (qX11_alike h pq th wh) := by
                            intro n116
                            induction n116 with
                            | zero => intro x110 x111 H113 hI114 hf115 hXw112 hv120 hv121 hv122 hm119; exact absurd hm119 (by omega)
                            | succ n116 ih118 =>
                              intro x110 x111 H113 hI114 hf115 hXw112 hv120 hv121 hv122 hm119
                              refine fz_iload kX11_alike rfl rfl ?_
                              refine fz_aload_n kX11_alike rfl rfl ?_
                              refine fz_getV (v := h 53 0) kX11_alike rfl rfl (hf115 53 0 rfl) ?_
                              have b123 : 0 ≤ h 53 0 ∧ h 53 0 ≤ 8 := hI.1 53 _
                              refine fz_icmp_ge (tgt := 153) kX11_alike rfl (by decide) (fun c124 => ?_) (fun c124 => ?_)
                              · refine fz_iload kX11_alike rfl rfl ?_
                                exact fz_iret kX11_alike rfl rfl (fun _ => ⟨hI114, hf115, hXw112, _, rfl, (by omega), (by first | exact hv122 | rfl | exact (funext fun s => lost 60 s rfl).trans (funext fun s => hf47 60 s rfl) | exact fz_fg_back ((funext fun s => lost 60 s rfl).trans (funext fun s => hf47 60 s rfl)) lost (funext fun s => lost 60 s rfl) lost ((funext fun s => lost 60 s rfl).trans (funext fun s => hf47 60 s rfl)) lost (by omega) (by omega) (by omega) (fun _ _ z => z) (fun _ _ z => z))⟩)
                              · refine fz_aload_n kX11_alike rfl rfl ?_
                                refine fz_iload kX11_alike rfl rfl ?_
                                refine fz_iload kX11_alike rfl rfl ?_
                                refine fz_iload kX11_alike rfl rfl ?_
                                refine fz_iload kX11_alike rfl rfl ?_
                                refine fz_callV (d' := 4) (M' := mX11_marksAlike) (As := [fz_i (pq / 10), fz_i (pq % 10), fz_i x110, fz_i (th % 1000)]) (st := []) kX11_alike rfl rfl vX11_marksAlike rfl rfl rfl rfl (Nat.le_of_ble_eq_true rfl) (Nat.le_of_ble_eq_true rfl) (by decide) (sX11_marksAlike H113 hI114 (pq / 10) (pq % 10) x110 (th % 1000) hXw112 (by omega)) (fun H126 r127 q128 o129 => ?_)
                                obtain ⟨hI130, hf131, hXw132, y134, rfl, f133⟩ := q128
                                clear o129
                                have hf135 := fz_fr_tr hf115 hf131 (show fz_su [(74, 99999), (75, 99999)] [(60, 99999), (74, 99999), (75, 99999), (86, 99999), (87, 99999), (88, 99999)] = true from rfl)
                                have t136 : H126 53 10 = H113 53 10 := hf131 53 10 rfl
                                refine fz_iconst ⟨by decide, by decide⟩ kX11_alike rfl ?_
                                refine fz_icmp_ge (tgt := 147) kX11_alike rfl (by decide) (fun c137 => ?_) (fun c137 => ?_)
                                · refine fz_iincN (ls' := [(9, fz_i (x110 + 1)), (8, fz_i x111), (7, fz_i (th % 1000)), (6, fz_i (th / 1000)), (5, fz_i (pq % 10)), (4, fz_i (pq / 10)), (0, fz_r 53), (1, fz_i pq), (2, fz_i th), (3, fz_i wh)]) kX11_alike rfl (by decide) rfl (by omega) rfl ?_
                                  refine fz_goto (tgt := 113) kX11_alike rfl (by decide) ?_
                                  exact ih118 (x110 + 1) x111 H126 hI130 hf135 hXw132 (by omega) (by omega) ((funext fun s => hf131 60 s rfl).trans hv122) (by omega)
                                · refine fz_iload kX11_alike rfl rfl ?_
                                  refine fz_iconst ⟨by decide, by decide⟩ kX11_alike rfl ?_
                                  refine fz_iload kX11_alike rfl rfl ?_
                                  refine fz_ishl kX11_alike rfl ?_
                                  have b139 : -2147483648 ≤ (fz_shl 1 x110) ∧ (fz_shl 1 x110) < 2147483648 := fz_b32 _
                                  refine fz_ior kX11_alike rfl ?_
                                  have b140 : -2147483648 ≤ (fz_or x111 (fz_shl 1 x110)) ∧ (fz_or x111 (fz_shl 1 x110)) < 2147483648 := fz_b32 _
                                  refine fz_istore (ls' := [(8, fz_i (fz_or x111 (fz_shl 1 x110))), (9, fz_i x110), (7, fz_i (th % 1000)), (6, fz_i (th / 1000)), (5, fz_i (pq % 10)), (4, fz_i (pq / 10)), (0, fz_r 53), (1, fz_i pq), (2, fz_i th), (3, fz_i wh)]) kX11_alike rfl (by decide) rfl ?_
                                  refine fz_iincN (ls' := [(9, fz_i (x110 + 1)), (8, fz_i (fz_or x111 (fz_shl 1 x110))), (7, fz_i (th % 1000)), (6, fz_i (th / 1000)), (5, fz_i (pq % 10)), (4, fz_i (pq / 10)), (0, fz_r 53), (1, fz_i pq), (2, fz_i th), (3, fz_i wh)]) kX11_alike rfl (by decide) rfl (by omega) rfl ?_
                                  refine fz_goto (tgt := 113) kX11_alike rfl (by decide) ?_
                                  exact ih118 (x110 + 1) (fz_or x111 (fz_shl 1 x110)) H126 hI130 hf135 hXw132 (by omega) (by omega) ((funext fun s => hf131 60 s rfl).trans hv122) (by omega)
                          exact lp117 _ 0 0 H42 hI46 hf48 hXw49 (by omega) (by omega) ((funext fun s => hf47 60 s rfl)) (Nat.lt_succ_self _)
                      · refine fz_aload_n kX11_alike rfl rfl ?_
                        refine fz_iload kX11_alike rfl rfl ?_
                        refine fz_iload kX11_alike rfl rfl ?_
                        refine fz_iload kX11_alike rfl rfl ?_
                        refine fz_iload kX11_alike rfl rfl ?_
                        refine fz_callV (d' := 4) (M' := mX11_marksAlike) (As := [fz_i (pq / 10), fz_i (pq % 10), fz_i (th / 1000), fz_i (th % 1000)]) (st := []) kX11_alike rfl rfl vX11_marksAlike rfl rfl rfl rfl (Nat.le_of_ble_eq_true rfl) (Nat.le_of_ble_eq_true rfl) (by decide) (sX11_marksAlike H42 hI46 (pq / 10) (pq % 10) (th / 1000) (th % 1000) hXw49 (by omega)) (fun H143 r144 q145 o146 => ?_)
                        obtain ⟨hI147, hf148, hXw149, y151, rfl, f150⟩ := q145
                        clear o146
                        have hf152 := fz_fr_tr hf48 hf148 (show fz_su [(74, 99999), (75, 99999)] [(60, 99999), (74, 99999), (75, 99999), (86, 99999), (87, 99999), (88, 99999)] = true from rfl)
                        have t153 : H143 53 10 = H42 53 10 := hf148 53 10 rfl
                        exact fz_iret kX11_alike rfl rfl (fun _ => ⟨hI147, hf152, hXw149, _, rfl, (by omega), (by first | exact lost | rfl | exact (funext fun s => hf148 60 s rfl).trans (funext fun s => hf47 60 s rfl) | exact fz_fg_back ((funext fun s => lost 60 s rfl).trans (funext fun s => hf47 60 s rfl)) lost (funext fun s => lost 60 s rfl) lost ((funext fun s => lost 60 s rfl).trans (funext fun s => hf47 60 s rfl)) lost (by omega) (by omega) (by omega) (fun _ _ z => z) (fun _ _ z => z))⟩)
                    · exfalso; omega
                  · refine fz_if_ne (tgt := 55) kX11_alike rfl (by decide) (fun c155 => ?_) (fun c155 => ?_)
                    · exfalso; omega
                    · refine fz_ldc (x := (-2000000000)) kX11_alike rfl rfl rfl ?_
                      exact fz_iret kX11_alike rfl rfl (fun _ => ⟨hI, hf, hXw, _, rfl, (by omega), (by first | exact lost | rfl | exact (funext fun s => lost 60 s rfl).trans (funext fun s => lost 60 s rfl) | exact fz_fg_back ((funext fun s => lost 60 s rfl).trans (funext fun s => lost 60 s rfl)) lost (funext fun s => lost 60 s rfl) lost ((funext fun s => lost 60 s rfl).trans (funext fun s => lost 60 s rfl)) lost (by omega) (by omega) (by omega) (fun _ _ z => z) (fun _ _ z => z))⟩)
              · refine fz_if_eq (tgt := 52) kX11_alike rfl (by decide) (fun c157 => ?_) (fun c157 => ?_)
                · refine fz_ldc (x := (-2000000000)) kX11_alike rfl rfl rfl ?_
                  exact fz_iret kX11_alike rfl rfl (fun _ => ⟨hI, hf, hXw, _, rfl, (by omega), (by first | exact lost | rfl | exact (funext fun s => lost 60 s rfl).trans (funext fun s => lost 60 s rfl) | exact fz_fg_back ((funext fun s => lost 60 s rfl).trans (funext fun s => lost 60 s rfl)) lost (funext fun s => lost 60 s rfl) lost ((funext fun s => lost 60 s rfl).trans (funext fun s => lost 60 s rfl)) lost (by omega) (by omega) (by omega) (fun _ _ z => z) (fun _ _ z => z))⟩)
                · exfalso; omega
        · refine fz_if_eq (tgt := 52) kX11_alike rfl (by decide) (fun c159 => ?_) (fun c159 => ?_)
          · refine fz_ldc (x := (-2000000000)) kX11_alike rfl rfl rfl ?_
            exact fz_iret kX11_alike rfl rfl (fun _ => ⟨hI, hf, hXw, _, rfl, (by omega), (by first | exact lost | rfl | exact (funext fun s => lost 60 s rfl).trans (funext fun s => lost 60 s rfl) | exact fz_fg_back ((funext fun s => lost 60 s rfl).trans (funext fun s => lost 60 s rfl)) lost (funext fun s => lost 60 s rfl) lost ((funext fun s => lost 60 s rfl).trans (funext fun s => lost 60 s rfl)) lost (by omega) (by omega) (by omega) (fun _ _ z => z) (fun _ _ z => z))⟩)
          · exfalso; omega
    · refine fz_if_eq (tgt := 52) kX11_alike rfl (by decide) (fun c161 => ?_) (fun c161 => ?_)
      · refine fz_ldc (x := (-2000000000)) kX11_alike rfl rfl rfl ?_
        exact fz_iret kX11_alike rfl rfl (fun _ => ⟨hI, hf, hXw, _, rfl, (by omega), (by first | exact lost | rfl | exact (funext fun s => lost 60 s rfl).trans (funext fun s => lost 60 s rfl) | exact fz_fg_back ((funext fun s => lost 60 s rfl).trans (funext fun s => lost 60 s rfl)) lost (funext fun s => lost 60 s rfl) lost ((funext fun s => lost 60 s rfl).trans (funext fun s => lost 60 s rfl)) lost (by omega) (by omega) (by omega) (fun _ _ z => z) (fun _ _ z => z))⟩)
      · exfalso; omega

abbrev qX11_wrong (h : fz_H) (s pe t hr : Int) : fz_H → Option fz_V → Prop := fun h' r0 => fz_Iv h' ∧ fz_fr [(74, 99999), (75, 99999)] h h' ∧ fz_Xw h' ∧ ∃ r : Int, r0 = some (fz_i r) ∧ ((-2) ≤ r ∧ r ≤ 4)
set_option maxHeartbeats 1000000 in
set_option maxRecDepth 100000 in
theorem sX11_wrong (h : fz_H) (hI : fz_Iv h) (s pe t hr : Int) (hXw : fz_Xw h) (hp0 : 0 ≤ s ∧ s ≤ 5) (hp1 : 0 ≤ t ∧ t ≤ 7) : fz_R 4 mX11_wrong 0 [(0, fz_r 53), (1, fz_i s), (2, fz_i pe), (3, fz_i t), (4, fz_i hr)] [] h (qX11_wrong h s pe t hr) := by
  refine fz_knowl (fun hk => ?_)
  have hr_s : -2147483648 ≤ s ∧ s < 2147483648 := hk _ (List.Mem.tail _ (List.Mem.head _))
  have hr_pe : -2147483648 ≤ pe ∧ pe < 2147483648 := hk _ (List.Mem.tail _ (List.Mem.tail _ (List.Mem.head _)))
  have hr_t : -2147483648 ≤ t ∧ t < 2147483648 := hk _ (List.Mem.tail _ (List.Mem.tail _ (List.Mem.tail _ (List.Mem.head _))))
  have hr_hr : -2147483648 ≤ hr ∧ hr < 2147483648 := hk _ (List.Mem.tail _ (List.Mem.tail _ (List.Mem.tail _ (List.Mem.tail _ (List.Mem.head _)))))
  clear hk
  have hf : fz_fr [(74, 99999), (75, 99999)] h h := fz_fr_rf
  refine fz_iconst ⟨by decide, by decide⟩ kX11_wrong rfl ?_
  refine fz_istore (ls' := [(5, fz_i 0), (0, fz_r 53), (1, fz_i s), (2, fz_i pe), (3, fz_i t), (4, fz_i hr)]) kX11_wrong rfl (by decide) rfl ?_
  have lp7 : ∀ (n6 : Nat) (x1 : Int) (H3 : fz_H), fz_Iv H3 → fz_fr [(74, 99999), (75, 99999)] h H3 → fz_Xw H3 → (0 ≤ x1 ∧ x1 ≤ 2147483647) → (5 - x1).toNat < n6 → fz_R 4 mX11_wrong 3 [(5, fz_i x1), (0, fz_r 53), (1, fz_i s), (2, fz_i pe), (3, fz_i t), (4, fz_i hr)] [] H3 (qX11_wrong h s pe t hr) := by
    intro n6
    induction n6 with
    | zero => intro x1 H3 hI4 hf5 hXw2 hv10 hm9; exact absurd hm9 (by omega)
    | succ n6 ih8 =>
      intro x1 H3 hI4 hf5 hXw2 hv10 hm9
      refine fz_iload kX11_wrong rfl rfl ?_
      refine fz_iconst ⟨by decide, by decide⟩ kX11_wrong rfl ?_
      refine fz_icmp_ge (tgt := 56) kX11_wrong rfl (by decide) (fun c11 => ?_) (fun c11 => ?_)
      · refine fz_bipush ⟨by decide, by decide⟩ kX11_wrong rfl ?_
        exact fz_iret kX11_wrong rfl rfl (fun _ => ⟨hI4, hf5, hXw2, _, rfl, (by omega)⟩)
      · refine fz_iload kX11_wrong rfl rfl ?_
        refine fz_aload_n kX11_wrong rfl rfl ?_
        refine fz_getR (t := 84) kX11_wrong rfl rfl ?_
        refine fz_iload_n kX11_wrong rfl rfl ?_
        refine fz_ialdV (n := 6) (v := h 84 (s.toNat)) kX11_wrong rfl rfl (by omega) (by omega) (hf5 84 _ rfl) ?_
        have b12 : 0 ≤ h 84 (s.toNat) ∧ h 84 (s.toNat) ≤ 60 := hI.1 84 _
        refine fz_icmp_ge (tgt := 56) kX11_wrong rfl (by decide) (fun c13 => ?_) (fun c13 => ?_)
        · refine fz_bipush ⟨by decide, by decide⟩ kX11_wrong rfl ?_
          exact fz_iret kX11_wrong rfl rfl (fun _ => ⟨hI4, hf5, hXw2, _, rfl, (by omega)⟩)
        · refine fz_aload_n kX11_wrong rfl rfl ?_
          refine fz_getR (t := 85) kX11_wrong rfl rfl ?_
          refine fz_bipush ⟨by decide, by decide⟩ kX11_wrong rfl ?_
          refine fz_iload_n kX11_wrong rfl rfl ?_
          refine fz_imulN kX11_wrong rfl (by omega) ?_
          refine fz_iload kX11_wrong rfl rfl ?_
          refine fz_iaddN kX11_wrong rfl (by omega) ?_
          refine fz_laldV (n := 360) (v := h 85 (((60 * s) + x1).toNat)) kX11_wrong rfl rfl (by omega) (by omega) (hf5 85 _ rfl) ?_
          have b14 : (-9223372036854775808) ≤ h 85 (((60 * s) + x1).toNat) ∧ h 85 (((60 * s) + x1).toNat) ≤ 9223372036854775807 := hI.1 85 _
          refine fz_aload_n kX11_wrong rfl rfl ?_
          refine fz_iload_n kX11_wrong rfl rfl ?_
          refine fz_iload kX11_wrong rfl rfl ?_
          refine fz_iload_n kX11_wrong rfl rfl ?_
          refine fz_iload kX11_wrong rfl rfl ?_
          refine fz_callV (d' := 3) (M' := mX11_saidOf) (As := [fz_i pe, fz_i x1, fz_i t, fz_i hr]) (st := [fz_l (h 85 (((60 * s) + x1).toNat))]) kX11_wrong rfl rfl vX11_saidOf rfl rfl rfl rfl (Nat.le_of_ble_eq_true rfl) (Nat.le_of_ble_eq_true rfl) (by decide) (sX11_saidOf H3 hI4 pe x1 t hr hXw2 (by omega)) (fun H15 r16 q17 o18 => ?_)
          obtain ⟨hI19, hf20, hXw21, y23, rfl, f22⟩ := q17
          clear o18
          have hf24 := fz_fr_tr hf5 hf20 (show fz_su [(74, 99999), (75, 99999)] [(74, 99999), (75, 99999)] = true from rfl)
          refine fz_i2l kX11_wrong rfl ?_
          refine fz_lcmp kX11_wrong rfl ?_
          have b25 := fz_cmp_c (h 85 (((60 * s) + x1).toNat)) y23
          refine fz_if_eq (tgt := 50) kX11_wrong rfl (by decide) (fun c26 => ?_) (fun c26 => ?_)
          · refine fz_iincN (ls' := [(5, fz_i (x1 + 1)), (0, fz_r 53), (1, fz_i s), (2, fz_i pe), (3, fz_i t), (4, fz_i hr)]) kX11_wrong rfl (by decide) rfl (by omega) rfl ?_
            refine fz_goto (tgt := 3) kX11_wrong rfl (by decide) ?_
            exact ih8 (x1 + 1) H15 hI19 hf24 hXw21 (by omega) (by omega)
          · refine fz_iload kX11_wrong rfl rfl ?_
            exact fz_iret kX11_wrong rfl rfl (fun _ => ⟨hI19, hf24, hXw21, _, rfl, (by omega)⟩)
  exact lp7 _ 0 h hI hf hXw (by omega) (Nat.lt_succ_self _)

abbrev qX11_judge (h : fz_H) (s on th : Int) : fz_H → Option fz_V → Prop := fun h' r0 => fz_Iv h' ∧ fz_fr [(74, 99999), (75, 99999), (86, 99999), (87, 99999), (88, 99999)] h h' ∧ fz_Xw h' ∧ ∃ r : Int, r0 = some (fz_i r) ∧ ((-12) ≤ r ∧ r ≤ 4)
set_option maxHeartbeats 1000000 in
set_option maxRecDepth 100000 in
theorem sX11_judge (h : fz_H) (hI : fz_Iv h) (s on th : Int) (hXw : fz_Xw h) : fz_R 5 mX11_judge 0 [(0, fz_r 53), (1, fz_i s), (2, fz_i on), (3, fz_i th)] [] h (qX11_judge h s on th) := by
  refine fz_knowl (fun hk => ?_)
  have hr_s : -2147483648 ≤ s ∧ s < 2147483648 := hk _ (List.Mem.tail _ (List.Mem.head _))
  have hr_on : -2147483648 ≤ on ∧ on < 2147483648 := hk _ (List.Mem.tail _ (List.Mem.tail _ (List.Mem.head _)))
  have hr_th : -2147483648 ≤ th ∧ th < 2147483648 := hk _ (List.Mem.tail _ (List.Mem.tail _ (List.Mem.tail _ (List.Mem.head _))))
  clear hk
  have hf : fz_fr [(74, 99999), (75, 99999), (86, 99999), (87, 99999), (88, 99999)] h h := fz_fr_rf
  refine fz_iload_n kX11_judge rfl rfl ?_
  refine fz_callS (d' := 1) (M' := mX11_isShelf) (As := [fz_i s]) (st := []) kX11_judge rfl rfl vX11_isShelf rfl rfl (Nat.le_of_ble_eq_true rfl) (Nat.le_of_ble_eq_true rfl) (by decide) (sX11_isShelf h hI s ) (fun H1 r2 q3 o4 => ?_)
  obtain ⟨e5, y6, rfl, p7⟩ := q3
  subst H1
  clear o4
  rcases p7 with ⟨rfl, c8⟩ | ⟨rfl, c8⟩
  · refine fz_if_eq (tgt := 22) kX11_judge rfl (by decide) (fun c9 => ?_) (fun c9 => ?_)
    · exfalso; omega
    · refine fz_iload_n kX11_judge rfl rfl ?_
      refine fz_callS (d' := 1) (M' := mX11_isPerson) (As := [fz_i on]) (st := []) kX11_judge rfl rfl vX11_isPerson rfl rfl (Nat.le_of_ble_eq_true rfl) (Nat.le_of_ble_eq_true rfl) (by decide) (sX11_isPerson h hI on ) (fun H10 r11 q12 o13 => ?_)
      obtain ⟨e14, y15, rfl, p16⟩ := q12
      subst H10
      clear o13
      rcases p16 with ⟨rfl, c17⟩ | ⟨rfl, c17⟩
      · refine fz_if_eq (tgt := 22) kX11_judge rfl (by decide) (fun c18 => ?_) (fun c18 => ?_)
        · exfalso; omega
        · refine fz_aload_n kX11_judge rfl rfl ?_
          refine fz_iload_n kX11_judge rfl rfl ?_
          have b19 : 0 ≤ h 53 0 ∧ h 53 0 ≤ 8 := hI.1 53 _
          refine fz_callV (d' := 2) (M' := mX11_isWhen) (As := [fz_i th]) (st := []) kX11_judge rfl rfl vX11_isWhen rfl rfl rfl rfl (Nat.le_of_ble_eq_true rfl) (Nat.le_of_ble_eq_true rfl) (by decide) (sX11_isWhen h hI th ) (fun H20 r21 q22 o23 => ?_)
          obtain ⟨e24, y25, rfl, p26⟩ := q22
          subst H20
          clear o23
          rcases p26 with ⟨rfl, c27⟩ | ⟨rfl, c27⟩
          · refine fz_if_ne (tgt := 24) kX11_judge rfl (by decide) (fun c28 => ?_) (fun c28 => ?_)
            · refine fz_aload_n kX11_judge rfl rfl ?_
              refine fz_iload_n kX11_judge rfl rfl ?_
              refine fz_callV (d' := 0) (M' := mX11_noRow) (As := [fz_i s]) (st := []) kX11_judge rfl rfl vX11_noRow rfl rfl rfl rfl (Nat.le_of_ble_eq_true rfl) (Nat.le_of_ble_eq_true rfl) (by decide) (sX11_noRow h hI s (by omega)) (fun H29 r30 q31 o32 => ?_)
              obtain ⟨e33, y35, rfl, f34⟩ := q31
              subst H29
              clear o32
              refine fz_istore (ls' := [(4, fz_i y35), (0, fz_r 53), (1, fz_i s), (2, fz_i on), (3, fz_i th)]) kX11_judge rfl (by decide) rfl ?_
              refine fz_iload kX11_judge rfl rfl ?_
              refine fz_if_ge (tgt := 39) kX11_judge rfl (by decide) (fun c36 => ?_) (fun c36 => ?_)
              · refine fz_aload_n kX11_judge rfl rfl ?_
                refine fz_callV (d' := 3) (M' := mX11_allHear) (As := []) (st := []) kX11_judge rfl rfl vX11_allHear rfl rfl rfl rfl (Nat.le_of_ble_eq_true rfl) (Nat.le_of_ble_eq_true rfl) (by decide) (sX11_allHear h hI  ) (fun H37 r38 q39 o40 => ?_)
                obtain ⟨hI41, hf42, rfl⟩ := q39
                clear o40
                have hf43 := fz_fr_tr hf hf42 (show fz_su [(86, 99999), (87, 99999), (88, 99999)] [(74, 99999), (75, 99999), (86, 99999), (87, 99999), (88, 99999)] = true from rfl)
                have hXw44 : fz_Xw H37 := fz_Xw_eq (hf42 53 19 rfl) (funext fun s => hf42 66 s rfl) (funext fun s => hf42 67 s rfl) (funext fun s => hf42 68 s rfl) (funext fun s => hf42 69 s rfl) hXw
                refine fz_aload_n kX11_judge rfl rfl ?_
                refine fz_iload_n kX11_judge rfl rfl ?_
                refine fz_iload_n kX11_judge rfl rfl ?_
                refine fz_iload_n kX11_judge rfl rfl ?_
                refine fz_sipush ⟨by decide, by decide⟩ kX11_judge rfl ?_
                refine fz_idivN kX11_judge rfl (by omega) (by omega) (by omega) ?_
                refine fz_iload_n kX11_judge rfl rfl ?_
                refine fz_sipush ⟨by decide, by decide⟩ kX11_judge rfl ?_
                refine fz_iremN kX11_judge rfl (by omega) (by omega) (by omega) ?_
                refine fz_callV (d' := 4) (M' := mX11_wrong) (As := [fz_i s, fz_i on, fz_i (th / 1000), fz_i (th % 1000)]) (st := []) kX11_judge rfl rfl vX11_wrong rfl rfl rfl rfl (Nat.le_of_ble_eq_true rfl) (Nat.le_of_ble_eq_true rfl) (by decide) (sX11_wrong H37 hI41 s on (th / 1000) (th % 1000) hXw44 (by omega) (by omega)) (fun H45 r46 q47 o48 => ?_)
                obtain ⟨hI49, hf50, hXw51, y53, rfl, f52⟩ := q47
                clear o48
                have hf54 := fz_fr_tr hf43 hf50 (show fz_su [(74, 99999), (75, 99999)] [(74, 99999), (75, 99999), (86, 99999), (87, 99999), (88, 99999)] = true from rfl)
                exact fz_iret kX11_judge rfl rfl (fun _ => ⟨hI49, hf54, hXw51, _, rfl, (by omega)⟩)
              · refine fz_iload kX11_judge rfl rfl ?_
                exact fz_iret kX11_judge rfl rfl (fun _ => ⟨hI, hf, hXw, _, rfl, (by omega)⟩)
            · exfalso; omega
          · refine fz_if_ne (tgt := 24) kX11_judge rfl (by decide) (fun c55 => ?_) (fun c55 => ?_)
            · exfalso; omega
            · refine fz_iconst ⟨by decide, by decide⟩ kX11_judge rfl ?_
              exact fz_iret kX11_judge rfl rfl (fun _ => ⟨hI, hf, hXw, _, rfl, (by omega)⟩)
      · refine fz_if_eq (tgt := 22) kX11_judge rfl (by decide) (fun c56 => ?_) (fun c56 => ?_)
        · refine fz_iconst ⟨by decide, by decide⟩ kX11_judge rfl ?_
          exact fz_iret kX11_judge rfl rfl (fun _ => ⟨hI, hf, hXw, _, rfl, (by omega)⟩)
        · exfalso; omega
  · refine fz_if_eq (tgt := 22) kX11_judge rfl (by decide) (fun c57 => ?_) (fun c57 => ?_)
    · refine fz_iconst ⟨by decide, by decide⟩ kX11_judge rfl ?_
      exact fz_iret kX11_judge rfl rfl (fun _ => ⟨hI, hf, hXw, _, rfl, (by omega)⟩)
    · exfalso; omega

abbrev qX11_which (h : fz_H) (s on th wh : Int) : fz_H → Option fz_V → Prop := fun h' r0 => fz_Iv h' ∧ fz_fr [(60, 99999), (74, 99999), (75, 99999), (86, 99999), (87, 99999), (88, 99999)] h h' ∧ fz_Xw h' ∧ ∃ r : Int, r0 = some (fz_i r) ∧ ((-2147483648) ≤ r ∧ r ≤ 2147483647) ∧ (h' 60 = h 60)
set_option maxHeartbeats 1000000 in
set_option maxRecDepth 100000 in
theorem sX11_which (h : fz_H) (hI : fz_Iv h) (s on th wh : Int) (hXw : fz_Xw h) : fz_R 5 mX11_which 0 [(0, fz_r 53), (1, fz_i s), (2, fz_i on), (3, fz_i th), (4, fz_i wh)] [] h (qX11_which h s on th wh) := by
  refine fz_knowl (fun hk => ?_)
  have hr_s : -2147483648 ≤ s ∧ s < 2147483648 := hk _ (List.Mem.tail _ (List.Mem.head _))
  have hr_on : -2147483648 ≤ on ∧ on < 2147483648 := hk _ (List.Mem.tail _ (List.Mem.tail _ (List.Mem.head _)))
  have hr_th : -2147483648 ≤ th ∧ th < 2147483648 := hk _ (List.Mem.tail _ (List.Mem.tail _ (List.Mem.tail _ (List.Mem.head _))))
  have hr_wh : -2147483648 ≤ wh ∧ wh < 2147483648 := hk _ (List.Mem.tail _ (List.Mem.tail _ (List.Mem.tail _ (List.Mem.tail _ (List.Mem.head _)))))
  clear hk
  have hf : fz_fr [(60, 99999), (74, 99999), (75, 99999), (86, 99999), (87, 99999), (88, 99999)] h h := fz_fr_rf
  refine fz_iload_n kX11_which rfl rfl ?_
  refine fz_callS (d' := 1) (M' := mX11_isShelf) (As := [fz_i s]) (st := []) kX11_which rfl rfl vX11_isShelf rfl rfl (Nat.le_of_ble_eq_true rfl) (Nat.le_of_ble_eq_true rfl) (by decide) (sX11_isShelf h hI s ) (fun H1 r2 q3 o4 => ?_)
  obtain ⟨e5, y6, rfl, p7⟩ := q3
  subst H1
  clear o4
  rcases p7 with ⟨rfl, c8⟩ | ⟨rfl, c8⟩
  · refine fz_if_eq (tgt := 32) kX11_which rfl (by decide) (fun c9 => ?_) (fun c9 => ?_)
    · exfalso; omega
    · refine fz_iload_n kX11_which rfl rfl ?_
      refine fz_callS (d' := 1) (M' := mX11_isPerson) (As := [fz_i on]) (st := []) kX11_which rfl rfl vX11_isPerson rfl rfl (Nat.le_of_ble_eq_true rfl) (Nat.le_of_ble_eq_true rfl) (by decide) (sX11_isPerson h hI on ) (fun H10 r11 q12 o13 => ?_)
      obtain ⟨e14, y15, rfl, p16⟩ := q12
      subst H10
      clear o13
      rcases p16 with ⟨rfl, c17⟩ | ⟨rfl, c17⟩
      · refine fz_if_eq (tgt := 32) kX11_which rfl (by decide) (fun c18 => ?_) (fun c18 => ?_)
        · exfalso; omega
        · refine fz_aload_n kX11_which rfl rfl ?_
          refine fz_iload_n kX11_which rfl rfl ?_
          have b19 : 0 ≤ h 53 0 ∧ h 53 0 ≤ 8 := hI.1 53 _
          refine fz_callV (d' := 2) (M' := mX11_isWhen) (As := [fz_i th]) (st := []) kX11_which rfl rfl vX11_isWhen rfl rfl rfl rfl (Nat.le_of_ble_eq_true rfl) (Nat.le_of_ble_eq_true rfl) (by decide) (sX11_isWhen h hI th ) (fun H20 r21 q22 o23 => ?_)
          obtain ⟨e24, y25, rfl, p26⟩ := q22
          subst H20
          clear o23
          rcases p26 with ⟨rfl, c27⟩ | ⟨rfl, c27⟩
          · refine fz_if_eq (tgt := 32) kX11_which rfl (by decide) (fun c28 => ?_) (fun c28 => ?_)
            · exfalso; omega
            · refine fz_iload kX11_which rfl rfl ?_
              refine fz_iconst ⟨by decide, by decide⟩ kX11_which rfl ?_
              refine fz_iconst ⟨by decide, by decide⟩ kX11_which rfl ?_
              refine fz_callS (d' := 0) (M' := mX11_within) (As := [fz_i wh, fz_i 0, fz_i 2]) (st := []) kX11_which rfl rfl vX11_within rfl rfl (Nat.le_of_ble_eq_true rfl) (Nat.le_of_ble_eq_true rfl) (by decide) (sX11_within h hI wh 0 2 ) (fun H29 r30 q31 o32 => ?_)
              obtain ⟨e33, y34, rfl, p35⟩ := q31
              subst H29
              clear o32
              rcases p35 with ⟨rfl, c36⟩ | ⟨rfl, c36⟩
              · refine fz_if_ne (tgt := 34) kX11_which rfl (by decide) (fun c37 => ?_) (fun c37 => ?_)
                · refine fz_aload_n kX11_which rfl rfl ?_
                  refine fz_iload_n kX11_which rfl rfl ?_
                  refine fz_callV (d' := 0) (M' := mX11_noRow) (As := [fz_i s]) (st := []) kX11_which rfl rfl vX11_noRow rfl rfl rfl rfl (Nat.le_of_ble_eq_true rfl) (Nat.le_of_ble_eq_true rfl) (by decide) (sX11_noRow h hI s (by omega)) (fun H38 r39 q40 o41 => ?_)
                  obtain ⟨e42, y44, rfl, f43⟩ := q40
                  subst H38
                  clear o41
                  refine fz_istore (ls' := [(5, fz_i y44), (0, fz_r 53), (1, fz_i s), (2, fz_i on), (3, fz_i th), (4, fz_i wh)]) kX11_which rfl (by decide) rfl ?_
                  refine fz_iload kX11_which rfl rfl ?_
                  refine fz_if_ge (tgt := 49) kX11_which rfl (by decide) (fun c45 => ?_) (fun c45 => ?_)
                  · refine fz_aload_n kX11_which rfl rfl ?_
                    refine fz_callV (d' := 3) (M' := mX11_allHear) (As := []) (st := []) kX11_which rfl rfl vX11_allHear rfl rfl rfl rfl (Nat.le_of_ble_eq_true rfl) (Nat.le_of_ble_eq_true rfl) (by decide) (sX11_allHear h hI  ) (fun H46 r47 q48 o49 => ?_)
                    obtain ⟨hI50, hf51, rfl⟩ := q48
                    clear o49
                    have hf52 := fz_fr_tr hf hf51 (show fz_su [(86, 99999), (87, 99999), (88, 99999)] [(60, 99999), (74, 99999), (75, 99999), (86, 99999), (87, 99999), (88, 99999)] = true from rfl)
                    have hXw53 : fz_Xw H46 := fz_Xw_eq (hf51 53 19 rfl) (funext fun s => hf51 66 s rfl) (funext fun s => hf51 67 s rfl) (funext fun s => hf51 68 s rfl) (funext fun s => hf51 69 s rfl) hXw
                    have t54 : H46 53 10 = h 53 10 := hf51 53 10 rfl
                    refine fz_aload_n kX11_which rfl rfl ?_
                    refine fz_iload_n kX11_which rfl rfl ?_
                    have b55 : 0 ≤ h 53 10 ∧ h 53 10 ≤ 11 := hI.1 53 _
                    have e56 : H46 53 10 = h 53 10 := hf52 53 10 rfl
                    refine fz_callV (d' := 0) (M' := mX11_deedsOf) (As := [fz_i on]) (st := []) kX11_which rfl rfl vX11_deedsOf rfl rfl rfl rfl (Nat.le_of_ble_eq_true rfl) (Nat.le_of_ble_eq_true rfl) (by decide) (sX11_deedsOf H46 hI50 on ) (fun H57 r58 q59 o60 => ?_)
                    obtain ⟨e61, y65, rfl, f62, f63, f64⟩ := q59
                    subst H57
                    clear o60
                    refine fz_istore (ls' := [(6, fz_i y65), (5, fz_i y44), (0, fz_r 53), (1, fz_i s), (2, fz_i on), (3, fz_i th), (4, fz_i wh)]) kX11_which rfl (by decide) rfl ?_
                    refine fz_iconst ⟨by decide, by decide⟩ kX11_which rfl ?_
                    refine fz_istore (ls' := [(7, fz_i 0), (6, fz_i y65), (5, fz_i y44), (0, fz_r 53), (1, fz_i s), (2, fz_i on), (3, fz_i th), (4, fz_i wh)]) kX11_which rfl (by decide) rfl ?_
                    refine fz_bipush ⟨by decide, by decide⟩ kX11_which rfl ?_
                    refine fz_istore (ls' := [(8, fz_i (-2)), (7, fz_i 0), (6, fz_i y65), (5, fz_i y44), (0, fz_r 53), (1, fz_i s), (2, fz_i on), (3, fz_i th), (4, fz_i wh)]) kX11_which rfl (by decide) rfl ?_
                    refine fz_iload kX11_which rfl rfl ?_
                    refine fz_istore (ls' := [(9, fz_i y65), (8, fz_i (-2)), (7, fz_i 0), (6, fz_i y65), (5, fz_i y44), (0, fz_r 53), (1, fz_i s), (2, fz_i on), (3, fz_i th), (4, fz_i wh)]) kX11_which rfl (by decide) rfl ?_
                    refine fz_iload kX11_which rfl rfl ?_
                    refine fz_istore (ls' := [(10, fz_i y65), (9, fz_i y65), (8, fz_i (-2)), (7, fz_i 0), (6, fz_i y65), (5, fz_i y44), (0, fz_r 53), (1, fz_i s), (2, fz_i on), (3, fz_i th), (4, fz_i wh)]) kX11_which rfl (by decide) rfl ?_
                    have lp75 : ∀ (n74 : Nat) (x66 : Int) (x67 : Int) (x68 : Int) (x69 : Int) (H71 : fz_H), fz_Iv H71 → fz_fr [(60, 99999), (74, 99999), (75, 99999), (86, 99999), (87, 99999), (88, 99999)] h H71 → fz_Xw H71 → ((-1) ≤ x66 ∧ x66 ≤ 2047) → ((-2147483648) ≤ x67 ∧ x67 ≤ 2147483647) → ((-2147483648) ≤ x68 ∧ x68 ≤ 2147483647) → (0 ≤ x69 ∧ x69 ≤ 2048) → (x69 + x66 ≤ 2047) → (H71 53 10 = h 53 10) → (H71 60 = h 60) → (x66 + 1 - 0).toNat < n74 → fz_R 5 mX11_which 75 [(10, fz_i x66), (9, fz_i x67), (8, fz_i x68), (7, fz_i x69), (6, fz_i y65), (5, fz_i y44), (0, fz_r 53), (1, fz_i s), (2, fz_i on), (3, fz_i th), (4, fz_i wh)] [] H71 (qX11_which h s on th wh) := by
                      intro n74
                      induction n74 with
                      | zero => intro x66 x67 x68 x69 H71 hI72 hf73 hXw70 hv78 hv79 hv80 hv81 hv82 hv83 hv84 hm77; exact absurd hm77 (by omega)
                      | succ n74 ih76 =>
                        intro x66 x67 x68 x69 H71 hI72 hf73 hXw70 hv78 hv79 hv80 hv81 hv82 hv83 hv84 hm77
                        refine fz_iload kX11_which rfl rfl ?_
                        refine fz_if_lt (tgt := 169) kX11_which rfl (by decide) (fun c85 => ?_) (fun c85 => ?_)
                        · refine fz_iload kX11_which rfl rfl ?_
                          refine fz_if_ne (tgt := 179) kX11_which rfl (by decide) (fun c86 => ?_) (fun c86 => ?_)
                          · refine fz_iload kX11_which rfl rfl ?_
                            refine fz_iconst ⟨by decide, by decide⟩ kX11_which rfl ?_
                            refine fz_icmp_eq (tgt := 190) kX11_which rfl (by decide) (fun c87 => ?_) (fun c87 => ?_)
                            · refine fz_iload kX11_which rfl rfl ?_
                              refine fz_goto (tgt := 197) kX11_which rfl (by decide) ?_
                              exact fz_iret kX11_which rfl rfl (fun _ => ⟨hI72, hf73, hXw70, _, rfl, (by omega), (by first | exact hv84 | rfl)⟩)
                            · refine fz_iload kX11_which rfl rfl ?_
                              refine fz_if_ne (tgt := 195) kX11_which rfl (by decide) (fun c89 => ?_) (fun c89 => ?_)
                              · refine fz_iload kX11_which rfl rfl ?_
                                exact fz_iret kX11_which rfl rfl (fun _ => ⟨hI72, hf73, hXw70, _, rfl, (by omega), (by first | exact hv84 | rfl)⟩)
                              · refine fz_iload kX11_which rfl rfl ?_
                                refine fz_goto (tgt := 197) kX11_which rfl (by decide) ?_
                                exact fz_iret kX11_which rfl rfl (fun _ => ⟨hI72, hf73, hXw70, _, rfl, (by omega), (by first | exact hv84 | rfl)⟩)
                          · refine fz_iload kX11_which rfl rfl ?_
                            refine fz_goto (tgt := 197) kX11_which rfl (by decide) ?_
                            exact fz_iret kX11_which rfl rfl (fun _ => ⟨hI72, hf73, hXw70, _, rfl, (by omega), (by first | exact hv84 | rfl)⟩)
                        · refine fz_iload kX11_which rfl rfl ?_
                          refine fz_iload kX11_which rfl rfl ?_
                          refine fz_iconst ⟨by decide, by decide⟩ kX11_which rfl ?_
                          refine fz_ixor kX11_which rfl ?_
                          have b93 : -2147483648 ≤ (fz_xor y65 (-1)) ∧ (fz_xor y65 (-1)) < 2147483648 := fz_b32 _
                          refine fz_iand kX11_which rfl ?_
                          have b94 : -2147483648 ≤ (fz_and x66 (fz_xor y65 (-1))) ∧ (fz_and x66 (fz_xor y65 (-1))) < 2147483648 := fz_b32 _
                          refine fz_if_eq (tgt := 93) kX11_which rfl (by decide) (fun c95 => ?_) (fun c95 => ?_)
                          · refine fz_aload_n kX11_which rfl rfl ?_
                            refine fz_iload kX11_which rfl rfl ?_
                            refine fz_iload kX11_which rfl rfl ?_
                            refine fz_iconst ⟨by decide, by decide⟩ kX11_which rfl ?_
                            refine fz_ixor kX11_which rfl ?_
                            have b96 : -2147483648 ≤ (fz_xor x66 (-1)) ∧ (fz_xor x66 (-1)) < 2147483648 := fz_b32 _
                            refine fz_iand kX11_which rfl ?_
                            have b97 : -2147483648 ≤ (fz_and y65 (fz_xor x66 (-1))) ∧ (fz_and y65 (fz_xor x66 (-1))) < 2147483648 := fz_b32 _
                            refine fz_bipush ⟨by decide, by decide⟩ kX11_which rfl ?_
                            have b98 : 0 ≤ h 53 10 ∧ h 53 10 ≤ 11 := hI.1 53 _
                            have e99 : H71 53 10 = h 53 10 := hf73 53 10 rfl
                            refine fz_callV (d' := 0) (M' := mX11_forgets) (As := [fz_i (fz_and y65 (fz_xor x66 (-1))), fz_i (-2)]) (st := []) kX11_which rfl rfl vX11_forgets rfl rfl rfl rfl (Nat.le_of_ble_eq_true rfl) (Nat.le_of_ble_eq_true rfl) (by decide) (sX11_forgets H71 hI72 (fz_and y65 (fz_xor x66 (-1))) (-2) ) (fun H100 r101 q102 o103 => ?_)
                            obtain ⟨hI104, hf105, rfl, f106⟩ := q102
                            clear o103
                            have hf107 := fz_fr_tr hf73 hf105 (show fz_su [(60, 99999)] [(60, 99999), (74, 99999), (75, 99999), (86, 99999), (87, 99999), (88, 99999)] = true from rfl)
                            have hXw108 : fz_Xw H100 := fz_Xw_eq (hf105 53 19 rfl) (funext fun s => hf105 66 s rfl) (funext fun s => hf105 67 s rfl) (funext fun s => hf105 68 s rfl) (funext fun s => hf105 69 s rfl) hXw70
                            have t109 : H100 53 10 = H71 53 10 := hf105 53 10 rfl
                            refine fz_aload_n kX11_which rfl rfl ?_
                            refine fz_iload_n kX11_which rfl rfl ?_
                            refine fz_iload_n kX11_which rfl rfl ?_
                            refine fz_iload_n kX11_which rfl rfl ?_
                            refine fz_sipush ⟨by decide, by decide⟩ kX11_which rfl ?_
                            refine fz_idivN kX11_which rfl (by omega) (by omega) (by omega) ?_
                            refine fz_iload_n kX11_which rfl rfl ?_
                            refine fz_sipush ⟨by decide, by decide⟩ kX11_which rfl ?_
                            refine fz_iremN kX11_which rfl (by omega) (by omega) (by omega) ?_
                            refine fz_callV (d' := 4) (M' := mX11_wrong) (As := [fz_i s, fz_i on, fz_i (th / 1000), fz_i (th % 1000)]) (st := []) kX11_which rfl rfl vX11_wrong rfl rfl rfl rfl (Nat.le_of_ble_eq_true rfl) (Nat.le_of_ble_eq_true rfl) (by decide) (sX11_wrong H100 hI104 s on (th / 1000) (th % 1000) hXw108 (by omega) (by omega)) (fun H110 r111 q112 o113 => ?_)
                            obtain ⟨hI114, hf115, hXw116, y118, rfl, f117⟩ := q112
                            clear o113
                            have hf119 := fz_fr_tr hf107 hf115 (show fz_su [(74, 99999), (75, 99999)] [(60, 99999), (74, 99999), (75, 99999), (86, 99999), (87, 99999), (88, 99999)] = true from rfl)
                            have t120 : H110 53 10 = H100 53 10 := hf115 53 10 rfl
                            refine fz_bipush ⟨by decide, by decide⟩ kX11_which rfl ?_
                            refine fz_icmp_ne (tgt := 131) kX11_which rfl (by decide) (fun c121 => ?_) (fun c121 => ?_)
                            · refine fz_iconst ⟨by decide, by decide⟩ kX11_which rfl ?_
                              refine fz_istore (ls' := [(11, fz_i 0), (10, fz_i x66), (9, fz_i x67), (8, fz_i x68), (7, fz_i x69), (6, fz_i y65), (5, fz_i y44), (0, fz_r 53), (1, fz_i s), (2, fz_i on), (3, fz_i th), (4, fz_i wh)]) kX11_which rfl (by decide) rfl ?_
                              refine fz_aload_n kX11_which rfl rfl ?_
                              refine fz_iload kX11_which rfl rfl ?_
                              refine fz_iload_n kX11_which rfl rfl ?_
                              have e122 : H110 53 10 = h 53 10 := hf119 53 10 rfl
                              refine fz_callV (d' := 0) (M' := mX11_forgets) (As := [fz_i y65, fz_i on]) (st := []) kX11_which rfl rfl vX11_forgets rfl rfl rfl rfl (Nat.le_of_ble_eq_true rfl) (Nat.le_of_ble_eq_true rfl) (by decide) (sX11_forgets H110 hI114 y65 on ) (fun H123 r124 q125 o126 => ?_)
                              obtain ⟨hI127, hf128, rfl, f129⟩ := q125
                              clear o126
                              have hf130 := fz_fr_tr hf119 hf128 (show fz_su [(60, 99999)] [(60, 99999), (74, 99999), (75, 99999), (86, 99999), (87, 99999), (88, 99999)] = true from rfl)
                              have hXw131 : fz_Xw H123 := fz_Xw_eq (hf128 53 19 rfl) (funext fun s => hf128 66 s rfl) (funext fun s => hf128 67 s rfl) (funext fun s => hf128 68 s rfl) (funext fun s => hf128 69 s rfl) hXw116
                              have t132 : H123 53 10 = H110 53 10 := hf128 53 10 rfl
                              refine fz_iload kX11_which rfl rfl ?_
                              refine fz_if_ne (tgt := 149) kX11_which rfl (by decide) (fun c133 => ?_) (fun c133 => ?_)
                              · exfalso; omega
                              · refine fz_goto (tgt := 163) kX11_which rfl (by decide) ?_
                                refine fz_iincN (ls' := [(10, fz_i (x66 + (-1))), (11, fz_i 0), (9, fz_i x67), (8, fz_i x68), (7, fz_i x69), (6, fz_i y65), (5, fz_i y44), (0, fz_r 53), (1, fz_i s), (2, fz_i on), (3, fz_i th), (4, fz_i wh)]) kX11_which rfl (by decide) rfl (by omega) rfl ?_
                                refine fz_goto (tgt := 75) kX11_which rfl (by decide) ?_
                                refine fz_sub (fz_pk_sub (ls' := [(10, fz_i (x66 + (-1))), (9, fz_i x67), (8, fz_i x68), (7, fz_i x69), (6, fz_i y65), (5, fz_i y44), (0, fz_r 53), (1, fz_i s), (2, fz_i on), (3, fz_i th), (4, fz_i wh)]) [0, 2, 3, 4, 5, 6, 7, 8, 9, 10, 11] rfl) ?_
                                exact ih76 (x66 + (-1)) x67 x68 x69 H123 hI127 hf130 hXw131 (by omega) (by omega) (by omega) (by omega) (by omega) (by omega) (by first | exact fz_fg_back hv84 f106 (funext fun s => hf115 60 s rfl) f129 (funext fun s => hf51 60 s rfl) f64 (by omega) (by omega) (by omega) (fun _ _ z => fz_bt_l z) (fun _ _ z => z) | exact hv84) (by omega)
                            · refine fz_iconst ⟨by decide, by decide⟩ kX11_which rfl ?_
                              refine fz_goto (tgt := 132) kX11_which rfl (by decide) ?_
                              refine fz_istore (ls' := [(11, fz_i 1), (10, fz_i x66), (9, fz_i x67), (8, fz_i x68), (7, fz_i x69), (6, fz_i y65), (5, fz_i y44), (0, fz_r 53), (1, fz_i s), (2, fz_i on), (3, fz_i th), (4, fz_i wh)]) kX11_which rfl (by decide) rfl ?_
                              refine fz_aload_n kX11_which rfl rfl ?_
                              refine fz_iload kX11_which rfl rfl ?_
                              refine fz_iload_n kX11_which rfl rfl ?_
                              have e135 : H110 53 10 = h 53 10 := hf119 53 10 rfl
                              refine fz_callV (d' := 0) (M' := mX11_forgets) (As := [fz_i y65, fz_i on]) (st := []) kX11_which rfl rfl vX11_forgets rfl rfl rfl rfl (Nat.le_of_ble_eq_true rfl) (Nat.le_of_ble_eq_true rfl) (by decide) (sX11_forgets H110 hI114 y65 on ) (fun H136 r137 q138 o139 => ?_)
                              obtain ⟨hI140, hf141, rfl, f142⟩ := q138
                              clear o139
                              have hf143 := fz_fr_tr hf119 hf141 (show fz_su [(60, 99999)] [(60, 99999), (74, 99999), (75, 99999), (86, 99999), (87, 99999), (88, 99999)] = true from rfl)
                              have hXw144 : fz_Xw H136 := fz_Xw_eq (hf141 53 19 rfl) (funext fun s => hf141 66 s rfl) (funext fun s => hf141 67 s rfl) (funext fun s => hf141 68 s rfl) (funext fun s => hf141 69 s rfl) hXw116
                              have t145 : H136 53 10 = H110 53 10 := hf141 53 10 rfl
                              refine fz_iload kX11_which rfl rfl ?_
                              refine fz_if_ne (tgt := 149) kX11_which rfl (by decide) (fun c146 => ?_) (fun c146 => ?_)
                              · refine fz_iincN (ls' := [(7, fz_i (x69 + 1)), (11, fz_i 1), (10, fz_i x66), (9, fz_i x67), (8, fz_i x68), (6, fz_i y65), (5, fz_i y44), (0, fz_r 53), (1, fz_i s), (2, fz_i on), (3, fz_i th), (4, fz_i wh)]) kX11_which rfl (by decide) rfl (by omega) rfl ?_
                                refine fz_iload kX11_which rfl rfl ?_
                                refine fz_istore (ls' := [(8, fz_i x66), (7, fz_i (x69 + 1)), (11, fz_i 1), (10, fz_i x66), (9, fz_i x67), (6, fz_i y65), (5, fz_i y44), (0, fz_r 53), (1, fz_i s), (2, fz_i on), (3, fz_i th), (4, fz_i wh)]) kX11_which rfl (by decide) rfl ?_
                                refine fz_iload kX11_which rfl rfl ?_
                                refine fz_iload kX11_which rfl rfl ?_
                                refine fz_iand kX11_which rfl ?_
                                have b147 : -2147483648 ≤ (fz_and x67 x66) ∧ (fz_and x67 x66) < 2147483648 := fz_b32 _
                                refine fz_istore (ls' := [(9, fz_i (fz_and x67 x66)), (8, fz_i x66), (7, fz_i (x69 + 1)), (11, fz_i 1), (10, fz_i x66), (6, fz_i y65), (5, fz_i y44), (0, fz_r 53), (1, fz_i s), (2, fz_i on), (3, fz_i th), (4, fz_i wh)]) kX11_which rfl (by decide) rfl ?_
                                refine fz_iincN (ls' := [(10, fz_i (x66 + (-1))), (9, fz_i (fz_and x67 x66)), (8, fz_i x66), (7, fz_i (x69 + 1)), (11, fz_i 1), (6, fz_i y65), (5, fz_i y44), (0, fz_r 53), (1, fz_i s), (2, fz_i on), (3, fz_i th), (4, fz_i wh)]) kX11_which rfl (by decide) rfl (by omega) rfl ?_
                                refine fz_goto (tgt := 75) kX11_which rfl (by decide) ?_
                                refine fz_sub (fz_pk_sub (ls' := [(10, fz_i (x66 + (-1))), (9, fz_i (fz_and x67 x66)), (8, fz_i x66), (7, fz_i (x69 + 1)), (6, fz_i y65), (5, fz_i y44), (0, fz_r 53), (1, fz_i s), (2, fz_i on), (3, fz_i th), (4, fz_i wh)]) [0, 1, 2, 3, 5, 6, 7, 8, 9, 10, 11] rfl) ?_
                                exact ih76 (x66 + (-1)) (fz_and x67 x66) x66 (x69 + 1) H136 hI140 hf143 hXw144 (by omega) (by omega) (by omega) (by omega) (by omega) (by omega) (by first | exact fz_fg_back hv84 f106 (funext fun s => hf115 60 s rfl) f142 (funext fun s => hf51 60 s rfl) f64 (by omega) (by omega) (by omega) (fun _ _ z => fz_bt_l z) (fun _ _ z => z) | exact hv84) (by omega)
                              · exfalso; omega
                          · refine fz_goto (tgt := 163) kX11_which rfl (by decide) ?_
                            refine fz_iincN (ls' := [(10, fz_i (x66 + (-1))), (9, fz_i x67), (8, fz_i x68), (7, fz_i x69), (6, fz_i y65), (5, fz_i y44), (0, fz_r 53), (1, fz_i s), (2, fz_i on), (3, fz_i th), (4, fz_i wh)]) kX11_which rfl (by decide) rfl (by omega) rfl ?_
                            refine fz_goto (tgt := 75) kX11_which rfl (by decide) ?_
                            exact ih76 (x66 + (-1)) x67 x68 x69 H71 hI72 hf73 hXw70 (by omega) (by omega) (by omega) (by omega) (by omega) (by omega) (by first | exact fz_fg_back hv84 lost (funext fun s => lost 60 s rfl) lost (funext fun s => hf51 60 s rfl) f64 (by omega) (by omega) (by omega) (fun _ _ z => fz_bt_l z) (fun _ _ z => z) | exact hv84) (by omega)
                    exact lp75 _ y65 y65 (-2) 0 H46 hI50 hf52 hXw53 (by omega) (by omega) (by omega) (by omega) (by omega) (by omega) ((funext fun s => hf51 60 s rfl)) (Nat.lt_succ_self _)
                  · refine fz_iload kX11_which rfl rfl ?_
                    exact fz_iret kX11_which rfl rfl (fun _ => ⟨hI, hf, hXw, _, rfl, (by omega), (by first | exact lost | rfl)⟩)
                · exfalso; omega
              · refine fz_if_ne (tgt := 34) kX11_which rfl (by decide) (fun c152 => ?_) (fun c152 => ?_)
                · exfalso; omega
                · refine fz_iconst ⟨by decide, by decide⟩ kX11_which rfl ?_
                  exact fz_iret kX11_which rfl rfl (fun _ => ⟨hI, hf, hXw, _, rfl, (by omega), (by first | exact lost | rfl)⟩)
          · refine fz_if_eq (tgt := 32) kX11_which rfl (by decide) (fun c154 => ?_) (fun c154 => ?_)
            · refine fz_iconst ⟨by decide, by decide⟩ kX11_which rfl ?_
              exact fz_iret kX11_which rfl rfl (fun _ => ⟨hI, hf, hXw, _, rfl, (by omega), (by first | exact lost | rfl)⟩)
            · exfalso; omega
      · refine fz_if_eq (tgt := 32) kX11_which rfl (by decide) (fun c156 => ?_) (fun c156 => ?_)
        · refine fz_iconst ⟨by decide, by decide⟩ kX11_which rfl ?_
          exact fz_iret kX11_which rfl rfl (fun _ => ⟨hI, hf, hXw, _, rfl, (by omega), (by first | exact lost | rfl)⟩)
        · exfalso; omega
  · refine fz_if_eq (tgt := 32) kX11_which rfl (by decide) (fun c158 => ?_) (fun c158 => ?_)
    · refine fz_iconst ⟨by decide, by decide⟩ kX11_which rfl ?_
      exact fz_iret kX11_which rfl rfl (fun _ => ⟨hI, hf, hXw, _, rfl, (by omega), (by first | exact lost | rfl)⟩)
    · exfalso; omega

abbrev qX11_first (h : fz_H) (pm tx wh : Int) : fz_H → Option fz_V → Prop := fun h' r0 => fz_Iv h' ∧ fz_fr [(74, 99999), (75, 99999), (86, 99999), (87, 99999), (88, 99999)] h h' ∧ fz_Xw h' ∧ ∃ r : Int, r0 = some (fz_i r) ∧ ((-2147483648) ≤ r ∧ r ≤ 2147483647)
set_option maxHeartbeats 1000000 in
set_option maxRecDepth 100000 in
theorem sX11_first (h : fz_H) (hI : fz_Iv h) (pm tx wh : Int) (hXw : fz_Xw h) : fz_R 4 mX11_first 0 [(0, fz_r 53), (1, fz_i pm), (2, fz_i tx), (3, fz_i wh)] [] h (qX11_first h pm tx wh) := by
  refine fz_knowl (fun hk => ?_)
  have hr_pm : -2147483648 ≤ pm ∧ pm < 2147483648 := hk _ (List.Mem.tail _ (List.Mem.head _))
  have hr_tx : -2147483648 ≤ tx ∧ tx < 2147483648 := hk _ (List.Mem.tail _ (List.Mem.tail _ (List.Mem.head _)))
  have hr_wh : -2147483648 ≤ wh ∧ wh < 2147483648 := hk _ (List.Mem.tail _ (List.Mem.tail _ (List.Mem.tail _ (List.Mem.head _))))
  clear hk
  have hf : fz_fr [(74, 99999), (75, 99999), (86, 99999), (87, 99999), (88, 99999)] h h := fz_fr_rf
  refine fz_iload_n kX11_first rfl rfl ?_
  refine fz_callS (d' := 2) (M' := mX11_isMarked) (As := [fz_i pm]) (st := []) kX11_first rfl rfl vX11_isMarked rfl rfl (Nat.le_of_ble_eq_true rfl) (Nat.le_of_ble_eq_true rfl) (by decide) (sX11_isMarked h hI pm ) (fun H1 r2 q3 o4 => ?_)
  obtain ⟨e5, y6, rfl, p7⟩ := q3
  subst H1
  clear o4
  rcases p7 with ⟨rfl, c8⟩ | ⟨rfl, c8⟩
  · refine fz_if_eq (tgt := 38) kX11_first rfl (by decide) (fun c9 => ?_) (fun c9 => ?_)
    · exfalso; omega
    · refine fz_iload_n kX11_first rfl rfl ?_
      refine fz_if_lt (tgt := 38) kX11_first rfl (by decide) (fun c10 => ?_) (fun c10 => ?_)
      · refine fz_iconst ⟨by decide, by decide⟩ kX11_first rfl ?_
        exact fz_iret kX11_first rfl rfl (fun _ => ⟨hI, hf, hXw, _, rfl, (by omega)⟩)
      · refine fz_aload_n kX11_first rfl rfl ?_
        refine fz_iload_n kX11_first rfl rfl ?_
        refine fz_bipush ⟨by decide, by decide⟩ kX11_first rfl ?_
        refine fz_idivN kX11_first rfl (by omega) (by omega) (by omega) ?_
        have b11 : 0 ≤ h 53 0 ∧ h 53 0 ≤ 8 := hI.1 53 _
        refine fz_callV (d' := 1) (M' := mX11_isTown) (As := [fz_i (tx / 100)]) (st := []) kX11_first rfl rfl vX11_isTown rfl rfl rfl rfl (Nat.le_of_ble_eq_true rfl) (Nat.le_of_ble_eq_true rfl) (by decide) (sX11_isTown h hI (tx / 100) ) (fun H12 r13 q14 o15 => ?_)
        obtain ⟨e16, y17, rfl, p18⟩ := q14
        subst H12
        clear o15
        rcases p18 with ⟨rfl, c19⟩ | ⟨rfl, c19⟩
        · refine fz_if_eq (tgt := 38) kX11_first rfl (by decide) (fun c20 => ?_) (fun c20 => ?_)
          · exfalso; omega
          · refine fz_iload_n kX11_first rfl rfl ?_
            refine fz_bipush ⟨by decide, by decide⟩ kX11_first rfl ?_
            refine fz_iremN kX11_first rfl (by omega) (by omega) (by omega) ?_
            refine fz_if_eq (tgt := 38) kX11_first rfl (by decide) (fun c21 => ?_) (fun c21 => ?_)
            · refine fz_iconst ⟨by decide, by decide⟩ kX11_first rfl ?_
              exact fz_iret kX11_first rfl rfl (fun _ => ⟨hI, hf, hXw, _, rfl, (by omega)⟩)
            · refine fz_iload_n kX11_first rfl rfl ?_
              refine fz_iconst ⟨by decide, by decide⟩ kX11_first rfl ?_
              refine fz_iconst ⟨by decide, by decide⟩ kX11_first rfl ?_
              refine fz_callS (d' := 0) (M' := mX11_within) (As := [fz_i wh, fz_i 0, fz_i 1]) (st := []) kX11_first rfl rfl vX11_within rfl rfl (Nat.le_of_ble_eq_true rfl) (Nat.le_of_ble_eq_true rfl) (by decide) (sX11_within h hI wh 0 1 ) (fun H22 r23 q24 o25 => ?_)
              obtain ⟨e26, y27, rfl, p28⟩ := q24
              subst H22
              clear o25
              rcases p28 with ⟨rfl, c29⟩ | ⟨rfl, c29⟩
              · refine fz_if_ne (tgt := 40) kX11_first rfl (by decide) (fun c30 => ?_) (fun c30 => ?_)
                · refine fz_aload_n kX11_first rfl rfl ?_
                  refine fz_callV (d' := 3) (M' := mX11_allHear) (As := []) (st := []) kX11_first rfl rfl vX11_allHear rfl rfl rfl rfl (Nat.le_of_ble_eq_true rfl) (Nat.le_of_ble_eq_true rfl) (by decide) (sX11_allHear h hI  ) (fun H31 r32 q33 o34 => ?_)
                  obtain ⟨hI35, hf36, rfl⟩ := q33
                  clear o34
                  have hf37 := fz_fr_tr hf hf36 (show fz_su [(86, 99999), (87, 99999), (88, 99999)] [(74, 99999), (75, 99999), (86, 99999), (87, 99999), (88, 99999)] = true from rfl)
                  have hXw38 : fz_Xw H31 := fz_Xw_eq (hf36 53 19 rfl) (funext fun s => hf36 66 s rfl) (funext fun s => hf36 67 s rfl) (funext fun s => hf36 68 s rfl) (funext fun s => hf36 69 s rfl) hXw
                  refine fz_bipush ⟨by decide, by decide⟩ kX11_first rfl ?_
                  refine fz_istore (ls' := [(4, fz_i (-2)), (0, fz_r 53), (1, fz_i pm), (2, fz_i tx), (3, fz_i wh)]) kX11_first rfl (by decide) rfl ?_
                  refine fz_iconst ⟨by decide, by decide⟩ kX11_first rfl ?_
                  refine fz_istore (ls' := [(5, fz_i 0), (4, fz_i (-2)), (0, fz_r 53), (1, fz_i pm), (2, fz_i tx), (3, fz_i wh)]) kX11_first rfl (by decide) rfl ?_
                  have lp46 : ∀ (n45 : Nat) (x39 : Int) (x40 : Int) (H42 : fz_H), fz_Iv H42 → fz_fr [(74, 99999), (75, 99999), (86, 99999), (87, 99999), (88, 99999)] h H42 → fz_Xw H42 → (0 ≤ x39 ∧ x39 ≤ 2147483647) → ((-2147483648) ≤ x40 ∧ x40 ≤ 2147483647) → (1000 - x39).toNat < n45 → fz_R 4 mX11_first 51 [(5, fz_i x39), (4, fz_i x40), (0, fz_r 53), (1, fz_i pm), (2, fz_i tx), (3, fz_i wh)] [] H42 (qX11_first h pm tx wh) := by
                    intro n45
                    induction n45 with
                    | zero => intro x39 x40 H42 hI43 hf44 hXw41 hv49 hv50 hm48; exact absurd hm48 (by omega)
                    | succ n45 ih47 =>
                      intro x39 x40 H42 hI43 hf44 hXw41 hv49 hv50 hm48
                      refine fz_iload kX11_first rfl rfl ?_
                      refine fz_sipush ⟨by decide, by decide⟩ kX11_first rfl ?_
                      refine fz_icmp_ge (tgt := 104) kX11_first rfl (by decide) (fun c51 => ?_) (fun c51 => ?_)
                      · refine fz_iload kX11_first rfl rfl ?_
                        exact fz_iret kX11_first rfl rfl (fun _ => ⟨hI43, hf44, hXw41, _, rfl, (by omega)⟩)
                      · refine fz_aload_n kX11_first rfl rfl ?_
                        refine fz_iload_n kX11_first rfl rfl ?_
                        refine fz_bipush ⟨by decide, by decide⟩ kX11_first rfl ?_
                        refine fz_idivN kX11_first rfl (by omega) (by omega) (by omega) ?_
                        refine fz_iload_n kX11_first rfl rfl ?_
                        refine fz_bipush ⟨by decide, by decide⟩ kX11_first rfl ?_
                        refine fz_iremN kX11_first rfl (by omega) (by omega) (by omega) ?_
                        refine fz_iload_n kX11_first rfl rfl ?_
                        refine fz_bipush ⟨by decide, by decide⟩ kX11_first rfl ?_
                        refine fz_idivN kX11_first rfl (by omega) (by omega) (by omega) ?_
                        refine fz_iload kX11_first rfl rfl ?_
                        refine fz_callV (d' := 3) (M' := mX11_saidOf) (As := [fz_i (pm / 10), fz_i (pm % 10), fz_i (tx / 100), fz_i x39]) (st := []) kX11_first rfl rfl vX11_saidOf rfl rfl rfl rfl (Nat.le_of_ble_eq_true rfl) (Nat.le_of_ble_eq_true rfl) (by decide) (sX11_saidOf H42 hI43 (pm / 10) (pm % 10) (tx / 100) x39 hXw41 (by omega)) (fun H52 r53 q54 o55 => ?_)
                        obtain ⟨hI56, hf57, hXw58, y60, rfl, f59⟩ := q54
                        clear o55
                        have hf61 := fz_fr_tr hf44 hf57 (show fz_su [(74, 99999), (75, 99999)] [(74, 99999), (75, 99999), (86, 99999), (87, 99999), (88, 99999)] = true from rfl)
                        refine fz_iload_n kX11_first rfl rfl ?_
                        refine fz_bipush ⟨by decide, by decide⟩ kX11_first rfl ?_
                        refine fz_iremN kX11_first rfl (by omega) (by omega) (by omega) ?_
                        refine fz_icmp_ge (tgt := 87) kX11_first rfl (by decide) (fun c62 => ?_) (fun c62 => ?_)
                        · refine fz_iload kX11_first rfl rfl ?_
                          refine fz_istore (ls' := [(4, fz_i x39), (5, fz_i x39), (0, fz_r 53), (1, fz_i pm), (2, fz_i tx), (3, fz_i wh)]) kX11_first rfl (by decide) rfl ?_
                          refine fz_iload_n kX11_first rfl rfl ?_
                          refine fz_if_ne (tgt := 98) kX11_first rfl (by decide) (fun c63 => ?_) (fun c63 => ?_)
                          · refine fz_iincN (ls' := [(5, fz_i (x39 + 1)), (4, fz_i x39), (0, fz_r 53), (1, fz_i pm), (2, fz_i tx), (3, fz_i wh)]) kX11_first rfl (by decide) rfl (by omega) rfl ?_
                            refine fz_goto (tgt := 51) kX11_first rfl (by decide) ?_
                            exact ih47 (x39 + 1) x39 H52 hI56 hf61 hXw58 (by omega) (by omega) (by omega)
                          · refine fz_iload kX11_first rfl rfl ?_
                            exact fz_iret kX11_first rfl rfl (fun _ => ⟨hI56, hf61, hXw58, _, rfl, (by omega)⟩)
                        · refine fz_goto (tgt := 98) kX11_first rfl (by decide) ?_
                          refine fz_iincN (ls' := [(5, fz_i (x39 + 1)), (4, fz_i x40), (0, fz_r 53), (1, fz_i pm), (2, fz_i tx), (3, fz_i wh)]) kX11_first rfl (by decide) rfl (by omega) rfl ?_
                          refine fz_goto (tgt := 51) kX11_first rfl (by decide) ?_
                          exact ih47 (x39 + 1) x40 H52 hI56 hf61 hXw58 (by omega) (by omega) (by omega)
                  exact lp46 _ 0 (-2) H31 hI35 hf37 hXw38 (by omega) (by omega) (Nat.lt_succ_self _)
                · exfalso; omega
              · refine fz_if_ne (tgt := 40) kX11_first rfl (by decide) (fun c64 => ?_) (fun c64 => ?_)
                · exfalso; omega
                · refine fz_iconst ⟨by decide, by decide⟩ kX11_first rfl ?_
                  exact fz_iret kX11_first rfl rfl (fun _ => ⟨hI, hf, hXw, _, rfl, (by omega)⟩)
        · refine fz_if_eq (tgt := 38) kX11_first rfl (by decide) (fun c65 => ?_) (fun c65 => ?_)
          · refine fz_iconst ⟨by decide, by decide⟩ kX11_first rfl ?_
            exact fz_iret kX11_first rfl rfl (fun _ => ⟨hI, hf, hXw, _, rfl, (by omega)⟩)
          · exfalso; omega
  · refine fz_if_eq (tgt := 38) kX11_first rfl (by decide) (fun c66 => ?_) (fun c66 => ?_)
    · refine fz_iconst ⟨by decide, by decide⟩ kX11_first rfl ?_
      exact fz_iret kX11_first rfl rfl (fun _ => ⟨hI, hf, hXw, _, rfl, (by omega)⟩)
    · exfalso; omega

abbrev qX11_news (h : fz_H) (d hr : Int) : fz_H → Option fz_V → Prop := fun h' r0 => fz_Iv h' ∧ fz_fr [(86, 99999), (87, 99999)] h h' ∧ ∃ r : Int, r0 = some (fz_i r) ∧ ((-2) ≤ r ∧ r ≤ 8)
set_option maxHeartbeats 1000000 in
set_option maxRecDepth 100000 in
theorem sX11_news (h : fz_H) (hI : fz_Iv h) (d hr : Int) : fz_R 3 mX11_news 0 [(0, fz_r 53), (1, fz_i d), (2, fz_i hr)] [] h (qX11_news h d hr) := by
  refine fz_knowl (fun hk => ?_)
  have hr_d : -2147483648 ≤ d ∧ d < 2147483648 := hk _ (List.Mem.tail _ (List.Mem.head _))
  have hr_hr : -2147483648 ≤ hr ∧ hr < 2147483648 := hk _ (List.Mem.tail _ (List.Mem.tail _ (List.Mem.head _)))
  clear hk
  have hf : fz_fr [(86, 99999), (87, 99999)] h h := fz_fr_rf
  refine fz_aload_n kX11_news rfl rfl ?_
  refine fz_iload_n kX11_news rfl rfl ?_
  have b1 : 0 ≤ h 53 10 ∧ h 53 10 ≤ 11 := hI.1 53 _
  refine fz_callV (d' := 1) (M' := mX11_isDeed) (As := [fz_i d]) (st := []) kX11_news rfl rfl vX11_isDeed rfl rfl rfl rfl (Nat.le_of_ble_eq_true rfl) (Nat.le_of_ble_eq_true rfl) (by decide) (sX11_isDeed h hI d ) (fun H2 r3 q4 o5 => ?_)
  obtain ⟨e6, y7, rfl, p8⟩ := q4
  subst H2
  clear o5
  rcases p8 with ⟨rfl, c9⟩ | ⟨rfl, c9⟩
  · refine fz_if_eq (tgt := 20) kX11_news rfl (by decide) (fun c10 => ?_) (fun c10 => ?_)
    · exfalso; omega
    · refine fz_iload_n kX11_news rfl rfl ?_
      refine fz_bipush ⟨by decide, by decide⟩ kX11_news rfl ?_
      refine fz_sipush ⟨by decide, by decide⟩ kX11_news rfl ?_
      refine fz_callS (d' := 0) (M' := mX11_within) (As := [fz_i hr, fz_i (-2), fz_i 999]) (st := []) kX11_news rfl rfl vX11_within rfl rfl (Nat.le_of_ble_eq_true rfl) (Nat.le_of_ble_eq_true rfl) (by decide) (sX11_within h hI hr (-2) 999 ) (fun H11 r12 q13 o14 => ?_)
      obtain ⟨e15, y16, rfl, p17⟩ := q13
      subst H11
      clear o14
      rcases p17 with ⟨rfl, c18⟩ | ⟨rfl, c18⟩
      · refine fz_if_ne (tgt := 22) kX11_news rfl (by decide) (fun c19 => ?_) (fun c19 => ?_)
        · refine fz_bipush ⟨by decide, by decide⟩ kX11_news rfl ?_
          refine fz_istore_n (ls' := [(3, fz_i (-2)), (0, fz_r 53), (1, fz_i d), (2, fz_i hr)]) kX11_news rfl (by decide) rfl ?_
          refine fz_iconst ⟨by decide, by decide⟩ kX11_news rfl ?_
          refine fz_istore (ls' := [(4, fz_i 0), (3, fz_i (-2)), (0, fz_r 53), (1, fz_i d), (2, fz_i hr)]) kX11_news rfl (by decide) rfl ?_
          refine fz_iconst ⟨by decide, by decide⟩ kX11_news rfl ?_
          refine fz_istore (ls' := [(5, fz_i 0), (4, fz_i 0), (3, fz_i (-2)), (0, fz_r 53), (1, fz_i d), (2, fz_i hr)]) kX11_news rfl (by decide) rfl ?_
          have lp27 : ∀ (n26 : Nat) (x20 : Int) (x21 : Int) (x22 : Int) (H23 : fz_H), fz_Iv H23 → fz_fr [(86, 99999), (87, 99999)] h H23 → (0 ≤ x20 ∧ x20 ≤ 2147483647) → (0 ≤ x21 ∧ x21 ≤ 8) → ((-2) ≤ x22 ∧ x22 ≤ 7) → (x22 ≠ -1) → (x21 ≤ x20) → ((h 53 0) - x20).toNat < n26 → fz_R 3 mX11_news 31 [(5, fz_i x20), (4, fz_i x21), (3, fz_i x22), (0, fz_r 53), (1, fz_i d), (2, fz_i hr)] [] H23 (qX11_news h d hr) := by
            intro n26
            induction n26 with
            | zero => intro x20 x21 x22 H23 hI24 hf25 hv30 hv31 hv32 hv33 hv34 hm29; exact absurd hm29 (by omega)
            | succ n26 ih28 =>
              intro x20 x21 x22 H23 hI24 hf25 hv30 hv31 hv32 hv33 hv34 hm29
              refine fz_iload kX11_news rfl rfl ?_
              refine fz_aload_n kX11_news rfl rfl ?_
              refine fz_getV (v := h 53 0) kX11_news rfl rfl (hf25 53 0 rfl) ?_
              have b35 : 0 ≤ h 53 0 ∧ h 53 0 ≤ 8 := hI.1 53 _
              refine fz_icmp_ge (tgt := 113) kX11_news rfl (by decide) (fun c36 => ?_) (fun c36 => ?_)
              · refine fz_iload_n kX11_news rfl rfl ?_
                refine fz_if_ge (tgt := 121) kX11_news rfl (by decide) (fun c37 => ?_) (fun c37 => ?_)
                · refine fz_iload kX11_news rfl rfl ?_
                  exact fz_iret kX11_news rfl rfl (fun _ => ⟨hI24, hf25, _, rfl, (by omega)⟩)
                · refine fz_iload_n kX11_news rfl rfl ?_
                  refine fz_goto (tgt := 123) kX11_news rfl (by decide) ?_
                  exact fz_iret kX11_news rfl rfl (fun _ => ⟨hI24, hf25, _, rfl, (by omega)⟩)
              · refine fz_aload_n kX11_news rfl rfl ?_
                refine fz_iload_n kX11_news rfl rfl ?_
                refine fz_iload kX11_news rfl rfl ?_
                refine fz_callV (d' := 2) (M' := mX11_heardAt) (As := [fz_i d, fz_i x20]) (st := []) kX11_news rfl rfl vX11_heardAt rfl rfl rfl rfl (Nat.le_of_ble_eq_true rfl) (Nat.le_of_ble_eq_true rfl) (by decide) (sX11_heardAt H23 hI24 d x20 (by omega) (by omega)) (fun H38 r39 q40 o41 => ?_)
                obtain ⟨hI42, hf43, y45, rfl, f44⟩ := q40
                clear o41
                have hf46 := fz_fr_tr hf25 hf43 (show fz_su [(86, 99999), (87, 99999)] [(86, 99999), (87, 99999)] = true from rfl)
                refine fz_istore (ls' := [(6, fz_i y45), (5, fz_i x20), (4, fz_i x21), (3, fz_i x22), (0, fz_r 53), (1, fz_i d), (2, fz_i hr)]) kX11_news rfl (by decide) rfl ?_
                refine fz_iload kX11_news rfl rfl ?_
                refine fz_bipush ⟨by decide, by decide⟩ kX11_news rfl ?_
                refine fz_icmp_ne (tgt := 59) kX11_news rfl (by decide) (fun c47 => ?_) (fun c47 => ?_)
                · refine fz_iload kX11_news rfl rfl ?_
                  refine fz_iload_n kX11_news rfl rfl ?_
                  refine fz_icmp_gt (tgt := 68) kX11_news rfl (by decide) (fun c48 => ?_) (fun c48 => ?_)
                  · refine fz_iload_n kX11_news rfl rfl ?_
                    refine fz_bipush ⟨by decide, by decide⟩ kX11_news rfl ?_
                    refine fz_icmp_eq (tgt := 104) kX11_news rfl (by decide) (fun c49 => ?_) (fun c49 => ?_)
                    · refine fz_iload kX11_news rfl rfl ?_
                      refine fz_istore_n (ls' := [(3, fz_i x20), (6, fz_i y45), (5, fz_i x20), (4, fz_i x21), (0, fz_r 53), (1, fz_i d), (2, fz_i hr)]) kX11_news rfl (by decide) rfl ?_
                      refine fz_iincN (ls' := [(5, fz_i (x20 + 1)), (3, fz_i x20), (6, fz_i y45), (4, fz_i x21), (0, fz_r 53), (1, fz_i d), (2, fz_i hr)]) kX11_news rfl (by decide) rfl (by omega) rfl ?_
                      refine fz_goto (tgt := 31) kX11_news rfl (by decide) ?_
                      refine fz_sub (fz_pk_sub (ls' := [(5, fz_i (x20 + 1)), (4, fz_i x21), (3, fz_i x20), (0, fz_r 53), (1, fz_i d), (2, fz_i hr)]) [0, 3, 1, 4, 5, 6] rfl) ?_
                      exact ih28 (x20 + 1) x21 x20 H38 hI42 hf46 (by omega) (by omega) (by omega) (by omega) (by omega) (by omega)
                    · refine fz_iload_n kX11_news rfl rfl ?_
                      refine fz_iconst ⟨by decide, by decide⟩ kX11_news rfl ?_
                      refine fz_icmp_ne (tgt := 93) kX11_news rfl (by decide) (fun c50 => ?_) (fun c50 => ?_)
                      · refine fz_iload kX11_news rfl rfl ?_
                        refine fz_aload_n kX11_news rfl rfl ?_
                        refine fz_iload_n kX11_news rfl rfl ?_
                        refine fz_iload_n kX11_news rfl rfl ?_
                        refine fz_callV (d' := 2) (M' := mX11_heardAt) (As := [fz_i d, fz_i x22]) (st := [fz_i y45]) kX11_news rfl rfl vX11_heardAt rfl rfl rfl rfl (Nat.le_of_ble_eq_true rfl) (Nat.le_of_ble_eq_true rfl) (by decide) (sX11_heardAt H38 hI42 d x22 (by omega) (by omega)) (fun H51 r52 q53 o54 => ?_)
                        obtain ⟨hI55, hf56, y58, rfl, f57⟩ := q53
                        clear o54
                        have hf59 := fz_fr_tr hf46 hf56 (show fz_su [(86, 99999), (87, 99999)] [(86, 99999), (87, 99999)] = true from rfl)
                        refine fz_icmp_ge (tgt := 107) kX11_news rfl (by decide) (fun c60 => ?_) (fun c60 => ?_)
                        · refine fz_iincN (ls' := [(5, fz_i (x20 + 1)), (6, fz_i y45), (4, fz_i x21), (3, fz_i x22), (0, fz_r 53), (1, fz_i d), (2, fz_i hr)]) kX11_news rfl (by decide) rfl (by omega) rfl ?_
                          refine fz_goto (tgt := 31) kX11_news rfl (by decide) ?_
                          refine fz_sub (fz_pk_sub (ls' := [(5, fz_i (x20 + 1)), (4, fz_i x21), (3, fz_i x22), (0, fz_r 53), (1, fz_i d), (2, fz_i hr)]) [0, 2, 3, 4, 5, 6] rfl) ?_
                          exact ih28 (x20 + 1) x21 x22 H51 hI55 hf59 (by omega) (by omega) (by omega) (by omega) (by omega) (by omega)
                        · refine fz_iload kX11_news rfl rfl ?_
                          refine fz_istore_n (ls' := [(3, fz_i x20), (6, fz_i y45), (5, fz_i x20), (4, fz_i x21), (0, fz_r 53), (1, fz_i d), (2, fz_i hr)]) kX11_news rfl (by decide) rfl ?_
                          refine fz_iincN (ls' := [(5, fz_i (x20 + 1)), (3, fz_i x20), (6, fz_i y45), (4, fz_i x21), (0, fz_r 53), (1, fz_i d), (2, fz_i hr)]) kX11_news rfl (by decide) rfl (by omega) rfl ?_
                          refine fz_goto (tgt := 31) kX11_news rfl (by decide) ?_
                          refine fz_sub (fz_pk_sub (ls' := [(5, fz_i (x20 + 1)), (4, fz_i x21), (3, fz_i x20), (0, fz_r 53), (1, fz_i d), (2, fz_i hr)]) [0, 3, 1, 4, 5, 6] rfl) ?_
                          exact ih28 (x20 + 1) x21 x20 H51 hI55 hf59 (by omega) (by omega) (by omega) (by omega) (by omega) (by omega)
                      · refine fz_iload kX11_news rfl rfl ?_
                        refine fz_aload_n kX11_news rfl rfl ?_
                        refine fz_iload_n kX11_news rfl rfl ?_
                        refine fz_iload_n kX11_news rfl rfl ?_
                        refine fz_callV (d' := 2) (M' := mX11_heardAt) (As := [fz_i d, fz_i x22]) (st := [fz_i y45]) kX11_news rfl rfl vX11_heardAt rfl rfl rfl rfl (Nat.le_of_ble_eq_true rfl) (Nat.le_of_ble_eq_true rfl) (by decide) (sX11_heardAt H38 hI42 d x22 (by omega) (by omega)) (fun H61 r62 q63 o64 => ?_)
                        obtain ⟨hI65, hf66, y68, rfl, f67⟩ := q63
                        clear o64
                        have hf69 := fz_fr_tr hf46 hf66 (show fz_su [(86, 99999), (87, 99999)] [(86, 99999), (87, 99999)] = true from rfl)
                        refine fz_icmp_le (tgt := 107) kX11_news rfl (by decide) (fun c70 => ?_) (fun c70 => ?_)
                        · refine fz_iincN (ls' := [(5, fz_i (x20 + 1)), (6, fz_i y45), (4, fz_i x21), (3, fz_i x22), (0, fz_r 53), (1, fz_i d), (2, fz_i hr)]) kX11_news rfl (by decide) rfl (by omega) rfl ?_
                          refine fz_goto (tgt := 31) kX11_news rfl (by decide) ?_
                          refine fz_sub (fz_pk_sub (ls' := [(5, fz_i (x20 + 1)), (4, fz_i x21), (3, fz_i x22), (0, fz_r 53), (1, fz_i d), (2, fz_i hr)]) [0, 2, 3, 4, 5, 6] rfl) ?_
                          exact ih28 (x20 + 1) x21 x22 H61 hI65 hf69 (by omega) (by omega) (by omega) (by omega) (by omega) (by omega)
                        · refine fz_goto (tgt := 104) kX11_news rfl (by decide) ?_
                          refine fz_iload kX11_news rfl rfl ?_
                          refine fz_istore_n (ls' := [(3, fz_i x20), (6, fz_i y45), (5, fz_i x20), (4, fz_i x21), (0, fz_r 53), (1, fz_i d), (2, fz_i hr)]) kX11_news rfl (by decide) rfl ?_
                          refine fz_iincN (ls' := [(5, fz_i (x20 + 1)), (3, fz_i x20), (6, fz_i y45), (4, fz_i x21), (0, fz_r 53), (1, fz_i d), (2, fz_i hr)]) kX11_news rfl (by decide) rfl (by omega) rfl ?_
                          refine fz_goto (tgt := 31) kX11_news rfl (by decide) ?_
                          refine fz_sub (fz_pk_sub (ls' := [(5, fz_i (x20 + 1)), (4, fz_i x21), (3, fz_i x20), (0, fz_r 53), (1, fz_i d), (2, fz_i hr)]) [0, 3, 1, 4, 5, 6] rfl) ?_
                          exact ih28 (x20 + 1) x21 x20 H61 hI65 hf69 (by omega) (by omega) (by omega) (by omega) (by omega) (by omega)
                  · refine fz_iincN (ls' := [(4, fz_i (x21 + 1)), (6, fz_i y45), (5, fz_i x20), (3, fz_i x22), (0, fz_r 53), (1, fz_i d), (2, fz_i hr)]) kX11_news rfl (by decide) rfl (by omega) rfl ?_
                    refine fz_iload_n kX11_news rfl rfl ?_
                    refine fz_bipush ⟨by decide, by decide⟩ kX11_news rfl ?_
                    refine fz_icmp_eq (tgt := 104) kX11_news rfl (by decide) (fun c71 => ?_) (fun c71 => ?_)
                    · refine fz_iload kX11_news rfl rfl ?_
                      refine fz_istore_n (ls' := [(3, fz_i x20), (4, fz_i (x21 + 1)), (6, fz_i y45), (5, fz_i x20), (0, fz_r 53), (1, fz_i d), (2, fz_i hr)]) kX11_news rfl (by decide) rfl ?_
                      refine fz_iincN (ls' := [(5, fz_i (x20 + 1)), (3, fz_i x20), (4, fz_i (x21 + 1)), (6, fz_i y45), (0, fz_r 53), (1, fz_i d), (2, fz_i hr)]) kX11_news rfl (by decide) rfl (by omega) rfl ?_
                      refine fz_goto (tgt := 31) kX11_news rfl (by decide) ?_
                      refine fz_sub (fz_pk_sub (ls' := [(5, fz_i (x20 + 1)), (4, fz_i (x21 + 1)), (3, fz_i x20), (0, fz_r 53), (1, fz_i d), (2, fz_i hr)]) [0, 2, 1, 4, 5, 6] rfl) ?_
                      exact ih28 (x20 + 1) (x21 + 1) x20 H38 hI42 hf46 (by omega) (by omega) (by omega) (by omega) (by omega) (by omega)
                    · refine fz_iload_n kX11_news rfl rfl ?_
                      refine fz_iconst ⟨by decide, by decide⟩ kX11_news rfl ?_
                      refine fz_icmp_ne (tgt := 93) kX11_news rfl (by decide) (fun c72 => ?_) (fun c72 => ?_)
                      · refine fz_iload kX11_news rfl rfl ?_
                        refine fz_aload_n kX11_news rfl rfl ?_
                        refine fz_iload_n kX11_news rfl rfl ?_
                        refine fz_iload_n kX11_news rfl rfl ?_
                        refine fz_callV (d' := 2) (M' := mX11_heardAt) (As := [fz_i d, fz_i x22]) (st := [fz_i y45]) kX11_news rfl rfl vX11_heardAt rfl rfl rfl rfl (Nat.le_of_ble_eq_true rfl) (Nat.le_of_ble_eq_true rfl) (by decide) (sX11_heardAt H38 hI42 d x22 (by omega) (by omega)) (fun H73 r74 q75 o76 => ?_)
                        obtain ⟨hI77, hf78, y80, rfl, f79⟩ := q75
                        clear o76
                        have hf81 := fz_fr_tr hf46 hf78 (show fz_su [(86, 99999), (87, 99999)] [(86, 99999), (87, 99999)] = true from rfl)
                        refine fz_icmp_ge (tgt := 107) kX11_news rfl (by decide) (fun c82 => ?_) (fun c82 => ?_)
                        · refine fz_iincN (ls' := [(5, fz_i (x20 + 1)), (4, fz_i (x21 + 1)), (6, fz_i y45), (3, fz_i x22), (0, fz_r 53), (1, fz_i d), (2, fz_i hr)]) kX11_news rfl (by decide) rfl (by omega) rfl ?_
                          refine fz_goto (tgt := 31) kX11_news rfl (by decide) ?_
                          refine fz_sub (fz_pk_sub (ls' := [(5, fz_i (x20 + 1)), (4, fz_i (x21 + 1)), (3, fz_i x22), (0, fz_r 53), (1, fz_i d), (2, fz_i hr)]) [0, 1, 3, 4, 5, 6] rfl) ?_
                          exact ih28 (x20 + 1) (x21 + 1) x22 H73 hI77 hf81 (by omega) (by omega) (by omega) (by omega) (by omega) (by omega)
                        · refine fz_iload kX11_news rfl rfl ?_
                          refine fz_istore_n (ls' := [(3, fz_i x20), (4, fz_i (x21 + 1)), (6, fz_i y45), (5, fz_i x20), (0, fz_r 53), (1, fz_i d), (2, fz_i hr)]) kX11_news rfl (by decide) rfl ?_
                          refine fz_iincN (ls' := [(5, fz_i (x20 + 1)), (3, fz_i x20), (4, fz_i (x21 + 1)), (6, fz_i y45), (0, fz_r 53), (1, fz_i d), (2, fz_i hr)]) kX11_news rfl (by decide) rfl (by omega) rfl ?_
                          refine fz_goto (tgt := 31) kX11_news rfl (by decide) ?_
                          refine fz_sub (fz_pk_sub (ls' := [(5, fz_i (x20 + 1)), (4, fz_i (x21 + 1)), (3, fz_i x20), (0, fz_r 53), (1, fz_i d), (2, fz_i hr)]) [0, 2, 1, 4, 5, 6] rfl) ?_
                          exact ih28 (x20 + 1) (x21 + 1) x20 H73 hI77 hf81 (by omega) (by omega) (by omega) (by omega) (by omega) (by omega)
                      · refine fz_iload kX11_news rfl rfl ?_
                        refine fz_aload_n kX11_news rfl rfl ?_
                        refine fz_iload_n kX11_news rfl rfl ?_
                        refine fz_iload_n kX11_news rfl rfl ?_
                        refine fz_callV (d' := 2) (M' := mX11_heardAt) (As := [fz_i d, fz_i x22]) (st := [fz_i y45]) kX11_news rfl rfl vX11_heardAt rfl rfl rfl rfl (Nat.le_of_ble_eq_true rfl) (Nat.le_of_ble_eq_true rfl) (by decide) (sX11_heardAt H38 hI42 d x22 (by omega) (by omega)) (fun H83 r84 q85 o86 => ?_)
                        obtain ⟨hI87, hf88, y90, rfl, f89⟩ := q85
                        clear o86
                        have hf91 := fz_fr_tr hf46 hf88 (show fz_su [(86, 99999), (87, 99999)] [(86, 99999), (87, 99999)] = true from rfl)
                        refine fz_icmp_le (tgt := 107) kX11_news rfl (by decide) (fun c92 => ?_) (fun c92 => ?_)
                        · refine fz_iincN (ls' := [(5, fz_i (x20 + 1)), (4, fz_i (x21 + 1)), (6, fz_i y45), (3, fz_i x22), (0, fz_r 53), (1, fz_i d), (2, fz_i hr)]) kX11_news rfl (by decide) rfl (by omega) rfl ?_
                          refine fz_goto (tgt := 31) kX11_news rfl (by decide) ?_
                          refine fz_sub (fz_pk_sub (ls' := [(5, fz_i (x20 + 1)), (4, fz_i (x21 + 1)), (3, fz_i x22), (0, fz_r 53), (1, fz_i d), (2, fz_i hr)]) [0, 1, 3, 4, 5, 6] rfl) ?_
                          exact ih28 (x20 + 1) (x21 + 1) x22 H83 hI87 hf91 (by omega) (by omega) (by omega) (by omega) (by omega) (by omega)
                        · refine fz_goto (tgt := 104) kX11_news rfl (by decide) ?_
                          refine fz_iload kX11_news rfl rfl ?_
                          refine fz_istore_n (ls' := [(3, fz_i x20), (4, fz_i (x21 + 1)), (6, fz_i y45), (5, fz_i x20), (0, fz_r 53), (1, fz_i d), (2, fz_i hr)]) kX11_news rfl (by decide) rfl ?_
                          refine fz_iincN (ls' := [(5, fz_i (x20 + 1)), (3, fz_i x20), (4, fz_i (x21 + 1)), (6, fz_i y45), (0, fz_r 53), (1, fz_i d), (2, fz_i hr)]) kX11_news rfl (by decide) rfl (by omega) rfl ?_
                          refine fz_goto (tgt := 31) kX11_news rfl (by decide) ?_
                          refine fz_sub (fz_pk_sub (ls' := [(5, fz_i (x20 + 1)), (4, fz_i (x21 + 1)), (3, fz_i x20), (0, fz_r 53), (1, fz_i d), (2, fz_i hr)]) [0, 2, 1, 4, 5, 6] rfl) ?_
                          exact ih28 (x20 + 1) (x21 + 1) x20 H83 hI87 hf91 (by omega) (by omega) (by omega) (by omega) (by omega) (by omega)
                · refine fz_goto (tgt := 107) kX11_news rfl (by decide) ?_
                  refine fz_iincN (ls' := [(5, fz_i (x20 + 1)), (6, fz_i y45), (4, fz_i x21), (3, fz_i x22), (0, fz_r 53), (1, fz_i d), (2, fz_i hr)]) kX11_news rfl (by decide) rfl (by omega) rfl ?_
                  refine fz_goto (tgt := 31) kX11_news rfl (by decide) ?_
                  refine fz_sub (fz_pk_sub (ls' := [(5, fz_i (x20 + 1)), (4, fz_i x21), (3, fz_i x22), (0, fz_r 53), (1, fz_i d), (2, fz_i hr)]) [0, 2, 3, 4, 5, 6] rfl) ?_
                  exact ih28 (x20 + 1) x21 x22 H38 hI42 hf46 (by omega) (by omega) (by omega) (by omega) (by omega) (by omega)
          exact lp27 _ 0 0 (-2) h hI hf (by omega) (by omega) (by omega) (by omega) (by omega) (Nat.lt_succ_self _)
        · exfalso; omega
      · refine fz_if_ne (tgt := 22) kX11_news rfl (by decide) (fun c93 => ?_) (fun c93 => ?_)
        · exfalso; omega
        · refine fz_iconst ⟨by decide, by decide⟩ kX11_news rfl ?_
          exact fz_iret kX11_news rfl rfl (fun _ => ⟨hI, hf, _, rfl, (by omega)⟩)
  · refine fz_if_eq (tgt := 20) kX11_news rfl (by decide) (fun c94 => ?_) (fun c94 => ?_)
    · refine fz_iconst ⟨by decide, by decide⟩ kX11_news rfl ?_
      exact fz_iret kX11_news rfl rfl (fun _ => ⟨hI, hf, _, rfl, (by omega)⟩)
    · exfalso; omega

abbrev qX11_roadsTo (h : fz_H) (d t : Int) : fz_H → Option fz_V → Prop := fun h' r0 => fz_Iv h' ∧ fz_fr [(86, 99999), (87, 99999)] h h' ∧ ∃ r : Int, r0 = some (fz_i r) ∧ ((-2147483648) ≤ r ∧ r ≤ 2147483647)
set_option maxHeartbeats 1000000 in
set_option maxRecDepth 100000 in
theorem sX11_roadsTo (h : fz_H) (hI : fz_Iv h) (d t : Int) (hp0 : 0 ≤ d ∧ d ≤ 10) (hp1 : 0 ≤ t ∧ t ≤ 7) : fz_R 2 mX11_roadsTo 0 [(0, fz_r 53), (1, fz_i d), (2, fz_i t)] [] h (qX11_roadsTo h d t) := by
  refine fz_knowl (fun hk => ?_)
  have hr_d : -2147483648 ≤ d ∧ d < 2147483648 := hk _ (List.Mem.tail _ (List.Mem.head _))
  have hr_t : -2147483648 ≤ t ∧ t < 2147483648 := hk _ (List.Mem.tail _ (List.Mem.tail _ (List.Mem.head _)))
  clear hk
  have hf : fz_fr [(86, 99999), (87, 99999)] h h := fz_fr_rf
  refine fz_aload_n kX11_roadsTo rfl rfl ?_
  refine fz_aload_n kX11_roadsTo rfl rfl ?_
  refine fz_getR (t := 61) kX11_roadsTo rfl rfl ?_
  refine fz_iload_n kX11_roadsTo rfl rfl ?_
  refine fz_ialdV (n := 11) (v := h 61 (d.toNat)) kX11_roadsTo rfl rfl (by omega) (by omega) rfl ?_
  have b1 : 0 ≤ h 61 (d.toNat) ∧ h 61 (d.toNat) ≤ 7 := hI.1 61 _
  refine fz_iconst ⟨by decide, by decide⟩ kX11_roadsTo rfl ?_
  refine fz_callV (d' := 1) (M' := mX11_goesFrom) (As := [fz_i (h 61 (d.toNat)), fz_i 1]) (st := []) kX11_roadsTo rfl rfl vX11_goesFrom rfl rfl rfl rfl (Nat.le_of_ble_eq_true rfl) (Nat.le_of_ble_eq_true rfl) (by decide) (sX11_goesFrom h hI (h 61 (d.toNat)) 1 (by omega) (by omega)) (fun H2 r3 q4 o5 => ?_)
  obtain ⟨hI6, hf7, rfl⟩ := q4
  clear o5
  have hf8 := fz_fr_tr hf hf7 (show fz_su [(86, 99999), (87, 99999)] [(86, 99999), (87, 99999)] = true from rfl)
  refine fz_aload_n kX11_roadsTo rfl rfl ?_
  refine fz_getR (t := 86) kX11_roadsTo rfl rfl ?_
  refine fz_iload_n kX11_roadsTo rfl rfl ?_
  obtain ⟨v9, e10⟩ : ∃ z, H2 86 (t.toNat) = z := ⟨_, rfl⟩
  refine fz_ialdV (n := 8) (v := v9) kX11_roadsTo rfl rfl (by omega) (by omega) e10 ?_
  have b11 : (-2147483648) ≤ v9 ∧ v9 ≤ 2147483647 := by rw [← e10]; exact hI6.1 86 _
  refine fz_bipush ⟨by decide, by decide⟩ kX11_roadsTo rfl ?_
  refine fz_icmp_ne (tgt := 27) kX11_roadsTo rfl (by decide) (fun c12 => ?_) (fun c12 => ?_)
  · refine fz_aload_n kX11_roadsTo rfl rfl ?_
    refine fz_getR (t := 87) kX11_roadsTo rfl rfl ?_
    refine fz_iload_n kX11_roadsTo rfl rfl ?_
    obtain ⟨v13, e14⟩ : ∃ z, H2 87 (t.toNat) = z := ⟨_, rfl⟩
    refine fz_ialdV (n := 8) (v := v13) kX11_roadsTo rfl rfl (by omega) (by omega) e14 ?_
    have b15 : (-2147483648) ≤ v13 ∧ v13 ≤ 2147483647 := by rw [← e14]; exact hI6.1 87 _
    exact fz_iret kX11_roadsTo rfl rfl (fun _ => ⟨hI6, hf8, _, rfl, (by omega)⟩)
  · refine fz_bipush ⟨by decide, by decide⟩ kX11_roadsTo rfl ?_
    refine fz_goto (tgt := 33) kX11_roadsTo rfl (by decide) ?_
    exact fz_iret kX11_roadsTo rfl rfl (fun _ => ⟨hI6, hf8, _, rfl, (by omega)⟩)

abbrev qX11_drawn (h : fz_H) (d t se nw : Int) : fz_H → Option fz_V → Prop := fun h' r0 => fz_Iv h' ∧ fz_fr [(86, 99999), (87, 99999)] h h' ∧ ∃ r : Int, r0 = some (fz_i r) ∧ ((-1) ≤ r ∧ r ≤ 200)
set_option maxHeartbeats 1000000 in
set_option maxRecDepth 100000 in
theorem sX11_drawn (h : fz_H) (hI : fz_Iv h) (d t se nw : Int) : fz_R 3 mX11_drawn 0 [(0, fz_r 53), (1, fz_i d), (2, fz_i t), (3, fz_i se), (4, fz_i nw)] [] h (qX11_drawn h d t se nw) := by
  refine fz_knowl (fun hk => ?_)
  have hr_d : -2147483648 ≤ d ∧ d < 2147483648 := hk _ (List.Mem.tail _ (List.Mem.head _))
  have hr_t : -2147483648 ≤ t ∧ t < 2147483648 := hk _ (List.Mem.tail _ (List.Mem.tail _ (List.Mem.head _)))
  have hr_se : -2147483648 ≤ se ∧ se < 2147483648 := hk _ (List.Mem.tail _ (List.Mem.tail _ (List.Mem.tail _ (List.Mem.head _))))
  have hr_nw : -2147483648 ≤ nw ∧ nw < 2147483648 := hk _ (List.Mem.tail _ (List.Mem.tail _ (List.Mem.tail _ (List.Mem.tail _ (List.Mem.head _)))))
  clear hk
  have hf : fz_fr [(86, 99999), (87, 99999)] h h := fz_fr_rf
  refine fz_aload_n kX11_drawn rfl rfl ?_
  refine fz_iload_n kX11_drawn rfl rfl ?_
  have b1 : 0 ≤ h 53 10 ∧ h 53 10 ≤ 11 := hI.1 53 _
  refine fz_callV (d' := 1) (M' := mX11_isDeed) (As := [fz_i d]) (st := []) kX11_drawn rfl rfl vX11_isDeed rfl rfl rfl rfl (Nat.le_of_ble_eq_true rfl) (Nat.le_of_ble_eq_true rfl) (by decide) (sX11_isDeed h hI d ) (fun H2 r3 q4 o5 => ?_)
  obtain ⟨e6, y7, rfl, p8⟩ := q4
  subst H2
  clear o5
  rcases p8 with ⟨rfl, c9⟩ | ⟨rfl, c9⟩
  · refine fz_if_eq (tgt := 44) kX11_drawn rfl (by decide) (fun c10 => ?_) (fun c10 => ?_)
    · exfalso; omega
    · refine fz_aload_n kX11_drawn rfl rfl ?_
      refine fz_iload_n kX11_drawn rfl rfl ?_
      have b11 : 0 ≤ h 53 0 ∧ h 53 0 ≤ 8 := hI.1 53 _
      refine fz_callV (d' := 1) (M' := mX11_isTown) (As := [fz_i t]) (st := []) kX11_drawn rfl rfl vX11_isTown rfl rfl rfl rfl (Nat.le_of_ble_eq_true rfl) (Nat.le_of_ble_eq_true rfl) (by decide) (sX11_isTown h hI t ) (fun H12 r13 q14 o15 => ?_)
      obtain ⟨e16, y17, rfl, p18⟩ := q14
      subst H12
      clear o15
      rcases p18 with ⟨rfl, c19⟩ | ⟨rfl, c19⟩
      · refine fz_if_eq (tgt := 44) kX11_drawn rfl (by decide) (fun c20 => ?_) (fun c20 => ?_)
        · exfalso; omega
        · refine fz_iload kX11_drawn rfl rfl ?_
          refine fz_if_lt (tgt := 44) kX11_drawn rfl (by decide) (fun c21 => ?_) (fun c21 => ?_)
          · refine fz_iconst ⟨by decide, by decide⟩ kX11_drawn rfl ?_
            exact fz_iret kX11_drawn rfl rfl (fun _ => ⟨hI, hf, _, rfl, (by omega)⟩)
          · refine fz_iload kX11_drawn rfl rfl ?_
            refine fz_bipush ⟨by decide, by decide⟩ kX11_drawn rfl ?_
            refine fz_idivN kX11_drawn rfl (by omega) (by omega) (by omega) ?_
            refine fz_iconst ⟨by decide, by decide⟩ kX11_drawn rfl ?_
            refine fz_bipush ⟨by decide, by decide⟩ kX11_drawn rfl ?_
            refine fz_callS (d' := 0) (M' := mX11_within) (As := [fz_i (nw / 10), fz_i 1, fz_i 50]) (st := []) kX11_drawn rfl rfl vX11_within rfl rfl (Nat.le_of_ble_eq_true rfl) (Nat.le_of_ble_eq_true rfl) (by decide) (sX11_within h hI (nw / 10) 1 50 ) (fun H22 r23 q24 o25 => ?_)
            obtain ⟨e26, y27, rfl, p28⟩ := q24
            subst H22
            clear o25
            rcases p28 with ⟨rfl, c29⟩ | ⟨rfl, c29⟩
            · refine fz_if_eq (tgt := 44) kX11_drawn rfl (by decide) (fun c30 => ?_) (fun c30 => ?_)
              · exfalso; omega
              · refine fz_iload kX11_drawn rfl rfl ?_
                refine fz_bipush ⟨by decide, by decide⟩ kX11_drawn rfl ?_
                refine fz_iremN kX11_drawn rfl (by omega) (by omega) (by omega) ?_
                refine fz_iconst ⟨by decide, by decide⟩ kX11_drawn rfl ?_
                refine fz_icmp_le (tgt := 46) kX11_drawn rfl (by decide) (fun c31 => ?_) (fun c31 => ?_)
                · refine fz_aload_n kX11_drawn rfl rfl ?_
                  refine fz_iload_n kX11_drawn rfl rfl ?_
                  refine fz_iload_n kX11_drawn rfl rfl ?_
                  refine fz_callV (d' := 2) (M' := mX11_roadsTo) (As := [fz_i d, fz_i t]) (st := []) kX11_drawn rfl rfl vX11_roadsTo rfl rfl rfl rfl (Nat.le_of_ble_eq_true rfl) (Nat.le_of_ble_eq_true rfl) (by decide) (sX11_roadsTo h hI d t (by omega) (by omega)) (fun H32 r33 q34 o35 => ?_)
                  obtain ⟨hI36, hf37, y39, rfl, f38⟩ := q34
                  clear o35
                  have hf40 := fz_fr_tr hf hf37 (show fz_su [(86, 99999), (87, 99999)] [(86, 99999), (87, 99999)] = true from rfl)
                  refine fz_istore (ls' := [(5, fz_i y39), (0, fz_r 53), (1, fz_i d), (2, fz_i t), (3, fz_i se), (4, fz_i nw)]) kX11_drawn rfl (by decide) rfl ?_
                  refine fz_iload kX11_drawn rfl rfl ?_
                  refine fz_bipush ⟨by decide, by decide⟩ kX11_drawn rfl ?_
                  refine fz_icmp_ne (tgt := 63) kX11_drawn rfl (by decide) (fun c41 => ?_) (fun c41 => ?_)
                  · refine fz_iload_n kX11_drawn rfl rfl ?_
                    refine fz_istore (ls' := [(6, fz_i se), (5, fz_i y39), (0, fz_r 53), (1, fz_i d), (2, fz_i t), (3, fz_i se), (4, fz_i nw)]) kX11_drawn rfl (by decide) rfl ?_
                    refine fz_iconst ⟨by decide, by decide⟩ kX11_drawn rfl ?_
                    refine fz_istore (ls' := [(7, fz_i 0), (6, fz_i se), (5, fz_i y39), (0, fz_r 53), (1, fz_i d), (2, fz_i t), (3, fz_i se), (4, fz_i nw)]) kX11_drawn rfl (by decide) rfl ?_
                    refine fz_iconst ⟨by decide, by decide⟩ kX11_drawn rfl ?_
                    refine fz_istore (ls' := [(8, fz_i 0), (7, fz_i 0), (6, fz_i se), (5, fz_i y39), (0, fz_r 53), (1, fz_i d), (2, fz_i t), (3, fz_i se), (4, fz_i nw)]) kX11_drawn rfl (by decide) rfl ?_
                    refine fz_iconst ⟨by decide, by decide⟩ kX11_drawn rfl ?_
                    refine fz_istore (ls' := [(9, fz_i 0), (8, fz_i 0), (7, fz_i 0), (6, fz_i se), (5, fz_i y39), (0, fz_r 53), (1, fz_i d), (2, fz_i t), (3, fz_i se), (4, fz_i nw)]) kX11_drawn rfl (by decide) rfl ?_
                    have lp47 : ∀ (n46 : Nat) (x42 : Int) (x43 : Int) (x44 : Int) (x45 : Int), (0 ≤ x42 ∧ x42 ≤ 2147483647) → (0 ≤ x43 ∧ x43 ≤ 200) → (0 ≤ x44 ∧ x44 ≤ 50) → ((-2147483648) ≤ x45 ∧ x45 ≤ 2147483647) → (x44 ≤ x42) → (x43 ≤ 4 * x42) → ((nw / 10) - x42).toNat < n46 → fz_R 3 mX11_drawn 75 [(9, fz_i x42), (8, fz_i x43), (7, fz_i x44), (6, fz_i x45), (5, fz_i y39), (0, fz_r 53), (1, fz_i d), (2, fz_i t), (3, fz_i se), (4, fz_i nw)] [] H32 (qX11_drawn h d t se nw) := by
                      intro n46
                      induction n46 with
                      | zero => intro x42 x43 x44 x45 hv50 hv51 hv52 hv53 hv54 hv55 hm49; exact absurd hm49 (by omega)
                      | succ n46 ih48 =>
                        intro x42 x43 x44 x45 hv50 hv51 hv52 hv53 hv54 hv55 hm49
                        refine fz_iload kX11_drawn rfl rfl ?_
                        refine fz_iload kX11_drawn rfl rfl ?_
                        refine fz_bipush ⟨by decide, by decide⟩ kX11_drawn rfl ?_
                        refine fz_idivN kX11_drawn rfl (by omega) (by omega) (by omega) ?_
                        refine fz_icmp_ge (tgt := 171) kX11_drawn rfl (by decide) (fun c56 => ?_) (fun c56 => ?_)
                        · refine fz_iload kX11_drawn rfl rfl ?_
                          refine fz_bipush ⟨by decide, by decide⟩ kX11_drawn rfl ?_
                          refine fz_iremN kX11_drawn rfl (by omega) (by omega) (by omega) ?_
                          refine fz_if_ne (tgt := 184) kX11_drawn rfl (by decide) (fun c57 => ?_) (fun c57 => ?_)
                          · refine fz_iload kX11_drawn rfl rfl ?_
                            exact fz_iret kX11_drawn rfl rfl (fun _ => ⟨hI36, hf40, _, rfl, (by omega)⟩)
                          · refine fz_iload kX11_drawn rfl rfl ?_
                            refine fz_goto (tgt := 186) kX11_drawn rfl (by decide) ?_
                            exact fz_iret kX11_drawn rfl rfl (fun _ => ⟨hI36, hf40, _, rfl, (by omega)⟩)
                        · refine fz_aload_n kX11_drawn rfl rfl ?_
                          refine fz_getR (t := 63) kX11_drawn rfl rfl ?_
                          refine fz_iload_n kX11_drawn rfl rfl ?_
                          refine fz_ialdV (n := 11) (v := h 63 (d.toNat)) kX11_drawn rfl rfl (by omega) (by omega) (hf40 63 _ rfl) ?_
                          have b58 : 0 ≤ h 63 (d.toNat) ∧ h 63 (d.toNat) ≤ 4 := hI.1 63 _
                          refine fz_istore (ls' := [(10, fz_i (h 63 (d.toNat))), (9, fz_i x42), (8, fz_i x43), (7, fz_i x44), (6, fz_i x45), (5, fz_i y39), (0, fz_r 53), (1, fz_i d), (2, fz_i t), (3, fz_i se), (4, fz_i nw)]) kX11_drawn rfl (by decide) rfl ?_
                          refine fz_iconst ⟨by decide, by decide⟩ kX11_drawn rfl ?_
                          refine fz_istore (ls' := [(11, fz_i 0), (10, fz_i (h 63 (d.toNat))), (9, fz_i x42), (8, fz_i x43), (7, fz_i x44), (6, fz_i x45), (5, fz_i y39), (0, fz_r 53), (1, fz_i d), (2, fz_i t), (3, fz_i se), (4, fz_i nw)]) kX11_drawn rfl (by decide) rfl ?_
                          have lp63 : ∀ (n62 : Nat) (x59 : Int) (x60 : Int) (x61 : Int), (0 ≤ x59 ∧ x59 ≤ 2147483647) → (0 ≤ x60 ∧ x60 ≤ 4) → ((-2147483648) ≤ x61 ∧ x61 ≤ 2147483647) → (y39 - x59).toNat < n62 → fz_R 3 mX11_drawn 96 [(11, fz_i x59), (10, fz_i x60), (9, fz_i x42), (8, fz_i x43), (7, fz_i x44), (6, fz_i x61), (5, fz_i y39), (0, fz_r 53), (1, fz_i d), (2, fz_i t), (3, fz_i se), (4, fz_i nw)] [] H32 (qX11_drawn h d t se nw) := by
                            intro n62
                            induction n62 with
                            | zero => intro x59 x60 x61 hv66 hv67 hv68 hm65; exact absurd hm65 (by omega)
                            | succ n62 ih64 =>
                              intro x59 x60 x61 hv66 hv67 hv68 hm65
                              refine fz_iload kX11_drawn rfl rfl ?_
                              refine fz_iload kX11_drawn rfl rfl ?_
                              refine fz_icmp_ge (tgt := 144) kX11_drawn rfl (by decide) (fun c69 => ?_) (fun c69 => ?_)
                              · refine fz_iload kX11_drawn rfl rfl ?_
                                refine fz_aload_n kX11_drawn rfl rfl ?_
                                refine fz_getR (t := 63) kX11_drawn rfl rfl ?_
                                refine fz_iload_n kX11_drawn rfl rfl ?_
                                refine fz_ialdV (n := 11) (v := h 63 (d.toNat)) kX11_drawn rfl rfl (by omega) (by omega) (hf40 63 _ rfl) ?_
                                refine fz_icmp_ne (tgt := 158) kX11_drawn rfl (by decide) (fun c70 => ?_) (fun c70 => ?_)
                                · refine fz_iload kX11_drawn rfl rfl ?_
                                  refine fz_iload kX11_drawn rfl rfl ?_
                                  refine fz_iaddN kX11_drawn rfl (by omega) ?_
                                  refine fz_istore (ls' := [(8, fz_i (x43 + x60)), (11, fz_i x59), (10, fz_i x60), (9, fz_i x42), (7, fz_i x44), (6, fz_i x61), (5, fz_i y39), (0, fz_r 53), (1, fz_i d), (2, fz_i t), (3, fz_i se), (4, fz_i nw)]) kX11_drawn rfl (by decide) rfl ?_
                                  refine fz_iincN (ls' := [(9, fz_i (x42 + 1)), (8, fz_i (x43 + x60)), (11, fz_i x59), (10, fz_i x60), (7, fz_i x44), (6, fz_i x61), (5, fz_i y39), (0, fz_r 53), (1, fz_i d), (2, fz_i t), (3, fz_i se), (4, fz_i nw)]) kX11_drawn rfl (by decide) rfl (by omega) rfl ?_
                                  refine fz_goto (tgt := 75) kX11_drawn rfl (by decide) ?_
                                  refine fz_sub (fz_pk_sub (ls' := [(9, fz_i (x42 + 1)), (8, fz_i (x43 + x60)), (7, fz_i x44), (6, fz_i x61), (5, fz_i y39), (0, fz_r 53), (1, fz_i d), (2, fz_i t), (3, fz_i se), (4, fz_i nw)]) [0, 1, 4, 5, 6, 7, 8, 9, 10, 11] rfl) ?_
                                  exact ih48 (x42 + 1) (x43 + x60) x44 x61 (by omega) (by omega) (by omega) (by omega) (by omega) (by omega) (by omega)
                                · refine fz_iincN (ls' := [(7, fz_i (x44 + 1)), (11, fz_i x59), (10, fz_i x60), (9, fz_i x42), (8, fz_i x43), (6, fz_i x61), (5, fz_i y39), (0, fz_r 53), (1, fz_i d), (2, fz_i t), (3, fz_i se), (4, fz_i nw)]) kX11_drawn rfl (by decide) rfl (by omega) rfl ?_
                                  refine fz_iload kX11_drawn rfl rfl ?_
                                  refine fz_iload kX11_drawn rfl rfl ?_
                                  refine fz_iaddN kX11_drawn rfl (by omega) ?_
                                  refine fz_istore (ls' := [(8, fz_i (x43 + x60)), (7, fz_i (x44 + 1)), (11, fz_i x59), (10, fz_i x60), (9, fz_i x42), (6, fz_i x61), (5, fz_i y39), (0, fz_r 53), (1, fz_i d), (2, fz_i t), (3, fz_i se), (4, fz_i nw)]) kX11_drawn rfl (by decide) rfl ?_
                                  refine fz_iincN (ls' := [(9, fz_i (x42 + 1)), (8, fz_i (x43 + x60)), (7, fz_i (x44 + 1)), (11, fz_i x59), (10, fz_i x60), (6, fz_i x61), (5, fz_i y39), (0, fz_r 53), (1, fz_i d), (2, fz_i t), (3, fz_i se), (4, fz_i nw)]) kX11_drawn rfl (by decide) rfl (by omega) rfl ?_
                                  refine fz_goto (tgt := 75) kX11_drawn rfl (by decide) ?_
                                  refine fz_sub (fz_pk_sub (ls' := [(9, fz_i (x42 + 1)), (8, fz_i (x43 + x60)), (7, fz_i (x44 + 1)), (6, fz_i x61), (5, fz_i y39), (0, fz_r 53), (1, fz_i d), (2, fz_i t), (3, fz_i se), (4, fz_i nw)]) [0, 1, 2, 5, 6, 7, 8, 9, 10, 11] rfl) ?_
                                  exact ih48 (x42 + 1) (x43 + x60) (x44 + 1) x61 (by omega) (by omega) (by omega) (by omega) (by omega) (by omega) (by omega)
                              · refine fz_iload kX11_drawn rfl rfl ?_
                                refine fz_ldcw (x := 1103515245) kX11_drawn rfl rfl rfl ?_
                                refine fz_imul kX11_drawn rfl ?_
                                refine fz_nmw (fun z71 e72 => ?_)
                                refine fz_sipush ⟨by decide, by decide⟩ kX11_drawn rfl ?_
                                refine fz_iadd kX11_drawn rfl ?_
                                refine fz_nmw (fun z73 e74 => ?_)
                                refine fz_istore (ls' := [(6, fz_i z73), (11, fz_i x59), (10, fz_i x60), (9, fz_i x42), (8, fz_i x43), (7, fz_i x44), (5, fz_i y39), (0, fz_r 53), (1, fz_i d), (2, fz_i t), (3, fz_i se), (4, fz_i nw)]) kX11_drawn rfl (by decide) rfl ?_
                                refine fz_iload kX11_drawn rfl rfl ?_
                                refine fz_bipush ⟨by decide, by decide⟩ kX11_drawn rfl ?_
                                refine fz_iushr kX11_drawn rfl ?_
                                have b75 : -2147483648 ≤ (fz_ush z73 8) ∧ (fz_ush z73 8) < 2147483648 := fz_b32 _
                                refine fz_bipush ⟨by decide, by decide⟩ kX11_drawn rfl ?_
                                refine fz_iremT kX11_drawn rfl (by decide) (by decide) (fun z76 r77 e78 e79 e80 e81 e82 e83 => ?_)
                                refine fz_aload_n kX11_drawn rfl rfl ?_
                                refine fz_getV (v := h 53 9) kX11_drawn rfl rfl (hf40 53 9 rfl) ?_
                                have b85 : 0 ≤ h 53 9 ∧ h 53 9 ≤ 12 := hI.1 53 _
                                refine fz_icmp_ge (tgt := 138) kX11_drawn rfl (by decide) (fun c86 => ?_) (fun c86 => ?_)
                                · refine fz_iincN (ls' := [(11, fz_i (x59 + 1)), (6, fz_i z73), (10, fz_i x60), (9, fz_i x42), (8, fz_i x43), (7, fz_i x44), (5, fz_i y39), (0, fz_r 53), (1, fz_i d), (2, fz_i t), (3, fz_i se), (4, fz_i nw)]) kX11_drawn rfl (by decide) rfl (by omega) rfl ?_
                                  refine fz_goto (tgt := 96) kX11_drawn rfl (by decide) ?_
                                  refine fz_sub (fz_pk_sub (ls' := [(11, fz_i (x59 + 1)), (10, fz_i x60), (9, fz_i x42), (8, fz_i x43), (7, fz_i x44), (6, fz_i z73), (5, fz_i y39), (0, fz_r 53), (1, fz_i d), (2, fz_i t), (3, fz_i se), (4, fz_i nw)]) [0, 2, 3, 4, 5, 1, 6, 7, 8, 9, 10, 11] rfl) ?_
                                  exact ih64 (x59 + 1) x60 z73 (by omega) (by omega) (by omega) (by omega)
                                · refine fz_iload kX11_drawn rfl rfl ?_
                                  refine fz_iconst ⟨by decide, by decide⟩ kX11_drawn rfl ?_
                                  refine fz_iaddN kX11_drawn rfl (by omega) ?_
                                  refine fz_iconst ⟨by decide, by decide⟩ kX11_drawn rfl ?_
                                  refine fz_iremN kX11_drawn rfl (by omega) (by omega) (by omega) ?_
                                  refine fz_istore (ls' := [(10, fz_i ((x60 + 1) % 5)), (6, fz_i z73), (11, fz_i x59), (9, fz_i x42), (8, fz_i x43), (7, fz_i x44), (5, fz_i y39), (0, fz_r 53), (1, fz_i d), (2, fz_i t), (3, fz_i se), (4, fz_i nw)]) kX11_drawn rfl (by decide) rfl ?_
                                  refine fz_iincN (ls' := [(11, fz_i (x59 + 1)), (10, fz_i ((x60 + 1) % 5)), (6, fz_i z73), (9, fz_i x42), (8, fz_i x43), (7, fz_i x44), (5, fz_i y39), (0, fz_r 53), (1, fz_i d), (2, fz_i t), (3, fz_i se), (4, fz_i nw)]) kX11_drawn rfl (by decide) rfl (by omega) rfl ?_
                                  refine fz_goto (tgt := 96) kX11_drawn rfl (by decide) ?_
                                  refine fz_sub (fz_pk_sub (ls' := [(11, fz_i (x59 + 1)), (10, fz_i ((x60 + 1) % 5)), (9, fz_i x42), (8, fz_i x43), (7, fz_i x44), (6, fz_i z73), (5, fz_i y39), (0, fz_r 53), (1, fz_i d), (2, fz_i t), (3, fz_i se), (4, fz_i nw)]) [0, 1, 3, 4, 5, 2, 6, 7, 8, 9, 10, 11] rfl) ?_
                                  exact ih64 (x59 + 1) ((x60 + 1) % 5) z73 (by omega) (by omega) (by omega) (by omega)
                          exact lp63 _ 0 (h 63 (d.toNat)) x45 (by omega) (by omega) (by omega) (Nat.lt_succ_self _)
                    exact lp47 _ 0 0 0 se (by omega) (by omega) (by omega) (by omega) (by omega) (by omega) (Nat.lt_succ_self _)
                  · refine fz_iconst ⟨by decide, by decide⟩ kX11_drawn rfl ?_
                    exact fz_iret kX11_drawn rfl rfl (fun _ => ⟨hI36, hf40, _, rfl, (by omega)⟩)
                · refine fz_iconst ⟨by decide, by decide⟩ kX11_drawn rfl ?_
                  exact fz_iret kX11_drawn rfl rfl (fun _ => ⟨hI, hf, _, rfl, (by omega)⟩)
            · refine fz_if_eq (tgt := 44) kX11_drawn rfl (by decide) (fun c87 => ?_) (fun c87 => ?_)
              · refine fz_iconst ⟨by decide, by decide⟩ kX11_drawn rfl ?_
                exact fz_iret kX11_drawn rfl rfl (fun _ => ⟨hI, hf, _, rfl, (by omega)⟩)
              · exfalso; omega
      · refine fz_if_eq (tgt := 44) kX11_drawn rfl (by decide) (fun c88 => ?_) (fun c88 => ?_)
        · refine fz_iconst ⟨by decide, by decide⟩ kX11_drawn rfl ?_
          exact fz_iret kX11_drawn rfl rfl (fun _ => ⟨hI, hf, _, rfl, (by omega)⟩)
        · exfalso; omega
  · refine fz_if_eq (tgt := 44) kX11_drawn rfl (by decide) (fun c89 => ?_) (fun c89 => ?_)
    · refine fz_iconst ⟨by decide, by decide⟩ kX11_drawn rfl ?_
      exact fz_iret kX11_drawn rfl rfl (fun _ => ⟨hI, hf, _, rfl, (by omega)⟩)
    · exfalso; omega

abbrev qX11_walk (h : fz_H) (on rd : Int) : fz_H → Option fz_V → Prop := fun h' r0 => fz_Iv h' ∧ fz_fr [(53, 34), (74, 99999), (75, 99999), (76, 99999), (77, 99999), (86, 99999), (87, 99999), (88, 99999)] h h' ∧ fz_Xw h' ∧ ∃ r : Int, r0 = some (fz_i r) ∧ ((-5) ≤ r ∧ r ≤ 7) ∧ (fz_wkM h h' on rd r)
set_option maxHeartbeats 1000000 in
set_option maxRecDepth 100000 in
theorem sX11_walk (h : fz_H) (hI : fz_Iv h) (on rd : Int) (hXw : fz_Xw h) : fz_R 5 mX11_walk 0 [(0, fz_r 53), (1, fz_i on), (2, fz_i rd)] [] h (qX11_walk h on rd) := by
  refine fz_knowl (fun hk => ?_)
  have hr_on : -2147483648 ≤ on ∧ on < 2147483648 := hk _ (List.Mem.tail _ (List.Mem.head _))
  have hr_rd : -2147483648 ≤ rd ∧ rd < 2147483648 := hk _ (List.Mem.tail _ (List.Mem.tail _ (List.Mem.head _)))
  clear hk
  have hf : fz_fr [(53, 34), (74, 99999), (75, 99999), (76, 99999), (77, 99999), (86, 99999), (87, 99999), (88, 99999)] h h := fz_fr_rf
  refine fz_iload_n kX11_walk rfl rfl ?_
  refine fz_callS (d' := 1) (M' := mX11_isPerson) (As := [fz_i on]) (st := []) kX11_walk rfl rfl vX11_isPerson rfl rfl (Nat.le_of_ble_eq_true rfl) (Nat.le_of_ble_eq_true rfl) (by decide) (sX11_isPerson h hI on ) (fun H1 r2 q3 o4 => ?_)
  obtain ⟨e5, y6, rfl, p7⟩ := q3
  subst H1
  clear o4
  rcases p7 with ⟨rfl, c8⟩ | ⟨rfl, c8⟩
  · refine fz_if_eq (tgt := 15) kX11_walk rfl (by decide) (fun c9 => ?_) (fun c9 => ?_)
    · exfalso; omega
    · refine fz_aload_n kX11_walk rfl rfl ?_
      refine fz_iload_n kX11_walk rfl rfl ?_
      have b10 : 0 ≤ h 53 2 ∧ h 53 2 ≤ 12 := hI.1 53 _
      refine fz_callV (d' := 1) (M' := mX11_isRoad) (As := [fz_i rd]) (st := []) kX11_walk rfl rfl vX11_isRoad rfl rfl rfl rfl (Nat.le_of_ble_eq_true rfl) (Nat.le_of_ble_eq_true rfl) (by decide) (sX11_isRoad h hI rd ) (fun H11 r12 q13 o14 => ?_)
      obtain ⟨e15, y16, rfl, p17⟩ := q13
      subst H11
      clear o14
      rcases p17 with ⟨rfl, c18⟩ | ⟨rfl, c18⟩
      · refine fz_if_ne (tgt := 17) kX11_walk rfl (by decide) (fun c19 => ?_) (fun c19 => ?_)
        · refine fz_aload_n kX11_walk rfl rfl ?_
          refine fz_getR (t := 76) kX11_walk rfl rfl ?_
          refine fz_iload_n kX11_walk rfl rfl ?_
          refine fz_ialdV (n := 4) (v := h 76 (on.toNat)) kX11_walk rfl rfl (by omega) (by omega) rfl ?_
          have b20 : 0 ≤ h 76 (on.toNat) ∧ h 76 (on.toNat) ≤ 7 := hI.1 76 _
          refine fz_istore_n (ls' := [(3, fz_i (h 76 (on.toNat))), (0, fz_r 53), (1, fz_i on), (2, fz_i rd)]) kX11_walk rfl (by decide) rfl ?_
          refine fz_aload_n kX11_walk rfl rfl ?_
          refine fz_getR (t := 55) kX11_walk rfl rfl ?_
          refine fz_iload_n kX11_walk rfl rfl ?_
          refine fz_ialdV (n := 12) (v := h 55 (rd.toNat)) kX11_walk rfl rfl (by omega) (by omega) rfl ?_
          have b21 : 0 ≤ h 55 (rd.toNat) ∧ h 55 (rd.toNat) ≤ 7 := hI.1 55 _
          refine fz_iload_n kX11_walk rfl rfl ?_
          refine fz_icmp_eq (tgt := 47) kX11_walk rfl (by decide) (fun c22 => ?_) (fun c22 => ?_)
          · refine fz_aload_n kX11_walk rfl rfl ?_
            refine fz_getV (v := h 53 34) kX11_walk rfl rfl rfl ?_
            have b23 : 0 ≤ h 53 34 ∧ h 53 34 ≤ 999 := hI.1 53 _
            refine fz_aload_n kX11_walk rfl rfl ?_
            refine fz_getR (t := 57) kX11_walk rfl rfl ?_
            refine fz_iload_n kX11_walk rfl rfl ?_
            refine fz_ialdV (n := 12) (v := h 57 (rd.toNat)) kX11_walk rfl rfl (by omega) (by omega) rfl ?_
            have b24 : 0 ≤ h 57 (rd.toNat) ∧ h 57 (rd.toNat) ≤ 24 := hI.1 57 _
            refine fz_iaddN kX11_walk rfl (by omega) ?_
            refine fz_sipush ⟨by decide, by decide⟩ kX11_walk rfl ?_
            refine fz_icmp_le (tgt := 67) kX11_walk rfl (by decide) (fun c25 => ?_) (fun c25 => ?_)
            · refine fz_aload_n kX11_walk rfl rfl ?_
              refine fz_dup rfl kX11_walk rfl ?_
              refine fz_getV (v := h 53 34) kX11_walk rfl rfl rfl ?_
              refine fz_aload_n kX11_walk rfl rfl ?_
              refine fz_getR (t := 57) kX11_walk rfl rfl ?_
              refine fz_iload_n kX11_walk rfl rfl ?_
              refine fz_ialdV (n := 12) (v := h 57 (rd.toNat)) kX11_walk rfl rfl (by omega) (by omega) rfl ?_
              refine fz_iaddN kX11_walk rfl (by omega) ?_
              refine fz_putI kX11_walk rfl rfl rfl ?_
              refine fz_nmu (S := [(53, 34), (74, 99999), (75, 99999), (76, 99999), (77, 99999), (86, 99999), (87, 99999), (88, 99999)]) (h0 := h) (fz_Iv_up hI (by decide) (show (0 : Int) ≤ ((h 53 34) + (h 57 (rd.toNat))) by omega) (show (((h 53 34) + (h 57 (rd.toNat))) : Int) ≤ 999 by omega)) (fz_fr_up hf rfl) (fun H26 hI27 hf28 e29 => ?_)
              have k30 : H26 53 34 = ((h 53 34) + (h 57 (rd.toNat))) := by rw [e29]; exact fz_up_e
              have hXw31 : fz_Xw H26 := fz_Xw_eq (by rw [e29]; exact fz_up_s (by decide)) (by rw [e29]; exact fz_up_ne (by decide)) (by rw [e29]; exact fz_up_ne (by decide)) (by rw [e29]; exact fz_up_ne (by decide)) (by rw [e29]; exact fz_up_ne (by decide)) hXw
              refine fz_aload_n kX11_walk rfl rfl ?_
              refine fz_getR (t := 76) kX11_walk rfl rfl ?_
              refine fz_iload_n kX11_walk rfl rfl ?_
              refine fz_aload_n kX11_walk rfl rfl ?_
              refine fz_getR (t := 55) kX11_walk rfl rfl ?_
              refine fz_iload_n kX11_walk rfl rfl ?_
              refine fz_ialdV (n := 12) (v := h 55 (rd.toNat)) kX11_walk rfl rfl (by omega) (by omega) (hf28 55 _ rfl) ?_
              refine fz_iload_n kX11_walk rfl rfl ?_
              refine fz_icmp_ne (tgt := 106) kX11_walk rfl (by decide) (fun c32 => ?_) (fun c32 => ?_)
              · refine fz_aload_n kX11_walk rfl rfl ?_
                refine fz_getR (t := 55) kX11_walk rfl rfl ?_
                refine fz_iload_n kX11_walk rfl rfl ?_
                refine fz_ialdV (n := 12) (v := h 55 (rd.toNat)) kX11_walk rfl rfl (by omega) (by omega) (hf28 55 _ rfl) ?_
                have k33 : (h 55 (rd.toNat)) = fz_ac (h 55 rd.toNat) (h 56 rd.toNat) (h 76 on.toNat) := by first | exact fz_ac_1 (by omega) | exact fz_ac_2 (by omega) (by omega) | (exfalso; omega)
                have k35 : 0 ≤ fz_ac (h 55 rd.toNat) (h 56 rd.toNat) (h 76 on.toNat) := fz_ac_nn (hI.1 55 _).1 (hI.1 56 _).1 (by omega)
                refine fz_iast (n := 4) kX11_walk rfl rfl (by omega) (by omega) ?_
                refine fz_nmu (S := [(53, 34), (74, 99999), (75, 99999), (76, 99999), (77, 99999), (86, 99999), (87, 99999), (88, 99999)]) (h0 := h) (fz_Iv_up hI27 (by decide) (show (0 : Int) ≤ (h 55 (rd.toNat)) by omega) (show ((h 55 (rd.toNat)) : Int) ≤ 7 by omega)) (fz_fr_up hf28 rfl) (fun H36 hI37 hf38 e39 => ?_)
                have k40 : H36 53 34 = ((h 53 34) + (h 57 (rd.toNat))) := by rw [e39]; exact (fz_up_o (by decide)).trans k30
                have t41 : H36 53 34 = H26 53 34 := by rw [e39]; exact fz_up_o (by decide)
                have hXw42 : fz_Xw H36 := fz_Xw_eq (by rw [e39]; exact fz_up_o (by decide)) (by rw [e39]; exact fz_up_ne (by decide)) (by rw [e39]; exact fz_up_ne (by decide)) (by rw [e39]; exact fz_up_ne (by decide)) (by rw [e39]; exact fz_up_ne (by decide)) hXw31
                refine fz_aload_n kX11_walk rfl rfl ?_
                refine fz_getR (t := 77) kX11_walk rfl rfl ?_
                refine fz_iconst ⟨by decide, by decide⟩ kX11_walk rfl ?_
                refine fz_dup2 rfl rfl kX11_walk rfl ?_
                obtain ⟨v43, e44⟩ : ∃ z, H36 77 (0) = z := ⟨_, rfl⟩
                refine fz_ialdV (n := 4) (v := v43) kX11_walk rfl rfl (by omega) (by omega) e44 ?_
                have b45 : (-2147483648) ≤ v43 ∧ v43 ≤ 2147483647 := by rw [← e44]; exact hI37.1 77 _
                refine fz_iconst ⟨by decide, by decide⟩ kX11_walk rfl ?_
                refine fz_iadd kX11_walk rfl ?_
                refine fz_nmw (fun z46 e47 => ?_)
                refine fz_iast (n := 4) kX11_walk rfl rfl (by omega) (by omega) ?_
                refine fz_nmu (S := [(53, 34), (74, 99999), (75, 99999), (76, 99999), (77, 99999), (86, 99999), (87, 99999), (88, 99999)]) (h0 := h) (fz_Iv_up hI37 (by decide) (show ((-2147483648) : Int) ≤ z46 by omega) (show (z46 : Int) ≤ 2147483647 by omega)) (fz_fr_up hf38 rfl) (fun H48 hI49 hf50 e51 => ?_)
                have k52 : H48 53 34 = ((h 53 34) + (h 57 (rd.toNat))) := by rw [e51]; exact (fz_up_o (by decide)).trans k40
                have t53 : H48 53 34 = H36 53 34 := by rw [e51]; exact fz_up_o (by decide)
                have hXw54 : fz_Xw H48 := fz_Xw_eq (by rw [e51]; exact fz_up_o (by decide)) (by rw [e51]; exact fz_up_ne (by decide)) (by rw [e51]; exact fz_up_ne (by decide)) (by rw [e51]; exact fz_up_ne (by decide)) (by rw [e51]; exact fz_up_ne (by decide)) hXw42
                refine fz_aload_n kX11_walk rfl rfl ?_
                refine fz_getR (t := 77) kX11_walk rfl rfl ?_
                refine fz_iconst ⟨by decide, by decide⟩ kX11_walk rfl ?_
                refine fz_dup2 rfl rfl kX11_walk rfl ?_
                obtain ⟨v55, e56⟩ : ∃ z, H48 77 (1) = z := ⟨_, rfl⟩
                refine fz_ialdV (n := 4) (v := v55) kX11_walk rfl rfl (by omega) (by omega) e56 ?_
                have b57 : (-2147483648) ≤ v55 ∧ v55 ≤ 2147483647 := by rw [← e56]; exact hI49.1 77 _
                refine fz_aload_n kX11_walk rfl rfl ?_
                refine fz_getR (t := 57) kX11_walk rfl rfl ?_
                refine fz_iload_n kX11_walk rfl rfl ?_
                refine fz_ialdV (n := 12) (v := h 57 (rd.toNat)) kX11_walk rfl rfl (by omega) (by omega) (hf50 57 _ rfl) ?_
                refine fz_iadd kX11_walk rfl ?_
                refine fz_nmw (fun z58 e59 => ?_)
                refine fz_iast (n := 4) kX11_walk rfl rfl (by omega) (by omega) ?_
                refine fz_nmu (S := [(53, 34), (74, 99999), (75, 99999), (76, 99999), (77, 99999), (86, 99999), (87, 99999), (88, 99999)]) (h0 := h) (fz_Iv_up hI49 (by decide) (show ((-2147483648) : Int) ≤ z58 by omega) (show (z58 : Int) ≤ 2147483647 by omega)) (fz_fr_up hf50 rfl) (fun H60 hI61 hf62 e63 => ?_)
                have k64 : H60 53 34 = ((h 53 34) + (h 57 (rd.toNat))) := by rw [e63]; exact (fz_up_o (by decide)).trans k52
                have t65 : H60 53 34 = H48 53 34 := by rw [e63]; exact fz_up_o (by decide)
                have hXw66 : fz_Xw H60 := fz_Xw_eq (by rw [e63]; exact fz_up_o (by decide)) (by rw [e63]; exact fz_up_ne (by decide)) (by rw [e63]; exact fz_up_ne (by decide)) (by rw [e63]; exact fz_up_ne (by decide)) (by rw [e63]; exact fz_up_ne (by decide)) hXw54
                refine fz_aload_n kX11_walk rfl rfl ?_
                refine fz_callV (d' := 3) (M' := mX11_allHear) (As := []) (st := []) kX11_walk rfl rfl vX11_allHear rfl rfl rfl rfl (Nat.le_of_ble_eq_true rfl) (Nat.le_of_ble_eq_true rfl) (by decide) (sX11_allHear H60 hI61  ) (fun H67 r68 q69 o70 => ?_)
                obtain ⟨hI71, hf72, rfl⟩ := q69
                clear o70
                have hf73 := fz_fr_tr hf62 hf72 (show fz_su [(86, 99999), (87, 99999), (88, 99999)] [(53, 34), (74, 99999), (75, 99999), (76, 99999), (77, 99999), (86, 99999), (87, 99999), (88, 99999)] = true from rfl)
                have k74 : H67 53 34 = ((h 53 34) + (h 57 (rd.toNat))) := (hf72 53 34 rfl).trans k64
                have hXw75 : fz_Xw H67 := fz_Xw_eq (hf72 53 19 rfl) (funext fun s => hf72 66 s rfl) (funext fun s => hf72 67 s rfl) (funext fun s => hf72 68 s rfl) (funext fun s => hf72 69 s rfl) hXw66
                have t76 : H67 53 34 = H60 53 34 := hf72 53 34 rfl
                refine fz_aload_n kX11_walk rfl rfl ?_
                refine fz_iload_n kX11_walk rfl rfl ?_
                refine fz_aload_n kX11_walk rfl rfl ?_
                refine fz_getR (t := 76) kX11_walk rfl rfl ?_
                refine fz_iload_n kX11_walk rfl rfl ?_
                obtain ⟨v77, e78⟩ : ∃ z, H67 76 (on.toNat) = z := ⟨_, rfl⟩
                refine fz_ialdV (n := 4) (v := v77) kX11_walk rfl rfl (by omega) (by omega) e78 ?_
                have b79 : 0 ≤ v77 ∧ v77 ≤ 7 := by rw [← e78]; exact hI71.1 76 _
                refine fz_aload_n kX11_walk rfl rfl ?_
                refine fz_getV (v := ((h 53 34) + (h 57 (rd.toNat)))) kX11_walk rfl rfl k74 ?_
                refine fz_callV (d' := 4) (M' := mX11_isArrested) (As := [fz_i on, fz_i v77, fz_i ((h 53 34) + (h 57 (rd.toNat)))]) (st := []) kX11_walk rfl rfl vX11_isArrested rfl rfl rfl rfl (Nat.le_of_ble_eq_true rfl) (Nat.le_of_ble_eq_true rfl) (by decide) (sX11_isArrested H67 hI71 on v77 ((h 53 34) + (h 57 (rd.toNat))) hXw75 (by omega)) (fun H80 r81 q82 o83 => ?_)
                obtain ⟨hI84, hf85, hXw86, y87, rfl, p88⟩ := q82
                clear o83
                have hf89 := fz_fr_tr hf73 hf85 (show fz_su [(74, 99999), (75, 99999)] [(53, 34), (74, 99999), (75, 99999), (76, 99999), (77, 99999), (86, 99999), (87, 99999), (88, 99999)] = true from rfl)
                have k90 : H80 53 34 = ((h 53 34) + (h 57 (rd.toNat))) := (hf85 53 34 rfl).trans k74
                have t91 : H80 53 34 = H67 53 34 := hf85 53 34 rfl
                refine fz_if_eq (tgt := 170) kX11_walk rfl (by decide) (fun c92 => ?_) (fun c92 => ?_)
                · refine fz_aload_n kX11_walk rfl rfl ?_
                  refine fz_getR (t := 76) kX11_walk rfl rfl ?_
                  refine fz_iload_n kX11_walk rfl rfl ?_
                  obtain ⟨v93, e94⟩ : ∃ z, H80 76 (on.toNat) = z := ⟨_, rfl⟩
                  refine fz_ialdV (n := 4) (v := v93) kX11_walk rfl rfl (by omega) (by omega) e94 ?_
                  have b95 : 0 ≤ v93 ∧ v93 ≤ 7 := by rw [← e94]; exact hI84.1 76 _
                  have k96 : H80 76 = fz_up h 76 on.toNat (fz_ac (h 55 rd.toNat) (h 56 rd.toNat) (h 76 on.toNat)) 76 := by first | (rw [lost, fz_up_ne (by decide), show H80 76 = H67 76 from funext fun s => hf85 76 s rfl, show H67 76 = H60 76 from funext fun s => hf72 76 s rfl, e63, fz_up_ne (by decide), e51, fz_up_ne (by decide), e39]; exact fz_up_pair (by rw [e29]; exact fz_up_ne (by decide)) rfl k33) | (rw [show H80 76 = H67 76 from funext fun s => hf85 76 s rfl, show H67 76 = H60 76 from funext fun s => hf72 76 s rfl, e63, fz_up_ne (by decide), e51, fz_up_ne (by decide), e39]; exact fz_up_pair (by rw [e29]; exact fz_up_ne (by decide)) rfl k33)
                  have k98 : v93 = fz_ac (h 55 rd.toNat) (h 56 rd.toNat) (h 76 on.toNat) := e94.symm.trans ((congrFun k96 _).trans fz_up_e)
                  exact fz_iret kX11_walk rfl rfl (fun _ => ⟨hI84, hf89, hXw86, _, rfl, (by omega), (by first | exact Or.inl ⟨(by unfold fz_wkN; omega), rfl, rfl, rfl⟩ | exact Or.inr (Or.inl ⟨(by unfold fz_wkN; omega), (by rw [← fz_ac_3 (by omega) (by omega)]; decide), rfl, rfl, rfl⟩) | exact Or.inr (Or.inr (Or.inl ⟨(by unfold fz_wkN; omega), fz_ac_nn (hI.1 55 _).1 (hI.1 56 _).1 (by omega), by omega, rfl, rfl, rfl⟩)) | exact Or.inr (Or.inr (Or.inr ⟨(by unfold fz_wkN; omega), by omega, by omega, by omega, by omega, k96⟩)))⟩)
                · refine fz_aload_n kX11_walk rfl rfl ?_
                  refine fz_getR (t := 77) kX11_walk rfl rfl ?_
                  refine fz_iconst ⟨by decide, by decide⟩ kX11_walk rfl ?_
                  refine fz_dup2 rfl rfl kX11_walk rfl ?_
                  obtain ⟨v100, e101⟩ : ∃ z, H80 77 (2) = z := ⟨_, rfl⟩
                  refine fz_ialdV (n := 4) (v := v100) kX11_walk rfl rfl (by omega) (by omega) e101 ?_
                  have b102 : (-2147483648) ≤ v100 ∧ v100 ≤ 2147483647 := by rw [← e101]; exact hI84.1 77 _
                  refine fz_iconst ⟨by decide, by decide⟩ kX11_walk rfl ?_
                  refine fz_iadd kX11_walk rfl ?_
                  refine fz_nmw (fun z103 e104 => ?_)
                  refine fz_iast (n := 4) kX11_walk rfl rfl (by omega) (by omega) ?_
                  refine fz_nmu (S := [(53, 34), (74, 99999), (75, 99999), (76, 99999), (77, 99999), (86, 99999), (87, 99999), (88, 99999)]) (h0 := h) (fz_Iv_up hI84 (by decide) (show ((-2147483648) : Int) ≤ z103 by omega) (show (z103 : Int) ≤ 2147483647 by omega)) (fz_fr_up hf89 rfl) (fun H105 hI106 hf107 e108 => ?_)
                  have k109 : H105 53 34 = ((h 53 34) + (h 57 (rd.toNat))) := by rw [e108]; exact (fz_up_o (by decide)).trans k90
                  have t110 : H105 53 34 = H80 53 34 := by rw [e108]; exact fz_up_o (by decide)
                  have hXw111 : fz_Xw H105 := fz_Xw_eq (by rw [e108]; exact fz_up_o (by decide)) (by rw [e108]; exact fz_up_ne (by decide)) (by rw [e108]; exact fz_up_ne (by decide)) (by rw [e108]; exact fz_up_ne (by decide)) (by rw [e108]; exact fz_up_ne (by decide)) hXw86
                  refine fz_aload_n kX11_walk rfl rfl ?_
                  refine fz_getR (t := 76) kX11_walk rfl rfl ?_
                  refine fz_iload_n kX11_walk rfl rfl ?_
                  obtain ⟨v112, e113⟩ : ∃ z, H105 76 (on.toNat) = z := ⟨_, rfl⟩
                  refine fz_ialdV (n := 4) (v := v112) kX11_walk rfl rfl (by omega) (by omega) e113 ?_
                  have b114 : 0 ≤ v112 ∧ v112 ≤ 7 := by rw [← e113]; exact hI106.1 76 _
                  have k115 : H105 76 = fz_up h 76 on.toNat (fz_ac (h 55 rd.toNat) (h 56 rd.toNat) (h 76 on.toNat)) 76 := by first | (rw [e108, fz_up_ne (by decide), show H80 76 = H67 76 from funext fun s => hf85 76 s rfl, show H67 76 = H60 76 from funext fun s => hf72 76 s rfl, e63, fz_up_ne (by decide), e51, fz_up_ne (by decide), e39]; exact fz_up_pair (by rw [e29]; exact fz_up_ne (by decide)) rfl k33) | (rw [show H80 76 = H67 76 from funext fun s => hf85 76 s rfl, show H67 76 = H60 76 from funext fun s => hf72 76 s rfl, e63, fz_up_ne (by decide), e51, fz_up_ne (by decide), e39]; exact fz_up_pair (by rw [e29]; exact fz_up_ne (by decide)) rfl k33)
                  have k117 : v112 = fz_ac (h 55 rd.toNat) (h 56 rd.toNat) (h 76 on.toNat) := e113.symm.trans ((congrFun k115 _).trans fz_up_e)
                  exact fz_iret kX11_walk rfl rfl (fun _ => ⟨hI106, hf107, hXw111, _, rfl, (by omega), (by first | exact Or.inl ⟨(by unfold fz_wkN; omega), rfl, rfl, rfl⟩ | exact Or.inr (Or.inl ⟨(by unfold fz_wkN; omega), (by rw [← fz_ac_3 (by omega) (by omega)]; decide), rfl, rfl, rfl⟩) | exact Or.inr (Or.inr (Or.inl ⟨(by unfold fz_wkN; omega), fz_ac_nn (hI.1 55 _).1 (hI.1 56 _).1 (by omega), by omega, rfl, rfl, rfl⟩)) | exact Or.inr (Or.inr (Or.inr ⟨(by unfold fz_wkN; omega), by omega, by omega, by omega, by omega, k115⟩)))⟩)
              · refine fz_aload_n kX11_walk rfl rfl ?_
                refine fz_getR (t := 56) kX11_walk rfl rfl ?_
                refine fz_iload_n kX11_walk rfl rfl ?_
                refine fz_ialdV (n := 12) (v := h 56 (rd.toNat)) kX11_walk rfl rfl (by omega) (by omega) (hf28 56 _ rfl) ?_
                have b119 : 0 ≤ h 56 (rd.toNat) ∧ h 56 (rd.toNat) ≤ 7 := hI.1 56 _
                refine fz_goto (tgt := 112) kX11_walk rfl (by decide) ?_
                have k120 : (h 56 (rd.toNat)) = fz_ac (h 55 rd.toNat) (h 56 rd.toNat) (h 76 on.toNat) := by first | exact fz_ac_1 (by omega) | exact fz_ac_2 (by omega) (by omega) | (exfalso; omega)
                have k122 : 0 ≤ fz_ac (h 55 rd.toNat) (h 56 rd.toNat) (h 76 on.toNat) := fz_ac_nn (hI.1 55 _).1 (hI.1 56 _).1 (by omega)
                refine fz_iast (n := 4) kX11_walk rfl rfl (by omega) (by omega) ?_
                refine fz_nmu (S := [(53, 34), (74, 99999), (75, 99999), (76, 99999), (77, 99999), (86, 99999), (87, 99999), (88, 99999)]) (h0 := h) (fz_Iv_up hI27 (by decide) (show (0 : Int) ≤ (h 56 (rd.toNat)) by omega) (show ((h 56 (rd.toNat)) : Int) ≤ 7 by omega)) (fz_fr_up hf28 rfl) (fun H123 hI124 hf125 e126 => ?_)
                have k127 : H123 53 34 = ((h 53 34) + (h 57 (rd.toNat))) := by rw [e126]; exact (fz_up_o (by decide)).trans k30
                have t128 : H123 53 34 = H26 53 34 := by rw [e126]; exact fz_up_o (by decide)
                have hXw129 : fz_Xw H123 := fz_Xw_eq (by rw [e126]; exact fz_up_o (by decide)) (by rw [e126]; exact fz_up_ne (by decide)) (by rw [e126]; exact fz_up_ne (by decide)) (by rw [e126]; exact fz_up_ne (by decide)) (by rw [e126]; exact fz_up_ne (by decide)) hXw31
                refine fz_aload_n kX11_walk rfl rfl ?_
                refine fz_getR (t := 77) kX11_walk rfl rfl ?_
                refine fz_iconst ⟨by decide, by decide⟩ kX11_walk rfl ?_
                refine fz_dup2 rfl rfl kX11_walk rfl ?_
                obtain ⟨v130, e131⟩ : ∃ z, H123 77 (0) = z := ⟨_, rfl⟩
                refine fz_ialdV (n := 4) (v := v130) kX11_walk rfl rfl (by omega) (by omega) e131 ?_
                have b132 : (-2147483648) ≤ v130 ∧ v130 ≤ 2147483647 := by rw [← e131]; exact hI124.1 77 _
                refine fz_iconst ⟨by decide, by decide⟩ kX11_walk rfl ?_
                refine fz_iadd kX11_walk rfl ?_
                refine fz_nmw (fun z133 e134 => ?_)
                refine fz_iast (n := 4) kX11_walk rfl rfl (by omega) (by omega) ?_
                refine fz_nmu (S := [(53, 34), (74, 99999), (75, 99999), (76, 99999), (77, 99999), (86, 99999), (87, 99999), (88, 99999)]) (h0 := h) (fz_Iv_up hI124 (by decide) (show ((-2147483648) : Int) ≤ z133 by omega) (show (z133 : Int) ≤ 2147483647 by omega)) (fz_fr_up hf125 rfl) (fun H135 hI136 hf137 e138 => ?_)
                have k139 : H135 53 34 = ((h 53 34) + (h 57 (rd.toNat))) := by rw [e138]; exact (fz_up_o (by decide)).trans k127
                have t140 : H135 53 34 = H123 53 34 := by rw [e138]; exact fz_up_o (by decide)
                have hXw141 : fz_Xw H135 := fz_Xw_eq (by rw [e138]; exact fz_up_o (by decide)) (by rw [e138]; exact fz_up_ne (by decide)) (by rw [e138]; exact fz_up_ne (by decide)) (by rw [e138]; exact fz_up_ne (by decide)) (by rw [e138]; exact fz_up_ne (by decide)) hXw129
                refine fz_aload_n kX11_walk rfl rfl ?_
                refine fz_getR (t := 77) kX11_walk rfl rfl ?_
                refine fz_iconst ⟨by decide, by decide⟩ kX11_walk rfl ?_
                refine fz_dup2 rfl rfl kX11_walk rfl ?_
                obtain ⟨v142, e143⟩ : ∃ z, H135 77 (1) = z := ⟨_, rfl⟩
                refine fz_ialdV (n := 4) (v := v142) kX11_walk rfl rfl (by omega) (by omega) e143 ?_
                have b144 : (-2147483648) ≤ v142 ∧ v142 ≤ 2147483647 := by rw [← e143]; exact hI136.1 77 _
                refine fz_aload_n kX11_walk rfl rfl ?_
                refine fz_getR (t := 57) kX11_walk rfl rfl ?_
                refine fz_iload_n kX11_walk rfl rfl ?_
                refine fz_ialdV (n := 12) (v := h 57 (rd.toNat)) kX11_walk rfl rfl (by omega) (by omega) (hf137 57 _ rfl) ?_
                refine fz_iadd kX11_walk rfl ?_
                refine fz_nmw (fun z145 e146 => ?_)
                refine fz_iast (n := 4) kX11_walk rfl rfl (by omega) (by omega) ?_
                refine fz_nmu (S := [(53, 34), (74, 99999), (75, 99999), (76, 99999), (77, 99999), (86, 99999), (87, 99999), (88, 99999)]) (h0 := h) (fz_Iv_up hI136 (by decide) (show ((-2147483648) : Int) ≤ z145 by omega) (show (z145 : Int) ≤ 2147483647 by omega)) (fz_fr_up hf137 rfl) (fun H147 hI148 hf149 e150 => ?_)
                have k151 : H147 53 34 = ((h 53 34) + (h 57 (rd.toNat))) := by rw [e150]; exact (fz_up_o (by decide)).trans k139
                have t152 : H147 53 34 = H135 53 34 := by rw [e150]; exact fz_up_o (by decide)
                have hXw153 : fz_Xw H147 := fz_Xw_eq (by rw [e150]; exact fz_up_o (by decide)) (by rw [e150]; exact fz_up_ne (by decide)) (by rw [e150]; exact fz_up_ne (by decide)) (by rw [e150]; exact fz_up_ne (by decide)) (by rw [e150]; exact fz_up_ne (by decide)) hXw141
                refine fz_aload_n kX11_walk rfl rfl ?_
                refine fz_callV (d' := 3) (M' := mX11_allHear) (As := []) (st := []) kX11_walk rfl rfl vX11_allHear rfl rfl rfl rfl (Nat.le_of_ble_eq_true rfl) (Nat.le_of_ble_eq_true rfl) (by decide) (sX11_allHear H147 hI148  ) (fun H154 r155 q156 o157 => ?_)
                obtain ⟨hI158, hf159, rfl⟩ := q156
                clear o157
                have hf160 := fz_fr_tr hf149 hf159 (show fz_su [(86, 99999), (87, 99999), (88, 99999)] [(53, 34), (74, 99999), (75, 99999), (76, 99999), (77, 99999), (86, 99999), (87, 99999), (88, 99999)] = true from rfl)
                have k161 : H154 53 34 = ((h 53 34) + (h 57 (rd.toNat))) := (hf159 53 34 rfl).trans k151
                have hXw162 : fz_Xw H154 := fz_Xw_eq (hf159 53 19 rfl) (funext fun s => hf159 66 s rfl) (funext fun s => hf159 67 s rfl) (funext fun s => hf159 68 s rfl) (funext fun s => hf159 69 s rfl) hXw153
                have t163 : H154 53 34 = H147 53 34 := hf159 53 34 rfl
                refine fz_aload_n kX11_walk rfl rfl ?_
                refine fz_iload_n kX11_walk rfl rfl ?_
                refine fz_aload_n kX11_walk rfl rfl ?_
                refine fz_getR (t := 76) kX11_walk rfl rfl ?_
                refine fz_iload_n kX11_walk rfl rfl ?_
                obtain ⟨v164, e165⟩ : ∃ z, H154 76 (on.toNat) = z := ⟨_, rfl⟩
                refine fz_ialdV (n := 4) (v := v164) kX11_walk rfl rfl (by omega) (by omega) e165 ?_
                have b166 : 0 ≤ v164 ∧ v164 ≤ 7 := by rw [← e165]; exact hI158.1 76 _
                refine fz_aload_n kX11_walk rfl rfl ?_
                refine fz_getV (v := ((h 53 34) + (h 57 (rd.toNat)))) kX11_walk rfl rfl k161 ?_
                refine fz_callV (d' := 4) (M' := mX11_isArrested) (As := [fz_i on, fz_i v164, fz_i ((h 53 34) + (h 57 (rd.toNat)))]) (st := []) kX11_walk rfl rfl vX11_isArrested rfl rfl rfl rfl (Nat.le_of_ble_eq_true rfl) (Nat.le_of_ble_eq_true rfl) (by decide) (sX11_isArrested H154 hI158 on v164 ((h 53 34) + (h 57 (rd.toNat))) hXw162 (by omega)) (fun H167 r168 q169 o170 => ?_)
                obtain ⟨hI171, hf172, hXw173, y174, rfl, p175⟩ := q169
                clear o170
                have hf176 := fz_fr_tr hf160 hf172 (show fz_su [(74, 99999), (75, 99999)] [(53, 34), (74, 99999), (75, 99999), (76, 99999), (77, 99999), (86, 99999), (87, 99999), (88, 99999)] = true from rfl)
                have k177 : H167 53 34 = ((h 53 34) + (h 57 (rd.toNat))) := (hf172 53 34 rfl).trans k161
                have t178 : H167 53 34 = H154 53 34 := hf172 53 34 rfl
                refine fz_if_eq (tgt := 170) kX11_walk rfl (by decide) (fun c179 => ?_) (fun c179 => ?_)
                · refine fz_aload_n kX11_walk rfl rfl ?_
                  refine fz_getR (t := 76) kX11_walk rfl rfl ?_
                  refine fz_iload_n kX11_walk rfl rfl ?_
                  obtain ⟨v180, e181⟩ : ∃ z, H167 76 (on.toNat) = z := ⟨_, rfl⟩
                  refine fz_ialdV (n := 4) (v := v180) kX11_walk rfl rfl (by omega) (by omega) e181 ?_
                  have b182 : 0 ≤ v180 ∧ v180 ≤ 7 := by rw [← e181]; exact hI171.1 76 _
                  have k183 : H167 76 = fz_up h 76 on.toNat (fz_ac (h 55 rd.toNat) (h 56 rd.toNat) (h 76 on.toNat)) 76 := by first | (rw [lost, fz_up_ne (by decide), show H167 76 = H154 76 from funext fun s => hf172 76 s rfl, show H154 76 = H147 76 from funext fun s => hf159 76 s rfl, e150, fz_up_ne (by decide), e138, fz_up_ne (by decide), e126]; exact fz_up_pair (by rw [e29]; exact fz_up_ne (by decide)) rfl k120) | (rw [show H167 76 = H154 76 from funext fun s => hf172 76 s rfl, show H154 76 = H147 76 from funext fun s => hf159 76 s rfl, e150, fz_up_ne (by decide), e138, fz_up_ne (by decide), e126]; exact fz_up_pair (by rw [e29]; exact fz_up_ne (by decide)) rfl k120)
                  have k185 : v180 = fz_ac (h 55 rd.toNat) (h 56 rd.toNat) (h 76 on.toNat) := e181.symm.trans ((congrFun k183 _).trans fz_up_e)
                  exact fz_iret kX11_walk rfl rfl (fun _ => ⟨hI171, hf176, hXw173, _, rfl, (by omega), (by first | exact Or.inl ⟨(by unfold fz_wkN; omega), rfl, rfl, rfl⟩ | exact Or.inr (Or.inl ⟨(by unfold fz_wkN; omega), (by rw [← fz_ac_3 (by omega) (by omega)]; decide), rfl, rfl, rfl⟩) | exact Or.inr (Or.inr (Or.inl ⟨(by unfold fz_wkN; omega), fz_ac_nn (hI.1 55 _).1 (hI.1 56 _).1 (by omega), by omega, rfl, rfl, rfl⟩)) | exact Or.inr (Or.inr (Or.inr ⟨(by unfold fz_wkN; omega), by omega, by omega, by omega, by omega, k183⟩)))⟩)
                · refine fz_aload_n kX11_walk rfl rfl ?_
                  refine fz_getR (t := 77) kX11_walk rfl rfl ?_
                  refine fz_iconst ⟨by decide, by decide⟩ kX11_walk rfl ?_
                  refine fz_dup2 rfl rfl kX11_walk rfl ?_
                  obtain ⟨v187, e188⟩ : ∃ z, H167 77 (2) = z := ⟨_, rfl⟩
                  refine fz_ialdV (n := 4) (v := v187) kX11_walk rfl rfl (by omega) (by omega) e188 ?_
                  have b189 : (-2147483648) ≤ v187 ∧ v187 ≤ 2147483647 := by rw [← e188]; exact hI171.1 77 _
                  refine fz_iconst ⟨by decide, by decide⟩ kX11_walk rfl ?_
                  refine fz_iadd kX11_walk rfl ?_
                  refine fz_nmw (fun z190 e191 => ?_)
                  refine fz_iast (n := 4) kX11_walk rfl rfl (by omega) (by omega) ?_
                  refine fz_nmu (S := [(53, 34), (74, 99999), (75, 99999), (76, 99999), (77, 99999), (86, 99999), (87, 99999), (88, 99999)]) (h0 := h) (fz_Iv_up hI171 (by decide) (show ((-2147483648) : Int) ≤ z190 by omega) (show (z190 : Int) ≤ 2147483647 by omega)) (fz_fr_up hf176 rfl) (fun H192 hI193 hf194 e195 => ?_)
                  have k196 : H192 53 34 = ((h 53 34) + (h 57 (rd.toNat))) := by rw [e195]; exact (fz_up_o (by decide)).trans k177
                  have t197 : H192 53 34 = H167 53 34 := by rw [e195]; exact fz_up_o (by decide)
                  have hXw198 : fz_Xw H192 := fz_Xw_eq (by rw [e195]; exact fz_up_o (by decide)) (by rw [e195]; exact fz_up_ne (by decide)) (by rw [e195]; exact fz_up_ne (by decide)) (by rw [e195]; exact fz_up_ne (by decide)) (by rw [e195]; exact fz_up_ne (by decide)) hXw173
                  refine fz_aload_n kX11_walk rfl rfl ?_
                  refine fz_getR (t := 76) kX11_walk rfl rfl ?_
                  refine fz_iload_n kX11_walk rfl rfl ?_
                  obtain ⟨v199, e200⟩ : ∃ z, H192 76 (on.toNat) = z := ⟨_, rfl⟩
                  refine fz_ialdV (n := 4) (v := v199) kX11_walk rfl rfl (by omega) (by omega) e200 ?_
                  have b201 : 0 ≤ v199 ∧ v199 ≤ 7 := by rw [← e200]; exact hI193.1 76 _
                  have k202 : H192 76 = fz_up h 76 on.toNat (fz_ac (h 55 rd.toNat) (h 56 rd.toNat) (h 76 on.toNat)) 76 := by first | (rw [e195, fz_up_ne (by decide), show H167 76 = H154 76 from funext fun s => hf172 76 s rfl, show H154 76 = H147 76 from funext fun s => hf159 76 s rfl, e150, fz_up_ne (by decide), e138, fz_up_ne (by decide), e126]; exact fz_up_pair (by rw [e29]; exact fz_up_ne (by decide)) rfl k120) | (rw [show H167 76 = H154 76 from funext fun s => hf172 76 s rfl, show H154 76 = H147 76 from funext fun s => hf159 76 s rfl, e150, fz_up_ne (by decide), e138, fz_up_ne (by decide), e126]; exact fz_up_pair (by rw [e29]; exact fz_up_ne (by decide)) rfl k120)
                  have k204 : v199 = fz_ac (h 55 rd.toNat) (h 56 rd.toNat) (h 76 on.toNat) := e200.symm.trans ((congrFun k202 _).trans fz_up_e)
                  exact fz_iret kX11_walk rfl rfl (fun _ => ⟨hI193, hf194, hXw198, _, rfl, (by omega), (by first | exact Or.inl ⟨(by unfold fz_wkN; omega), rfl, rfl, rfl⟩ | exact Or.inr (Or.inl ⟨(by unfold fz_wkN; omega), (by rw [← fz_ac_3 (by omega) (by omega)]; decide), rfl, rfl, rfl⟩) | exact Or.inr (Or.inr (Or.inl ⟨(by unfold fz_wkN; omega), fz_ac_nn (hI.1 55 _).1 (hI.1 56 _).1 (by omega), by omega, rfl, rfl, rfl⟩)) | exact Or.inr (Or.inr (Or.inr ⟨(by unfold fz_wkN; omega), by omega, by omega, by omega, by omega, k202⟩)))⟩)
            · refine fz_bipush ⟨by decide, by decide⟩ kX11_walk rfl ?_
              exact fz_iret kX11_walk rfl rfl (fun _ => ⟨hI, hf, hXw, _, rfl, (by omega), (by first | exact Or.inl ⟨(by unfold fz_wkN; omega), rfl, rfl, rfl⟩ | exact Or.inr (Or.inl ⟨(by unfold fz_wkN; omega), (by rw [← fz_ac_3 (by omega) (by omega)]; decide), rfl, rfl, rfl⟩) | exact Or.inr (Or.inr (Or.inl ⟨(by unfold fz_wkN; omega), fz_ac_nn (hI.1 55 _).1 (hI.1 56 _).1 (by omega), by omega, rfl, rfl, rfl⟩)) | exact Or.inr (Or.inr (Or.inr ⟨(by unfold fz_wkN; omega), by omega, by omega, by omega, by omega, lost⟩)))⟩)
          · refine fz_aload_n kX11_walk rfl rfl ?_
            refine fz_getR (t := 56) kX11_walk rfl rfl ?_
            refine fz_iload_n kX11_walk rfl rfl ?_
            refine fz_ialdV (n := 12) (v := h 56 (rd.toNat)) kX11_walk rfl rfl (by omega) (by omega) rfl ?_
            have b207 : 0 ≤ h 56 (rd.toNat) ∧ h 56 (rd.toNat) ≤ 7 := hI.1 56 _
            refine fz_iload_n kX11_walk rfl rfl ?_
            refine fz_icmp_eq (tgt := 47) kX11_walk rfl (by decide) (fun c208 => ?_) (fun c208 => ?_)
            · refine fz_aload_n kX11_walk rfl rfl ?_
              refine fz_getV (v := h 53 34) kX11_walk rfl rfl rfl ?_
              have b209 : 0 ≤ h 53 34 ∧ h 53 34 ≤ 999 := hI.1 53 _
              refine fz_aload_n kX11_walk rfl rfl ?_
              refine fz_getR (t := 57) kX11_walk rfl rfl ?_
              refine fz_iload_n kX11_walk rfl rfl ?_
              refine fz_ialdV (n := 12) (v := h 57 (rd.toNat)) kX11_walk rfl rfl (by omega) (by omega) rfl ?_
              have b210 : 0 ≤ h 57 (rd.toNat) ∧ h 57 (rd.toNat) ≤ 24 := hI.1 57 _
              refine fz_iaddN kX11_walk rfl (by omega) ?_
              refine fz_sipush ⟨by decide, by decide⟩ kX11_walk rfl ?_
              refine fz_icmp_le (tgt := 67) kX11_walk rfl (by decide) (fun c211 => ?_) (fun c211 => ?_)
              · refine fz_aload_n kX11_walk rfl rfl ?_
                refine fz_dup rfl kX11_walk rfl ?_
                refine fz_getV (v := h 53 34) kX11_walk rfl rfl rfl ?_
                refine fz_aload_n kX11_walk rfl rfl ?_
                refine fz_getR (t := 57) kX11_walk rfl rfl ?_
                refine fz_iload_n kX11_walk rfl rfl ?_
                refine fz_ialdV (n := 12) (v := h 57 (rd.toNat)) kX11_walk rfl rfl (by omega) (by omega) rfl ?_
                refine fz_iaddN kX11_walk rfl (by omega) ?_
                refine fz_putI kX11_walk rfl rfl rfl ?_
                refine fz_nmu (S := [(53, 34), (74, 99999), (75, 99999), (76, 99999), (77, 99999), (86, 99999), (87, 99999), (88, 99999)]) (h0 := h) (fz_Iv_up hI (by decide) (show (0 : Int) ≤ ((h 53 34) + (h 57 (rd.toNat))) by omega) (show (((h 53 34) + (h 57 (rd.toNat))) : Int) ≤ 999 by omega)) (fz_fr_up hf rfl) (fun H212 hI213 hf214 e215 => ?_)
                have k216 : H212 53 34 = ((h 53 34) + (h 57 (rd.toNat))) := by rw [e215]; exact fz_up_e
                have hXw217 : fz_Xw H212 := fz_Xw_eq (by rw [e215]; exact fz_up_s (by decide)) (by rw [e215]; exact fz_up_ne (by decide)) (by rw [e215]; exact fz_up_ne (by decide)) (by rw [e215]; exact fz_up_ne (by decide)) (by rw [e215]; exact fz_up_ne (by decide)) hXw
                refine fz_aload_n kX11_walk rfl rfl ?_
                refine fz_getR (t := 76) kX11_walk rfl rfl ?_
                refine fz_iload_n kX11_walk rfl rfl ?_
                refine fz_aload_n kX11_walk rfl rfl ?_
                refine fz_getR (t := 55) kX11_walk rfl rfl ?_
                refine fz_iload_n kX11_walk rfl rfl ?_
                refine fz_ialdV (n := 12) (v := h 55 (rd.toNat)) kX11_walk rfl rfl (by omega) (by omega) (hf214 55 _ rfl) ?_
                refine fz_iload_n kX11_walk rfl rfl ?_
                refine fz_icmp_ne (tgt := 106) kX11_walk rfl (by decide) (fun c218 => ?_) (fun c218 => ?_)
                · refine fz_aload_n kX11_walk rfl rfl ?_
                  refine fz_getR (t := 55) kX11_walk rfl rfl ?_
                  refine fz_iload_n kX11_walk rfl rfl ?_
                  refine fz_ialdV (n := 12) (v := h 55 (rd.toNat)) kX11_walk rfl rfl (by omega) (by omega) (hf214 55 _ rfl) ?_
                  have k219 : (h 55 (rd.toNat)) = fz_ac (h 55 rd.toNat) (h 56 rd.toNat) (h 76 on.toNat) := by first | exact fz_ac_1 (by omega) | exact fz_ac_2 (by omega) (by omega) | (exfalso; omega)
                  have k221 : 0 ≤ fz_ac (h 55 rd.toNat) (h 56 rd.toNat) (h 76 on.toNat) := fz_ac_nn (hI.1 55 _).1 (hI.1 56 _).1 (by omega)
                  refine fz_iast (n := 4) kX11_walk rfl rfl (by omega) (by omega) ?_
                  refine fz_nmu (S := [(53, 34), (74, 99999), (75, 99999), (76, 99999), (77, 99999), (86, 99999), (87, 99999), (88, 99999)]) (h0 := h) (fz_Iv_up hI213 (by decide) (show (0 : Int) ≤ (h 55 (rd.toNat)) by omega) (show ((h 55 (rd.toNat)) : Int) ≤ 7 by omega)) (fz_fr_up hf214 rfl) (fun H222 hI223 hf224 e225 => ?_)
                  have k226 : H222 53 34 = ((h 53 34) + (h 57 (rd.toNat))) := by rw [e225]; exact (fz_up_o (by decide)).trans k216
                  have t227 : H222 53 34 = H212 53 34 := by rw [e225]; exact fz_up_o (by decide)
                  have hXw228 : fz_Xw H222 := fz_Xw_eq (by rw [e225]; exact fz_up_o (by decide)) (by rw [e225]; exact fz_up_ne (by decide)) (by rw [e225]; exact fz_up_ne (by decide)) (by rw [e225]; exact fz_up_ne (by decide)) (by rw [e225]; exact fz_up_ne (by decide)) hXw217
                  refine fz_aload_n kX11_walk rfl rfl ?_
                  refine fz_getR (t := 77) kX11_walk rfl rfl ?_
                  refine fz_iconst ⟨by decide, by decide⟩ kX11_walk rfl ?_
                  refine fz_dup2 rfl rfl kX11_walk rfl ?_
                  obtain ⟨v229, e230⟩ : ∃ z, H222 77 (0) = z := ⟨_, rfl⟩
                  refine fz_ialdV (n := 4) (v := v229) kX11_walk rfl rfl (by omega) (by omega) e230 ?_
                  have b231 : (-2147483648) ≤ v229 ∧ v229 ≤ 2147483647 := by rw [← e230]; exact hI223.1 77 _
                  refine fz_iconst ⟨by decide, by decide⟩ kX11_walk rfl ?_
                  refine fz_iadd kX11_walk rfl ?_
                  refine fz_nmw (fun z232 e233 => ?_)
                  refine fz_iast (n := 4) kX11_walk rfl rfl (by omega) (by omega) ?_
                  refine fz_nmu (S := [(53, 34), (74, 99999), (75, 99999), (76, 99999), (77, 99999), (86, 99999), (87, 99999), (88, 99999)]) (h0 := h) (fz_Iv_up hI223 (by decide) (show ((-2147483648) : Int) ≤ z232 by omega) (show (z232 : Int) ≤ 2147483647 by omega)) (fz_fr_up hf224 rfl) (fun H234 hI235 hf236 e237 => ?_)
                  have k238 : H234 53 34 = ((h 53 34) + (h 57 (rd.toNat))) := by rw [e237]; exact (fz_up_o (by decide)).trans k226
                  have t239 : H234 53 34 = H222 53 34 := by rw [e237]; exact fz_up_o (by decide)
                  have hXw240 : fz_Xw H234 := fz_Xw_eq (by rw [e237]; exact fz_up_o (by decide)) (by rw [e237]; exact fz_up_ne (by decide)) (by rw [e237]; exact fz_up_ne (by decide)) (by rw [e237]; exact fz_up_ne (by decide)) (by rw [e237]; exact fz_up_ne (by decide)) hXw228
                  refine fz_aload_n kX11_walk rfl rfl ?_
                  refine fz_getR (t := 77) kX11_walk rfl rfl ?_
                  refine fz_iconst ⟨by decide, by decide⟩ kX11_walk rfl ?_
                  refine fz_dup2 rfl rfl kX11_walk rfl ?_
                  obtain ⟨v241, e242⟩ : ∃ z, H234 77 (1) = z := ⟨_, rfl⟩
                  refine fz_ialdV (n := 4) (v := v241) kX11_walk rfl rfl (by omega) (by omega) e242 ?_
                  have b243 : (-2147483648) ≤ v241 ∧ v241 ≤ 2147483647 := by rw [← e242]; exact hI235.1 77 _
                  refine fz_aload_n kX11_walk rfl rfl ?_
                  refine fz_getR (t := 57) kX11_walk rfl rfl ?_
                  refine fz_iload_n kX11_walk rfl rfl ?_
                  refine fz_ialdV (n := 12) (v := h 57 (rd.toNat)) kX11_walk rfl rfl (by omega) (by omega) (hf236 57 _ rfl) ?_
                  refine fz_iadd kX11_walk rfl ?_
                  refine fz_nmw (fun z244 e245 => ?_)
                  refine fz_iast (n := 4) kX11_walk rfl rfl (by omega) (by omega) ?_
                  refine fz_nmu (S := [(53, 34), (74, 99999), (75, 99999), (76, 99999), (77, 99999), (86, 99999), (87, 99999), (88, 99999)]) (h0 := h) (fz_Iv_up hI235 (by decide) (show ((-2147483648) : Int) ≤ z244 by omega) (show (z244 : Int) ≤ 2147483647 by omega)) (fz_fr_up hf236 rfl) (fun H246 hI247 hf248 e249 => ?_)
                  have k250 : H246 53 34 = ((h 53 34) + (h 57 (rd.toNat))) := by rw [e249]; exact (fz_up_o (by decide)).trans k238
                  have t251 : H246 53 34 = H234 53 34 := by rw [e249]; exact fz_up_o (by decide)
                  have hXw252 : fz_Xw H246 := fz_Xw_eq (by rw [e249]; exact fz_up_o (by decide)) (by rw [e249]; exact fz_up_ne (by decide)) (by rw [e249]; exact fz_up_ne (by decide)) (by rw [e249]; exact fz_up_ne (by decide)) (by rw [e249]; exact fz_up_ne (by decide)) hXw240
                  refine fz_aload_n kX11_walk rfl rfl ?_
                  refine fz_callV (d' := 3) (M' := mX11_allHear) (As := []) (st := []) kX11_walk rfl rfl vX11_allHear rfl rfl rfl rfl (Nat.le_of_ble_eq_true rfl) (Nat.le_of_ble_eq_true rfl) (by decide) (sX11_allHear H246 hI247  ) (fun H253 r254 q255 o256 => ?_)
                  obtain ⟨hI257, hf258, rfl⟩ := q255
                  clear o256
                  have hf259 := fz_fr_tr hf248 hf258 (show fz_su [(86, 99999), (87, 99999), (88, 99999)] [(53, 34), (74, 99999), (75, 99999), (76, 99999), (77, 99999), (86, 99999), (87, 99999), (88, 99999)] = true from rfl)
                  have k260 : H253 53 34 = ((h 53 34) + (h 57 (rd.toNat))) := (hf258 53 34 rfl).trans k250
                  have hXw261 : fz_Xw H253 := fz_Xw_eq (hf258 53 19 rfl) (funext fun s => hf258 66 s rfl) (funext fun s => hf258 67 s rfl) (funext fun s => hf258 68 s rfl) (funext fun s => hf258 69 s rfl) hXw252
                  have t262 : H253 53 34 = H246 53 34 := hf258 53 34 rfl
                  refine fz_aload_n kX11_walk rfl rfl ?_
                  refine fz_iload_n kX11_walk rfl rfl ?_
                  refine fz_aload_n kX11_walk rfl rfl ?_
                  refine fz_getR (t := 76) kX11_walk rfl rfl ?_
                  refine fz_iload_n kX11_walk rfl rfl ?_
                  obtain ⟨v263, e264⟩ : ∃ z, H253 76 (on.toNat) = z := ⟨_, rfl⟩
                  refine fz_ialdV (n := 4) (v := v263) kX11_walk rfl rfl (by omega) (by omega) e264 ?_
                  have b265 : 0 ≤ v263 ∧ v263 ≤ 7 := by rw [← e264]; exact hI257.1 76 _
                  refine fz_aload_n kX11_walk rfl rfl ?_
                  refine fz_getV (v := ((h 53 34) + (h 57 (rd.toNat)))) kX11_walk rfl rfl k260 ?_
                  refine fz_callV (d' := 4) (M' := mX11_isArrested) (As := [fz_i on, fz_i v263, fz_i ((h 53 34) + (h 57 (rd.toNat)))]) (st := []) kX11_walk rfl rfl vX11_isArrested rfl rfl rfl rfl (Nat.le_of_ble_eq_true rfl) (Nat.le_of_ble_eq_true rfl) (by decide) (sX11_isArrested H253 hI257 on v263 ((h 53 34) + (h 57 (rd.toNat))) hXw261 (by omega)) (fun H266 r267 q268 o269 => ?_)
                  obtain ⟨hI270, hf271, hXw272, y273, rfl, p274⟩ := q268
                  clear o269
                  have hf275 := fz_fr_tr hf259 hf271 (show fz_su [(74, 99999), (75, 99999)] [(53, 34), (74, 99999), (75, 99999), (76, 99999), (77, 99999), (86, 99999), (87, 99999), (88, 99999)] = true from rfl)
                  have k276 : H266 53 34 = ((h 53 34) + (h 57 (rd.toNat))) := (hf271 53 34 rfl).trans k260
                  have t277 : H266 53 34 = H253 53 34 := hf271 53 34 rfl
                  refine fz_if_eq (tgt := 170) kX11_walk rfl (by decide) (fun c278 => ?_) (fun c278 => ?_)
                  · refine fz_aload_n kX11_walk rfl rfl ?_
                    refine fz_getR (t := 76) kX11_walk rfl rfl ?_
                    refine fz_iload_n kX11_walk rfl rfl ?_
                    obtain ⟨v279, e280⟩ : ∃ z, H266 76 (on.toNat) = z := ⟨_, rfl⟩
                    refine fz_ialdV (n := 4) (v := v279) kX11_walk rfl rfl (by omega) (by omega) e280 ?_
                    have b281 : 0 ≤ v279 ∧ v279 ≤ 7 := by rw [← e280]; exact hI270.1 76 _
                    have k282 : H266 76 = fz_up h 76 on.toNat (fz_ac (h 55 rd.toNat) (h 56 rd.toNat) (h 76 on.toNat)) 76 := by first | (rw [lost, fz_up_ne (by decide), show H266 76 = H253 76 from funext fun s => hf271 76 s rfl, show H253 76 = H246 76 from funext fun s => hf258 76 s rfl, e249, fz_up_ne (by decide), e237, fz_up_ne (by decide), e225]; exact fz_up_pair (by rw [e215]; exact fz_up_ne (by decide)) rfl k219) | (rw [show H266 76 = H253 76 from funext fun s => hf271 76 s rfl, show H253 76 = H246 76 from funext fun s => hf258 76 s rfl, e249, fz_up_ne (by decide), e237, fz_up_ne (by decide), e225]; exact fz_up_pair (by rw [e215]; exact fz_up_ne (by decide)) rfl k219)
                    have k284 : v279 = fz_ac (h 55 rd.toNat) (h 56 rd.toNat) (h 76 on.toNat) := e280.symm.trans ((congrFun k282 _).trans fz_up_e)
                    exact fz_iret kX11_walk rfl rfl (fun _ => ⟨hI270, hf275, hXw272, _, rfl, (by omega), (by first | exact Or.inl ⟨(by unfold fz_wkN; omega), rfl, rfl, rfl⟩ | exact Or.inr (Or.inl ⟨(by unfold fz_wkN; omega), (by rw [← fz_ac_3 (by omega) (by omega)]; decide), rfl, rfl, rfl⟩) | exact Or.inr (Or.inr (Or.inl ⟨(by unfold fz_wkN; omega), fz_ac_nn (hI.1 55 _).1 (hI.1 56 _).1 (by omega), by omega, rfl, rfl, rfl⟩)) | exact Or.inr (Or.inr (Or.inr ⟨(by unfold fz_wkN; omega), by omega, by omega, by omega, by omega, k282⟩)))⟩)
                  · refine fz_aload_n kX11_walk rfl rfl ?_
                    refine fz_getR (t := 77) kX11_walk rfl rfl ?_
                    refine fz_iconst ⟨by decide, by decide⟩ kX11_walk rfl ?_
                    refine fz_dup2 rfl rfl kX11_walk rfl ?_
                    obtain ⟨v286, e287⟩ : ∃ z, H266 77 (2) = z := ⟨_, rfl⟩
                    refine fz_ialdV (n := 4) (v := v286) kX11_walk rfl rfl (by omega) (by omega) e287 ?_
                    have b288 : (-2147483648) ≤ v286 ∧ v286 ≤ 2147483647 := by rw [← e287]; exact hI270.1 77 _
                    refine fz_iconst ⟨by decide, by decide⟩ kX11_walk rfl ?_
                    refine fz_iadd kX11_walk rfl ?_
                    refine fz_nmw (fun z289 e290 => ?_)
                    refine fz_iast (n := 4) kX11_walk rfl rfl (by omega) (by omega) ?_
                    refine fz_nmu (S := [(53, 34), (74, 99999), (75, 99999), (76, 99999), (77, 99999), (86, 99999), (87, 99999), (88, 99999)]) (h0 := h) (fz_Iv_up hI270 (by decide) (show ((-2147483648) : Int) ≤ z289 by omega) (show (z289 : Int) ≤ 2147483647 by omega)) (fz_fr_up hf275 rfl) (fun H291 hI292 hf293 e294 => ?_)
                    have k295 : H291 53 34 = ((h 53 34) + (h 57 (rd.toNat))) := by rw [e294]; exact (fz_up_o (by decide)).trans k276
                    have t296 : H291 53 34 = H266 53 34 := by rw [e294]; exact fz_up_o (by decide)
                    have hXw297 : fz_Xw H291 := fz_Xw_eq (by rw [e294]; exact fz_up_o (by decide)) (by rw [e294]; exact fz_up_ne (by decide)) (by rw [e294]; exact fz_up_ne (by decide)) (by rw [e294]; exact fz_up_ne (by decide)) (by rw [e294]; exact fz_up_ne (by decide)) hXw272
                    refine fz_aload_n kX11_walk rfl rfl ?_
                    refine fz_getR (t := 76) kX11_walk rfl rfl ?_
                    refine fz_iload_n kX11_walk rfl rfl ?_
                    obtain ⟨v298, e299⟩ : ∃ z, H291 76 (on.toNat) = z := ⟨_, rfl⟩
                    refine fz_ialdV (n := 4) (v := v298) kX11_walk rfl rfl (by omega) (by omega) e299 ?_
                    have b300 : 0 ≤ v298 ∧ v298 ≤ 7 := by rw [← e299]; exact hI292.1 76 _
                    have k301 : H291 76 = fz_up h 76 on.toNat (fz_ac (h 55 rd.toNat) (h 56 rd.toNat) (h 76 on.toNat)) 76 := by first | (rw [e294, fz_up_ne (by decide), show H266 76 = H253 76 from funext fun s => hf271 76 s rfl, show H253 76 = H246 76 from funext fun s => hf258 76 s rfl, e249, fz_up_ne (by decide), e237, fz_up_ne (by decide), e225]; exact fz_up_pair (by rw [e215]; exact fz_up_ne (by decide)) rfl k219) | (rw [show H266 76 = H253 76 from funext fun s => hf271 76 s rfl, show H253 76 = H246 76 from funext fun s => hf258 76 s rfl, e249, fz_up_ne (by decide), e237, fz_up_ne (by decide), e225]; exact fz_up_pair (by rw [e215]; exact fz_up_ne (by decide)) rfl k219)
                    have k303 : v298 = fz_ac (h 55 rd.toNat) (h 56 rd.toNat) (h 76 on.toNat) := e299.symm.trans ((congrFun k301 _).trans fz_up_e)
                    exact fz_iret kX11_walk rfl rfl (fun _ => ⟨hI292, hf293, hXw297, _, rfl, (by omega), (by first | exact Or.inl ⟨(by unfold fz_wkN; omega), rfl, rfl, rfl⟩ | exact Or.inr (Or.inl ⟨(by unfold fz_wkN; omega), (by rw [← fz_ac_3 (by omega) (by omega)]; decide), rfl, rfl, rfl⟩) | exact Or.inr (Or.inr (Or.inl ⟨(by unfold fz_wkN; omega), fz_ac_nn (hI.1 55 _).1 (hI.1 56 _).1 (by omega), by omega, rfl, rfl, rfl⟩)) | exact Or.inr (Or.inr (Or.inr ⟨(by unfold fz_wkN; omega), by omega, by omega, by omega, by omega, k301⟩)))⟩)
                · refine fz_aload_n kX11_walk rfl rfl ?_
                  refine fz_getR (t := 56) kX11_walk rfl rfl ?_
                  refine fz_iload_n kX11_walk rfl rfl ?_
                  refine fz_ialdV (n := 12) (v := h 56 (rd.toNat)) kX11_walk rfl rfl (by omega) (by omega) (hf214 56 _ rfl) ?_
                  refine fz_goto (tgt := 112) kX11_walk rfl (by decide) ?_
                  have k305 : (h 56 (rd.toNat)) = fz_ac (h 55 rd.toNat) (h 56 rd.toNat) (h 76 on.toNat) := by first | exact fz_ac_1 (by omega) | exact fz_ac_2 (by omega) (by omega) | (exfalso; omega)
                  have k307 : 0 ≤ fz_ac (h 55 rd.toNat) (h 56 rd.toNat) (h 76 on.toNat) := fz_ac_nn (hI.1 55 _).1 (hI.1 56 _).1 (by omega)
                  refine fz_iast (n := 4) kX11_walk rfl rfl (by omega) (by omega) ?_
                  refine fz_nmu (S := [(53, 34), (74, 99999), (75, 99999), (76, 99999), (77, 99999), (86, 99999), (87, 99999), (88, 99999)]) (h0 := h) (fz_Iv_up hI213 (by decide) (show (0 : Int) ≤ (h 56 (rd.toNat)) by omega) (show ((h 56 (rd.toNat)) : Int) ≤ 7 by omega)) (fz_fr_up hf214 rfl) (fun H308 hI309 hf310 e311 => ?_)
                  have k312 : H308 53 34 = ((h 53 34) + (h 57 (rd.toNat))) := by rw [e311]; exact (fz_up_o (by decide)).trans k216
                  have t313 : H308 53 34 = H212 53 34 := by rw [e311]; exact fz_up_o (by decide)
                  have hXw314 : fz_Xw H308 := fz_Xw_eq (by rw [e311]; exact fz_up_o (by decide)) (by rw [e311]; exact fz_up_ne (by decide)) (by rw [e311]; exact fz_up_ne (by decide)) (by rw [e311]; exact fz_up_ne (by decide)) (by rw [e311]; exact fz_up_ne (by decide)) hXw217
                  refine fz_aload_n kX11_walk rfl rfl ?_
                  refine fz_getR (t := 77) kX11_walk rfl rfl ?_
                  refine fz_iconst ⟨by decide, by decide⟩ kX11_walk rfl ?_
                  refine fz_dup2 rfl rfl kX11_walk rfl ?_
                  obtain ⟨v315, e316⟩ : ∃ z, H308 77 (0) = z := ⟨_, rfl⟩
                  refine fz_ialdV (n := 4) (v := v315) kX11_walk rfl rfl (by omega) (by omega) e316 ?_
                  have b317 : (-2147483648) ≤ v315 ∧ v315 ≤ 2147483647 := by rw [← e316]; exact hI309.1 77 _
                  refine fz_iconst ⟨by decide, by decide⟩ kX11_walk rfl ?_
                  refine fz_iadd kX11_walk rfl ?_
                  refine fz_nmw (fun z318 e319 => ?_)
                  refine fz_iast (n := 4) kX11_walk rfl rfl (by omega) (by omega) ?_
                  refine fz_nmu (S := [(53, 34), (74, 99999), (75, 99999), (76, 99999), (77, 99999), (86, 99999), (87, 99999), (88, 99999)]) (h0 := h) (fz_Iv_up hI309 (by decide) (show ((-2147483648) : Int) ≤ z318 by omega) (show (z318 : Int) ≤ 2147483647 by omega)) (fz_fr_up hf310 rfl) (fun H320 hI321 hf322 e323 => ?_)
                  have k324 : H320 53 34 = ((h 53 34) + (h 57 (rd.toNat))) := by rw [e323]; exact (fz_up_o (by decide)).trans k312
                  have t325 : H320 53 34 = H308 53 34 := by rw [e323]; exact fz_up_o (by decide)
                  have hXw326 : fz_Xw H320 := fz_Xw_eq (by rw [e323]; exact fz_up_o (by decide)) (by rw [e323]; exact fz_up_ne (by decide)) (by rw [e323]; exact fz_up_ne (by decide)) (by rw [e323]; exact fz_up_ne (by decide)) (by rw [e323]; exact fz_up_ne (by decide)) hXw314
                  refine fz_aload_n kX11_walk rfl rfl ?_
                  refine fz_getR (t := 77) kX11_walk rfl rfl ?_
                  refine fz_iconst ⟨by decide, by decide⟩ kX11_walk rfl ?_
                  refine fz_dup2 rfl rfl kX11_walk rfl ?_
                  obtain ⟨v327, e328⟩ : ∃ z, H320 77 (1) = z := ⟨_, rfl⟩
                  refine fz_ialdV (n := 4) (v := v327) kX11_walk rfl rfl (by omega) (by omega) e328 ?_
                  have b329 : (-2147483648) ≤ v327 ∧ v327 ≤ 2147483647 := by rw [← e328]; exact hI321.1 77 _
                  refine fz_aload_n kX11_walk rfl rfl ?_
                  refine fz_getR (t := 57) kX11_walk rfl rfl ?_
                  refine fz_iload_n kX11_walk rfl rfl ?_
                  refine fz_ialdV (n := 12) (v := h 57 (rd.toNat)) kX11_walk rfl rfl (by omega) (by omega) (hf322 57 _ rfl) ?_
                  refine fz_iadd kX11_walk rfl ?_
                  refine fz_nmw (fun z330 e331 => ?_)
                  refine fz_iast (n := 4) kX11_walk rfl rfl (by omega) (by omega) ?_
                  refine fz_nmu (S := [(53, 34), (74, 99999), (75, 99999), (76, 99999), (77, 99999), (86, 99999), (87, 99999), (88, 99999)]) (h0 := h) (fz_Iv_up hI321 (by decide) (show ((-2147483648) : Int) ≤ z330 by omega) (show (z330 : Int) ≤ 2147483647 by omega)) (fz_fr_up hf322 rfl) (fun H332 hI333 hf334 e335 => ?_)
                  have k336 : H332 53 34 = ((h 53 34) + (h 57 (rd.toNat))) := by rw [e335]; exact (fz_up_o (by decide)).trans k324
                  have t337 : H332 53 34 = H320 53 34 := by rw [e335]; exact fz_up_o (by decide)
                  have hXw338 : fz_Xw H332 := fz_Xw_eq (by rw [e335]; exact fz_up_o (by decide)) (by rw [e335]; exact fz_up_ne (by decide)) (by rw [e335]; exact fz_up_ne (by decide)) (by rw [e335]; exact fz_up_ne (by decide)) (by rw [e335]; exact fz_up_ne (by decide)) hXw326
                  refine fz_aload_n kX11_walk rfl rfl ?_
                  refine fz_callV (d' := 3) (M' := mX11_allHear) (As := []) (st := []) kX11_walk rfl rfl vX11_allHear rfl rfl rfl rfl (Nat.le_of_ble_eq_true rfl) (Nat.le_of_ble_eq_true rfl) (by decide) (sX11_allHear H332 hI333  ) (fun H339 r340 q341 o342 => ?_)
                  obtain ⟨hI343, hf344, rfl⟩ := q341
                  clear o342
                  have hf345 := fz_fr_tr hf334 hf344 (show fz_su [(86, 99999), (87, 99999), (88, 99999)] [(53, 34), (74, 99999), (75, 99999), (76, 99999), (77, 99999), (86, 99999), (87, 99999), (88, 99999)] = true from rfl)
                  have k346 : H339 53 34 = ((h 53 34) + (h 57 (rd.toNat))) := (hf344 53 34 rfl).trans k336
                  have hXw347 : fz_Xw H339 := fz_Xw_eq (hf344 53 19 rfl) (funext fun s => hf344 66 s rfl) (funext fun s => hf344 67 s rfl) (funext fun s => hf344 68 s rfl) (funext fun s => hf344 69 s rfl) hXw338
                  have t348 : H339 53 34 = H332 53 34 := hf344 53 34 rfl
                  refine fz_aload_n kX11_walk rfl rfl ?_
                  refine fz_iload_n kX11_walk rfl rfl ?_
                  refine fz_aload_n kX11_walk rfl rfl ?_
                  refine fz_getR (t := 76) kX11_walk rfl rfl ?_
                  refine fz_iload_n kX11_walk rfl rfl ?_
                  obtain ⟨v349, e350⟩ : ∃ z, H339 76 (on.toNat) = z := ⟨_, rfl⟩
                  refine fz_ialdV (n := 4) (v := v349) kX11_walk rfl rfl (by omega) (by omega) e350 ?_
                  have b351 : 0 ≤ v349 ∧ v349 ≤ 7 := by rw [← e350]; exact hI343.1 76 _
                  refine fz_aload_n kX11_walk rfl rfl ?_
                  refine fz_getV (v := ((h 53 34) + (h 57 (rd.toNat)))) kX11_walk rfl rfl k346 ?_
                  refine fz_callV (d' := 4) (M' := mX11_isArrested) (As := [fz_i on, fz_i v349, fz_i ((h 53 34) + (h 57 (rd.toNat)))]) (st := []) kX11_walk rfl rfl vX11_isArrested rfl rfl rfl rfl (Nat.le_of_ble_eq_true rfl) (Nat.le_of_ble_eq_true rfl) (by decide) (sX11_isArrested H339 hI343 on v349 ((h 53 34) + (h 57 (rd.toNat))) hXw347 (by omega)) (fun H352 r353 q354 o355 => ?_)
                  obtain ⟨hI356, hf357, hXw358, y359, rfl, p360⟩ := q354
                  clear o355
                  have hf361 := fz_fr_tr hf345 hf357 (show fz_su [(74, 99999), (75, 99999)] [(53, 34), (74, 99999), (75, 99999), (76, 99999), (77, 99999), (86, 99999), (87, 99999), (88, 99999)] = true from rfl)
                  have k362 : H352 53 34 = ((h 53 34) + (h 57 (rd.toNat))) := (hf357 53 34 rfl).trans k346
                  have t363 : H352 53 34 = H339 53 34 := hf357 53 34 rfl
                  refine fz_if_eq (tgt := 170) kX11_walk rfl (by decide) (fun c364 => ?_) (fun c364 => ?_)
                  · refine fz_aload_n kX11_walk rfl rfl ?_
                    refine fz_getR (t := 76) kX11_walk rfl rfl ?_
                    refine fz_iload_n kX11_walk rfl rfl ?_
                    obtain ⟨v365, e366⟩ : ∃ z, H352 76 (on.toNat) = z := ⟨_, rfl⟩
                    refine fz_ialdV (n := 4) (v := v365) kX11_walk rfl rfl (by omega) (by omega) e366 ?_
                    have b367 : 0 ≤ v365 ∧ v365 ≤ 7 := by rw [← e366]; exact hI356.1 76 _
                    have k368 : H352 76 = fz_up h 76 on.toNat (fz_ac (h 55 rd.toNat) (h 56 rd.toNat) (h 76 on.toNat)) 76 := by first | (rw [lost, fz_up_ne (by decide), show H352 76 = H339 76 from funext fun s => hf357 76 s rfl, show H339 76 = H332 76 from funext fun s => hf344 76 s rfl, e335, fz_up_ne (by decide), e323, fz_up_ne (by decide), e311]; exact fz_up_pair (by rw [e215]; exact fz_up_ne (by decide)) rfl k305) | (rw [show H352 76 = H339 76 from funext fun s => hf357 76 s rfl, show H339 76 = H332 76 from funext fun s => hf344 76 s rfl, e335, fz_up_ne (by decide), e323, fz_up_ne (by decide), e311]; exact fz_up_pair (by rw [e215]; exact fz_up_ne (by decide)) rfl k305)
                    have k370 : v365 = fz_ac (h 55 rd.toNat) (h 56 rd.toNat) (h 76 on.toNat) := e366.symm.trans ((congrFun k368 _).trans fz_up_e)
                    exact fz_iret kX11_walk rfl rfl (fun _ => ⟨hI356, hf361, hXw358, _, rfl, (by omega), (by first | exact Or.inl ⟨(by unfold fz_wkN; omega), rfl, rfl, rfl⟩ | exact Or.inr (Or.inl ⟨(by unfold fz_wkN; omega), (by rw [← fz_ac_3 (by omega) (by omega)]; decide), rfl, rfl, rfl⟩) | exact Or.inr (Or.inr (Or.inl ⟨(by unfold fz_wkN; omega), fz_ac_nn (hI.1 55 _).1 (hI.1 56 _).1 (by omega), by omega, rfl, rfl, rfl⟩)) | exact Or.inr (Or.inr (Or.inr ⟨(by unfold fz_wkN; omega), by omega, by omega, by omega, by omega, k368⟩)))⟩)
                  · refine fz_aload_n kX11_walk rfl rfl ?_
                    refine fz_getR (t := 77) kX11_walk rfl rfl ?_
                    refine fz_iconst ⟨by decide, by decide⟩ kX11_walk rfl ?_
                    refine fz_dup2 rfl rfl kX11_walk rfl ?_
                    obtain ⟨v372, e373⟩ : ∃ z, H352 77 (2) = z := ⟨_, rfl⟩
                    refine fz_ialdV (n := 4) (v := v372) kX11_walk rfl rfl (by omega) (by omega) e373 ?_
                    have b374 : (-2147483648) ≤ v372 ∧ v372 ≤ 2147483647 := by rw [← e373]; exact hI356.1 77 _
                    refine fz_iconst ⟨by decide, by decide⟩ kX11_walk rfl ?_
                    refine fz_iadd kX11_walk rfl ?_
                    refine fz_nmw (fun z375 e376 => ?_)
                    refine fz_iast (n := 4) kX11_walk rfl rfl (by omega) (by omega) ?_
                    refine fz_nmu (S := [(53, 34), (74, 99999), (75, 99999), (76, 99999), (77, 99999), (86, 99999), (87, 99999), (88, 99999)]) (h0 := h) (fz_Iv_up hI356 (by decide) (show ((-2147483648) : Int) ≤ z375 by omega) (show (z375 : Int) ≤ 2147483647 by omega)) (fz_fr_up hf361 rfl) (fun H377 hI378 hf379 e380 => ?_)
                    have k381 : H377 53 34 = ((h 53 34) + (h 57 (rd.toNat))) := by rw [e380]; exact (fz_up_o (by decide)).trans k362
                    have t382 : H377 53 34 = H352 53 34 := by rw [e380]; exact fz_up_o (by decide)
                    have hXw383 : fz_Xw H377 := fz_Xw_eq (by rw [e380]; exact fz_up_o (by decide)) (by rw [e380]; exact fz_up_ne (by decide)) (by rw [e380]; exact fz_up_ne (by decide)) (by rw [e380]; exact fz_up_ne (by decide)) (by rw [e380]; exact fz_up_ne (by decide)) hXw358
                    refine fz_aload_n kX11_walk rfl rfl ?_
                    refine fz_getR (t := 76) kX11_walk rfl rfl ?_
                    refine fz_iload_n kX11_walk rfl rfl ?_
                    obtain ⟨v384, e385⟩ : ∃ z, H377 76 (on.toNat) = z := ⟨_, rfl⟩
                    refine fz_ialdV (n := 4) (v := v384) kX11_walk rfl rfl (by omega) (by omega) e385 ?_
                    have b386 : 0 ≤ v384 ∧ v384 ≤ 7 := by rw [← e385]; exact hI378.1 76 _
                    have k387 : H377 76 = fz_up h 76 on.toNat (fz_ac (h 55 rd.toNat) (h 56 rd.toNat) (h 76 on.toNat)) 76 := by first | (rw [e380, fz_up_ne (by decide), show H352 76 = H339 76 from funext fun s => hf357 76 s rfl, show H339 76 = H332 76 from funext fun s => hf344 76 s rfl, e335, fz_up_ne (by decide), e323, fz_up_ne (by decide), e311]; exact fz_up_pair (by rw [e215]; exact fz_up_ne (by decide)) rfl k305) | (rw [show H352 76 = H339 76 from funext fun s => hf357 76 s rfl, show H339 76 = H332 76 from funext fun s => hf344 76 s rfl, e335, fz_up_ne (by decide), e323, fz_up_ne (by decide), e311]; exact fz_up_pair (by rw [e215]; exact fz_up_ne (by decide)) rfl k305)
                    have k389 : v384 = fz_ac (h 55 rd.toNat) (h 56 rd.toNat) (h 76 on.toNat) := e385.symm.trans ((congrFun k387 _).trans fz_up_e)
                    exact fz_iret kX11_walk rfl rfl (fun _ => ⟨hI378, hf379, hXw383, _, rfl, (by omega), (by first | exact Or.inl ⟨(by unfold fz_wkN; omega), rfl, rfl, rfl⟩ | exact Or.inr (Or.inl ⟨(by unfold fz_wkN; omega), (by rw [← fz_ac_3 (by omega) (by omega)]; decide), rfl, rfl, rfl⟩) | exact Or.inr (Or.inr (Or.inl ⟨(by unfold fz_wkN; omega), fz_ac_nn (hI.1 55 _).1 (hI.1 56 _).1 (by omega), by omega, rfl, rfl, rfl⟩)) | exact Or.inr (Or.inr (Or.inr ⟨(by unfold fz_wkN; omega), by omega, by omega, by omega, by omega, k387⟩)))⟩)
              · refine fz_bipush ⟨by decide, by decide⟩ kX11_walk rfl ?_
                exact fz_iret kX11_walk rfl rfl (fun _ => ⟨hI, hf, hXw, _, rfl, (by omega), (by first | exact Or.inl ⟨(by unfold fz_wkN; omega), rfl, rfl, rfl⟩ | exact Or.inr (Or.inl ⟨(by unfold fz_wkN; omega), (by rw [← fz_ac_3 (by omega) (by omega)]; decide), rfl, rfl, rfl⟩) | exact Or.inr (Or.inr (Or.inl ⟨(by unfold fz_wkN; omega), fz_ac_nn (hI.1 55 _).1 (hI.1 56 _).1 (by omega), by omega, rfl, rfl, rfl⟩)) | exact Or.inr (Or.inr (Or.inr ⟨(by unfold fz_wkN; omega), by omega, by omega, by omega, by omega, lost⟩)))⟩)
            · refine fz_bipush ⟨by decide, by decide⟩ kX11_walk rfl ?_
              exact fz_iret kX11_walk rfl rfl (fun _ => ⟨hI, hf, hXw, _, rfl, (by omega), (by first | exact Or.inl ⟨(by unfold fz_wkN; omega), rfl, rfl, rfl⟩ | exact Or.inr (Or.inl ⟨(by unfold fz_wkN; omega), (by rw [← fz_ac_3 (by omega) (by omega)]; decide), rfl, rfl, rfl⟩) | exact Or.inr (Or.inr (Or.inl ⟨(by unfold fz_wkN; omega), fz_ac_nn (hI.1 55 _).1 (hI.1 56 _).1 (by omega), by omega, rfl, rfl, rfl⟩)) | exact Or.inr (Or.inr (Or.inr ⟨(by unfold fz_wkN; omega), by omega, by omega, by omega, by omega, lost⟩)))⟩)
        · exfalso; omega
      · refine fz_if_ne (tgt := 17) kX11_walk rfl (by decide) (fun c393 => ?_) (fun c393 => ?_)
        · exfalso; omega
        · refine fz_iconst ⟨by decide, by decide⟩ kX11_walk rfl ?_
          exact fz_iret kX11_walk rfl rfl (fun _ => ⟨hI, hf, hXw, _, rfl, (by omega), (by first | exact Or.inl ⟨(by unfold fz_wkN; omega), rfl, rfl, rfl⟩ | exact Or.inr (Or.inl ⟨(by unfold fz_wkN; omega), (by rw [← fz_ac_3 (by omega) (by omega)]; decide), rfl, rfl, rfl⟩) | exact Or.inr (Or.inr (Or.inl ⟨(by unfold fz_wkN; omega), fz_ac_nn (hI.1 55 _).1 (hI.1 56 _).1 (by omega), by omega, rfl, rfl, rfl⟩)) | exact Or.inr (Or.inr (Or.inr ⟨(by unfold fz_wkN; omega), by omega, by omega, by omega, by omega, lost⟩)))⟩)
  · refine fz_if_eq (tgt := 15) kX11_walk rfl (by decide) (fun c395 => ?_) (fun c395 => ?_)
    · refine fz_iconst ⟨by decide, by decide⟩ kX11_walk rfl ?_
      exact fz_iret kX11_walk rfl rfl (fun _ => ⟨hI, hf, hXw, _, rfl, (by omega), (by first | exact Or.inl ⟨(by unfold fz_wkN; omega), rfl, rfl, rfl⟩ | exact Or.inr (Or.inl ⟨(by unfold fz_wkN; omega), (by rw [← fz_ac_3 (by omega) (by omega)]; decide), rfl, rfl, rfl⟩) | exact Or.inr (Or.inr (Or.inl ⟨(by unfold fz_wkN; omega), fz_ac_nn (hI.1 55 _).1 (hI.1 56 _).1 (by omega), by omega, rfl, rfl, rfl⟩)) | exact Or.inr (Or.inr (Or.inr ⟨(by unfold fz_wkN; omega), by omega, by omega, by omega, by omega, lost⟩)))⟩)
    · exfalso; omega

abbrev qX11_does (h : fz_H) (pm wt : Int) : fz_H → Option fz_V → Prop := fun h' r0 => fz_Iv h' ∧ fz_fr [(53, 10), (60, 99999), (61, 99999), (62, 99999), (63, 99999), (64, 99999), (77, 99999)] h h' ∧ ∃ r : Int, r0 = some (fz_i r) ∧ ((-3) ≤ r ∧ r ≤ 10) ∧ (h' 53 10 ≤ 10) ∧ (((0 ≤ pm ∧ pm ≤ 39 ∧ pm % 10 < 5 ∧ 1 ≤ wt ∧ wt ≤ 9 ∧ h 53 0 ≠ 0) ∧ h 53 10 < 10 ∧ r = h 53 10 ∧ h' 53 10 = h 53 10 + 1) ∨ ((0 ≤ pm ∧ pm ≤ 39 ∧ pm % 10 < 5 ∧ 1 ≤ wt ∧ wt ≤ 9 ∧ h 53 0 ≠ 0) ∧ 10 ≤ h 53 10 ∧ r = -3 ∧ h' 53 10 = h 53 10) ∨ (¬ (0 ≤ pm ∧ pm ≤ 39 ∧ pm % 10 < 5 ∧ 1 ≤ wt ∧ wt ≤ 9 ∧ h 53 0 ≠ 0) ∧ r = -1 ∧ h' 53 10 = h 53 10)) ∧ (fz_apM h h' (h' 53 10 - h 53 10) (fun _ => (pm / 10, h 76 (pm / 10).toNat, h 53 34, pm % 10, wt)))
set_option maxHeartbeats 1000000 in
set_option maxRecDepth 100000 in
theorem sX11_does (h : fz_H) (hI : fz_Iv h) (pm wt : Int) (hp0 : h 53 10 ≤ 10) : fz_R 3 mX11_does 0 [(0, fz_r 53), (1, fz_i pm), (2, fz_i wt)] [] h (qX11_does h pm wt) := by
  refine fz_knowl (fun hk => ?_)
  have hr_pm : -2147483648 ≤ pm ∧ pm < 2147483648 := hk _ (List.Mem.tail _ (List.Mem.head _))
  have hr_wt : -2147483648 ≤ wt ∧ wt < 2147483648 := hk _ (List.Mem.tail _ (List.Mem.tail _ (List.Mem.head _)))
  clear hk
  have hf : fz_fr [(53, 10), (60, 99999), (61, 99999), (62, 99999), (63, 99999), (64, 99999), (77, 99999)] h h := fz_fr_rf
  have b1 : 0 ≤ h 53 10 ∧ h 53 10 ≤ 11 := hI.1 53 _
  have b2 : 0 ≤ h 53 0 ∧ h 53 0 ≤ 8 := hI.1 53 _
  have b3 : 0 ≤ h 53 34 ∧ h 53 34 ≤ 999 := hI.1 53 _
  refine fz_iload_n kX11_does rfl rfl ?_
  refine fz_callS (d' := 2) (M' := mX11_isMarked) (As := [fz_i pm]) (st := []) kX11_does rfl rfl vX11_isMarked rfl rfl (Nat.le_of_ble_eq_true rfl) (Nat.le_of_ble_eq_true rfl) (by decide) (sX11_isMarked h hI pm ) (fun H4 r5 q6 o7 => ?_)
  obtain ⟨e8, y9, rfl, p10⟩ := q6
  subst H4
  clear o7
  rcases p10 with ⟨rfl, c11⟩ | ⟨rfl, c11⟩
  · refine fz_if_eq (tgt := 24) kX11_does rfl (by decide) (fun c12 => ?_) (fun c12 => ?_)
    · exfalso; omega
    · refine fz_iload_n kX11_does rfl rfl ?_
      refine fz_iconst ⟨by decide, by decide⟩ kX11_does rfl ?_
      refine fz_bipush ⟨by decide, by decide⟩ kX11_does rfl ?_
      refine fz_callS (d' := 0) (M' := mX11_within) (As := [fz_i wt, fz_i 1, fz_i 9]) (st := []) kX11_does rfl rfl vX11_within rfl rfl (Nat.le_of_ble_eq_true rfl) (Nat.le_of_ble_eq_true rfl) (by decide) (sX11_within h hI wt 1 9 ) (fun H13 r14 q15 o16 => ?_)
      obtain ⟨e17, y18, rfl, p19⟩ := q15
      subst H13
      clear o16
      rcases p19 with ⟨rfl, c20⟩ | ⟨rfl, c20⟩
      · refine fz_if_eq (tgt := 24) kX11_does rfl (by decide) (fun c21 => ?_) (fun c21 => ?_)
        · exfalso; omega
        · refine fz_aload_n kX11_does rfl rfl ?_
          refine fz_getV (v := h 53 0) kX11_does rfl rfl rfl ?_
          have b22 : 0 ≤ h 53 0 ∧ h 53 0 ≤ 8 := hI.1 53 _
          refine fz_if_ne (tgt := 26) kX11_does rfl (by decide) (fun c23 => ?_) (fun c23 => ?_)
          · refine fz_aload_n kX11_does rfl rfl ?_
            refine fz_getV (v := h 53 10) kX11_does rfl rfl rfl ?_
            have b24 : 0 ≤ h 53 10 ∧ h 53 10 ≤ 11 := hI.1 53 _
            refine fz_bipush ⟨by decide, by decide⟩ kX11_does rfl ?_
            refine fz_icmp_ne (tgt := 38) kX11_does rfl (by decide) (fun c25 => ?_) (fun c25 => ?_)
            · refine fz_aload_n kX11_does rfl rfl ?_
              refine fz_getR (t := 77) kX11_does rfl rfl ?_
              refine fz_iconst ⟨by decide, by decide⟩ kX11_does rfl ?_
              refine fz_dup2 rfl rfl kX11_does rfl ?_
              refine fz_ialdV (n := 4) (v := h 77 3) kX11_does rfl rfl (by omega) (by omega) rfl ?_
              have b26 : (-2147483648) ≤ h 77 3 ∧ h 77 3 ≤ 2147483647 := hI.1 77 _
              refine fz_iconst ⟨by decide, by decide⟩ kX11_does rfl ?_
              refine fz_iadd kX11_does rfl ?_
              refine fz_nmw (fun z27 e28 => ?_)
              refine fz_iast (n := 4) kX11_does rfl rfl (by omega) (by omega) ?_
              refine fz_nmu (S := [(53, 10), (60, 99999), (61, 99999), (62, 99999), (63, 99999), (64, 99999), (77, 99999)]) (h0 := h) (fz_Iv_up hI (by decide) (show ((-2147483648) : Int) ≤ z27 by omega) (show (z27 : Int) ≤ 2147483647 by omega)) (fz_fr_up hf rfl) (fun H29 hI30 hf31 e32 => ?_)
              have k33 : H29 53 10 = (h 53 10) := by rw [e32]; exact (fz_up_o (by decide)).trans rfl
              have t34 : H29 53 10 = h 53 10 := by rw [e32]; exact fz_up_o (by decide)
              refine fz_aload_n kX11_does rfl rfl ?_
              refine fz_iload_n kX11_does rfl rfl ?_
              refine fz_bipush ⟨by decide, by decide⟩ kX11_does rfl ?_
              refine fz_idivN kX11_does rfl (by omega) (by omega) (by omega) ?_
              refine fz_aload_n kX11_does rfl rfl ?_
              refine fz_getR (t := 76) kX11_does rfl rfl ?_
              refine fz_iload_n kX11_does rfl rfl ?_
              refine fz_bipush ⟨by decide, by decide⟩ kX11_does rfl ?_
              refine fz_idivN kX11_does rfl (by omega) (by omega) (by omega) ?_
              refine fz_ialdV (n := 4) (v := h 76 ((pm / 10).toNat)) kX11_does rfl rfl (by omega) (by omega) (hf31 76 _ rfl) ?_
              have b35 : 0 ≤ h 76 ((pm / 10).toNat) ∧ h 76 ((pm / 10).toNat) ≤ 7 := hI.1 76 _
              refine fz_aload_n kX11_does rfl rfl ?_
              refine fz_getV (v := h 53 34) kX11_does rfl rfl (hf31 53 34 rfl) ?_
              have b36 : 0 ≤ h 53 34 ∧ h 53 34 ≤ 999 := hI.1 53 _
              refine fz_iload_n kX11_does rfl rfl ?_
              refine fz_bipush ⟨by decide, by decide⟩ kX11_does rfl ?_
              refine fz_iremN kX11_does rfl (by omega) (by omega) (by omega) ?_
              refine fz_iload_n kX11_does rfl rfl ?_
              have b37 : 0 ≤ H29 53 10 ∧ H29 53 10 ≤ 11 := hI30.1 53 _
              refine fz_callV (d' := 0) (M' := mX11_newDeed) (As := [fz_i (pm / 10), fz_i (h 76 ((pm / 10).toNat)), fz_i (h 53 34), fz_i (pm % 10), fz_i wt]) (st := []) kX11_does rfl rfl vX11_newDeed rfl rfl rfl rfl (Nat.le_of_ble_eq_true rfl) (Nat.le_of_ble_eq_true rfl) (by decide) (sX11_newDeed H29 hI30 (pm / 10) (h 76 ((pm / 10).toNat)) (h 53 34) (pm % 10) wt (by omega) (by omega) (by omega) (by omega) (by omega)) (fun H38 r39 q40 o41 => ?_)
              obtain ⟨hI42, hf43, y48, rfl, f44, f45, f46, f47⟩ := q40
              clear o41
              have hf49 := fz_fr_tr hf31 hf43 (show fz_su [(53, 10), (60, 99999), (61, 99999), (62, 99999), (63, 99999), (64, 99999)] [(53, 10), (60, 99999), (61, 99999), (62, 99999), (63, 99999), (64, 99999), (77, 99999)] = true from rfl)
              exact fz_iret kX11_does rfl rfl (fun _ => ⟨hI42, hf49, _, rfl, (by omega), (by omega), (by omega), (by first | exact fz_apM_b e32 (fz_apM_1 f47 (by omega) (by omega)) (by decide) | exact fz_apM_z (by omega))⟩)
            · refine fz_bipush ⟨by decide, by decide⟩ kX11_does rfl ?_
              exact fz_iret kX11_does rfl rfl (fun _ => ⟨hI, hf, _, rfl, (by omega), (by omega), (by omega), (by first | exact fz_apM_b lost (fz_apM_1 lost (by omega) (by omega)) (by decide) | exact fz_apM_z (by omega))⟩)
          · refine fz_iconst ⟨by decide, by decide⟩ kX11_does rfl ?_
            exact fz_iret kX11_does rfl rfl (fun _ => ⟨hI, hf, _, rfl, (by omega), (by omega), (by omega), (by first | exact fz_apM_b lost (fz_apM_1 lost (by omega) (by omega)) (by decide) | exact fz_apM_z (by omega))⟩)
      · refine fz_if_eq (tgt := 24) kX11_does rfl (by decide) (fun c53 => ?_) (fun c53 => ?_)
        · refine fz_iconst ⟨by decide, by decide⟩ kX11_does rfl ?_
          exact fz_iret kX11_does rfl rfl (fun _ => ⟨hI, hf, _, rfl, (by omega), (by omega), (by omega), (by first | exact fz_apM_b lost (fz_apM_1 lost (by omega) (by omega)) (by decide) | exact fz_apM_z (by omega))⟩)
        · exfalso; omega
  · refine fz_if_eq (tgt := 24) kX11_does rfl (by decide) (fun c55 => ?_) (fun c55 => ?_)
    · refine fz_iconst ⟨by decide, by decide⟩ kX11_does rfl ?_
      exact fz_iret kX11_does rfl rfl (fun _ => ⟨hI, hf, _, rfl, (by omega), (by omega), (by omega), (by first | exact fz_apM_b lost (fz_apM_1 lost (by omega) (by omega)) (by decide) | exact fz_apM_z (by omega))⟩)
    · exfalso; omega
