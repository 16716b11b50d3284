/-! ===== what the methods keep ===== -/
abbrev qX11_isEnough (h : fz_H) (pm t hr wt to x : Int) : fz_H → Option fz_V → Prop := fun h' r0 => fz_Iv h' ∧ fz_fr [(53, 10), (60, 99999), (61, 99999), (62, 99999), (63, 99999), (64, 99999), (74, 99999), (75, 99999), (86, 99999), (87, 99999), (88, 99999)] h h' ∧ fz_Xw h' ∧ ∃ r : Int, r0 = some (fz_i r) ∧ (r = 0 ∨ r = 1) ∧ (h' 53 10 ≤ 10)
set_option maxHeartbeats 1000000 in
set_option maxRecDepth 100000 in
theorem sX11_isEnough (h : fz_H) (hI : fz_Iv h) (pm t hr wt to x : Int) (hXw : fz_Xw h) (hp0 : 0 ≤ pm ∧ pm ≤ 39) (hp1 : pm % 10 ≤ 4) (hp2 : 0 ≤ t ∧ t ≤ 7) (hp3 : 0 ≤ hr ∧ hr ≤ 999) (hp4 : 1 ≤ wt ∧ wt ≤ 9) (hp5 : 0 ≤ to ∧ to / 1000 ≤ 7) (hp6 : h 53 10 ≤ 10) : fz_R 4 mX11_isEnough 0 [(0, fz_r 53), (1, fz_i pm), (2, fz_i t), (3, fz_i hr), (4, fz_i wt), (5, fz_i to), (6, fz_i x)] [] h (qX11_isEnough h pm t hr wt to x) := by
  refine fz_knowl (fun hk => ?_)
  have hr_pm : -2147483648 ≤ pm ∧ pm < 2147483648 := hk _ (List.Mem.tail _ (List.Mem.head _))
  have hr_t : -2147483648 ≤ t ∧ t < 2147483648 := hk _ (List.Mem.tail _ (List.Mem.tail _ (List.Mem.head _)))
  have hr_hr : -2147483648 ≤ hr ∧ hr < 2147483648 := hk _ (List.Mem.tail _ (List.Mem.tail _ (List.Mem.tail _ (List.Mem.head _))))
  have hr_wt : -2147483648 ≤ wt ∧ wt < 2147483648 := hk _ (List.Mem.tail _ (List.Mem.tail _ (List.Mem.tail _ (List.Mem.tail _ (List.Mem.head _)))))
  have hr_to : -2147483648 ≤ to ∧ to < 2147483648 := hk _ (List.Mem.tail _ (List.Mem.tail _ (List.Mem.tail _ (List.Mem.tail _ (List.Mem.tail _ (List.Mem.head _))))))
  have hr_x : -2147483648 ≤ x ∧ x < 2147483648 := hk _ (List.Mem.tail _ (List.Mem.tail _ (List.Mem.tail _ (List.Mem.tail _ (List.Mem.tail _ (List.Mem.tail _ (List.Mem.head _)))))))
  clear hk
  have hf : fz_fr [(53, 10), (60, 99999), (61, 99999), (62, 99999), (63, 99999), (64, 99999), (74, 99999), (75, 99999), (86, 99999), (87, 99999), (88, 99999)] h h := fz_fr_rf
  have b1 : 0 ≤ h 53 10 ∧ h 53 10 ≤ 11 := hI.1 53 _
  refine fz_aload_n kX11_isEnough rfl rfl ?_
  refine fz_iload_n kX11_isEnough rfl rfl ?_
  refine fz_bipush ⟨by decide, by decide⟩ kX11_isEnough rfl ?_
  refine fz_idivN kX11_isEnough rfl (by omega) (by omega) (by omega) ?_
  refine fz_iload_n kX11_isEnough rfl rfl ?_
  refine fz_iload_n kX11_isEnough rfl rfl ?_
  refine fz_iload_n kX11_isEnough rfl rfl ?_
  refine fz_bipush ⟨by decide, by decide⟩ kX11_isEnough rfl ?_
  refine fz_iremN kX11_isEnough rfl (by omega) (by omega) (by omega) ?_
  refine fz_iload kX11_isEnough rfl rfl ?_
  refine fz_callV (d' := 0) (M' := mX11_newDeed) (As := [fz_i (pm / 10), fz_i t, fz_i hr, fz_i (pm % 10), fz_i wt]) (st := []) kX11_isEnough rfl rfl vX11_newDeed rfl rfl rfl rfl (Nat.le_of_ble_eq_true rfl) (Nat.le_of_ble_eq_true rfl) (by decide) (sX11_newDeed h hI (pm / 10) t hr (pm % 10) wt (by omega) (by omega) (by omega) (by omega) (by omega)) (fun H2 r3 q4 o5 => ?_)
  obtain ⟨hI6, hf7, y10, rfl, f8, f9⟩ := q4
  clear o5
  have hf11 := fz_fr_tr hf hf7 (show fz_su [(53, 10), (60, 99999), (61, 99999), (62, 99999), (63, 99999), (64, 99999)] [(53, 10), (60, 99999), (61, 99999), (62, 99999), (63, 99999), (64, 99999), (74, 99999), (75, 99999), (86, 99999), (87, 99999), (88, 99999)] = true from rfl)
  have hXw12 : fz_Xw H2 := fz_Xw_eq (hf7 53 19 rfl) (funext fun s => hf7 66 s rfl) (funext fun s => hf7 67 s rfl) (funext fun s => hf7 68 s rfl) (funext fun s => hf7 69 s rfl) hXw
  refine fz_pop rfl kX11_isEnough rfl ?_
  refine fz_aload_n kX11_isEnough rfl rfl ?_
  refine fz_aload_n kX11_isEnough rfl rfl ?_
  obtain ⟨v13, e14⟩ : ∃ z, H2 53 (10) = z := ⟨_, rfl⟩
  refine fz_getV (v := v13) kX11_isEnough rfl rfl e14 ?_
  have b15 : 0 ≤ v13 ∧ v13 ≤ 11 := by rw [← e14]; exact hI6.1 53 _
  refine fz_iconst ⟨by decide, by decide⟩ kX11_isEnough rfl ?_
  refine fz_isubN kX11_isEnough rfl (by omega) ?_
  refine fz_callV (d' := 2) (M' := mX11_hears) (As := [fz_i (v13 - 1)]) (st := []) kX11_isEnough rfl rfl vX11_hears rfl rfl rfl rfl (Nat.le_of_ble_eq_true rfl) (Nat.le_of_ble_eq_true rfl) (by decide) (sX11_hears H2 hI6 (v13 - 1) (by omega)) (fun H16 r17 q18 o19 => ?_)
  obtain ⟨hI20, hf21, rfl⟩ := q18
  clear o19
  have hf22 := fz_fr_tr hf11 hf21 (show fz_su [(86, 99999), (87, 99999), (88, 99999)] [(53, 10), (60, 99999), (61, 99999), (62, 99999), (63, 99999), (64, 99999), (74, 99999), (75, 99999), (86, 99999), (87, 99999), (88, 99999)] = true from rfl)
  have k23 : H16 53 10 = v13 := (hf21 53 10 rfl).trans e14
  have hXw24 : fz_Xw H16 := fz_Xw_eq (hf21 53 19 rfl) (funext fun s => hf21 66 s rfl) (funext fun s => hf21 67 s rfl) (funext fun s => hf21 68 s rfl) (funext fun s => hf21 69 s rfl) hXw12
  refine fz_aload_n kX11_isEnough rfl rfl ?_
  refine fz_iload_n kX11_isEnough rfl rfl ?_
  refine fz_bipush ⟨by decide, by decide⟩ kX11_isEnough rfl ?_
  refine fz_idivN kX11_isEnough rfl (by omega) (by omega) (by omega) ?_
  refine fz_iload_n kX11_isEnough rfl rfl ?_
  refine fz_bipush ⟨by decide, by decide⟩ kX11_isEnough rfl ?_
  refine fz_iremN kX11_isEnough rfl (by omega) (by omega) (by omega) ?_
  refine fz_iload kX11_isEnough rfl rfl ?_
  refine fz_sipush ⟨by decide, by decide⟩ kX11_isEnough rfl ?_
  refine fz_idivN kX11_isEnough rfl (by omega) (by omega) (by omega) ?_
  refine fz_iload kX11_isEnough rfl rfl ?_
  refine fz_sipush ⟨by decide, by decide⟩ kX11_isEnough rfl ?_
  refine fz_iremN kX11_isEnough rfl (by omega) (by omega) (by omega) ?_
  refine fz_callV (d' := 3) (M' := mX11_saidOf) (As := [fz_i (pm / 10), fz_i (pm % 10), fz_i (to / 1000), fz_i (to % 1000)]) (st := []) kX11_isEnough rfl rfl vX11_saidOf rfl rfl rfl rfl (Nat.le_of_ble_eq_true rfl) (Nat.le_of_ble_eq_true rfl) (by decide) (sX11_saidOf H16 hI20 (pm / 10) (pm % 10) (to / 1000) (to % 1000) hXw24 (by omega)) (fun H25 r26 q27 o28 => ?_)
  obtain ⟨hI29, hf30, hXw31, y33, rfl, f32⟩ := q27
  clear o28
  have hf34 := fz_fr_tr hf22 hf30 (show fz_su [(74, 99999), (75, 99999)] [(53, 10), (60, 99999), (61, 99999), (62, 99999), (63, 99999), (64, 99999), (74, 99999), (75, 99999), (86, 99999), (87, 99999), (88, 99999)] = true from rfl)
  have k35 : H25 53 10 = v13 := (hf30 53 10 rfl).trans k23
  refine fz_iload kX11_isEnough rfl rfl ?_
  refine fz_icmp_lt (tgt := 60) kX11_isEnough rfl (by decide) (fun c36 => ?_) (fun c36 => ?_)
  · refine fz_iconst ⟨by decide, by decide⟩ kX11_isEnough rfl ?_
    refine fz_istore (ls' := [(7, fz_i 0), (0, fz_r 53), (1, fz_i pm), (2, fz_i t), (3, fz_i hr), (4, fz_i wt), (5, fz_i to), (6, fz_i x)]) kX11_isEnough rfl (by decide) rfl ?_
    refine fz_aload_n kX11_isEnough rfl rfl ?_
    refine fz_dup rfl kX11_isEnough rfl ?_
    refine fz_getV (v := v13) kX11_isEnough rfl rfl k35 ?_
    refine fz_iconst ⟨by decide, by decide⟩ kX11_isEnough rfl ?_
    refine fz_isubN kX11_isEnough rfl (by omega) ?_
    refine fz_putI kX11_isEnough rfl rfl rfl ?_
    refine fz_nmu (S := [(53, 10), (60, 99999), (61, 99999), (62, 99999), (63, 99999), (64, 99999), (74, 99999), (75, 99999), (86, 99999), (87, 99999), (88, 99999)]) (h0 := h) (fz_Iv_up hI29 (by decide) (show 0 ≤ (v13 - 1) by omega) (show (v13 - 1) ≤ 11 by omega)) (fz_fr_up hf34 rfl) (fun H37 hI38 hf39 e40 => ?_)
    have k41 : H37 53 10 = (v13 - 1) := by rw [e40]; exact fz_up_e
    have hXw42 : fz_Xw H37 := fz_Xw_eq (by rw [e40]; exact fz_up_s (by decide)) (by rw [e40]; exact fz_up_ne (by decide)) (by rw [e40]; exact fz_up_ne (by decide)) (by rw [e40]; exact fz_up_ne (by decide)) (by rw [e40]; exact fz_up_ne (by decide)) hXw31
    clear e40
    refine fz_iload kX11_isEnough rfl rfl ?_
    exact fz_zret kX11_isEnough rfl rfl (by omega) ⟨hI38, hf39, hXw42, _, rfl, (by omega), (by omega)⟩
  · refine fz_iconst ⟨by decide, by decide⟩ kX11_isEnough rfl ?_
    refine fz_goto (tgt := 61) kX11_isEnough rfl (by decide) ?_
    refine fz_istore (ls' := [(7, fz_i 1), (0, fz_r 53), (1, fz_i pm), (2, fz_i t), (3, fz_i hr), (4, fz_i wt), (5, fz_i to), (6, fz_i x)]) kX11_isEnough rfl (by decide) rfl ?_
    refine fz_aload_n kX11_isEnough rfl rfl ?_
    refine fz_dup rfl kX11_isEnough rfl ?_
    refine fz_getV (v := v13) kX11_isEnough rfl rfl k35 ?_
    refine fz_iconst ⟨by decide, by decide⟩ kX11_isEnough rfl ?_
    refine fz_isubN kX11_isEnough rfl (by omega) ?_
    refine fz_putI kX11_isEnough rfl rfl rfl ?_
    refine fz_nmu (S := [(53, 10), (60, 99999), (61, 99999), (62, 99999), (63, 99999), (64, 99999), (74, 99999), (75, 99999), (86, 99999), (87, 99999), (88, 99999)]) (h0 := h) (fz_Iv_up hI29 (by decide) (show 0 ≤ (v13 - 1) by omega) (show (v13 - 1) ≤ 11 by omega)) (fz_fr_up hf34 rfl) (fun H43 hI44 hf45 e46 => ?_)
    have k47 : H43 53 10 = (v13 - 1) := by rw [e46]; exact fz_up_e
    have hXw48 : fz_Xw H43 := fz_Xw_eq (by rw [e46]; exact fz_up_s (by decide)) (by rw [e46]; exact fz_up_ne (by decide)) (by rw [e46]; exact fz_up_ne (by decide)) (by rw [e46]; exact fz_up_ne (by decide)) (by rw [e46]; exact fz_up_ne (by decide)) hXw31
    clear e46
    refine fz_iload kX11_isEnough rfl rfl ?_
    exact fz_zret kX11_isEnough rfl rfl (by omega) ⟨hI44, hf45, hXw48, _, rfl, (by omega), (by omega)⟩

abbrev qX11_needs (h : fz_H) (pm th to x : Int) : fz_H → Option fz_V → Prop := fun h' r0 => fz_Iv h' ∧ fz_fr [(53, 10), (60, 99999), (61, 99999), (62, 99999), (63, 99999), (64, 99999), (74, 99999), (75, 99999), (86, 99999), (87, 99999), (88, 99999)] h h' ∧ fz_Xw h' ∧ ∃ r : Int, r0 = some (fz_i r) ∧ ((-2) ≤ r ∧ r ≤ 9) ∧ (h' 53 10 ≤ 10)
set_option maxHeartbeats 1000000 in
set_option maxRecDepth 100000 in
theorem sX11_needs (h : fz_H) (hI : fz_Iv h) (pm th to x : Int) (hXw : fz_Xw h) (hp0 : h 53 10 ≤ 10) : fz_R 5 mX11_needs 0 [(0, fz_r 53), (1, fz_i pm), (2, fz_i th), (3, fz_i to), (4, fz_i x)] [] h (qX11_needs h pm th to x) := by
  refine fz_knowl (fun hk => ?_)
  have hr_pm : -2147483648 ≤ pm ∧ pm < 2147483648 := hk _ (List.Mem.tail _ (List.Mem.head _))
  have hr_th : -2147483648 ≤ th ∧ th < 2147483648 := hk _ (List.Mem.tail _ (List.Mem.tail _ (List.Mem.head _)))
  have hr_to : -2147483648 ≤ to ∧ to < 2147483648 := hk _ (List.Mem.tail _ (List.Mem.tail _ (List.Mem.tail _ (List.Mem.head _))))
  have hr_x : -2147483648 ≤ x ∧ x < 2147483648 := hk _ (List.Mem.tail _ (List.Mem.tail _ (List.Mem.tail _ (List.Mem.tail _ (List.Mem.head _)))))
  clear hk
  have hf : fz_fr [(53, 10), (60, 99999), (61, 99999), (62, 99999), (63, 99999), (64, 99999), (74, 99999), (75, 99999), (86, 99999), (87, 99999), (88, 99999)] h h := fz_fr_rf
  have b1 : 0 ≤ h 53 10 ∧ h 53 10 ≤ 11 := hI.1 53 _
  refine fz_iload_n kX11_needs rfl rfl ?_
  refine fz_callS (d' := 2) (M' := mX11_isMarked) (As := [fz_i pm]) (st := []) kX11_needs rfl rfl vX11_isMarked rfl rfl (Nat.le_of_ble_eq_true rfl) (Nat.le_of_ble_eq_true rfl) (by decide) (sX11_isMarked h hI pm ) (fun H2 r3 q4 o5 => ?_)
  obtain ⟨e6, y7, rfl, p8⟩ := q4
  subst H2
  clear o5
  rcases p8 with ⟨rfl, c9⟩ | ⟨rfl, c9⟩
  · refine fz_if_eq (tgt := 34) kX11_needs rfl (by decide) (fun c10 => ?_) (fun c10 => ?_)
    · exfalso; omega
    · refine fz_aload_n kX11_needs rfl rfl ?_
      refine fz_iload_n kX11_needs rfl rfl ?_
      have b11 : 0 ≤ h 53 0 ∧ h 53 0 ≤ 8 := hI.1 53 _
      refine fz_callV (d' := 2) (M' := mX11_isWhen) (As := [fz_i th]) (st := []) kX11_needs rfl rfl vX11_isWhen rfl rfl rfl rfl (Nat.le_of_ble_eq_true rfl) (Nat.le_of_ble_eq_true rfl) (by decide) (sX11_isWhen h hI th ) (fun H12 r13 q14 o15 => ?_)
      obtain ⟨e16, y17, rfl, p18⟩ := q14
      subst H12
      clear o15
      rcases p18 with ⟨rfl, c19⟩ | ⟨rfl, c19⟩
      · refine fz_if_eq (tgt := 34) kX11_needs rfl (by decide) (fun c20 => ?_) (fun c20 => ?_)
        · exfalso; omega
        · refine fz_aload_n kX11_needs rfl rfl ?_
          refine fz_iload_n kX11_needs rfl rfl ?_
          refine fz_callV (d' := 2) (M' := mX11_isWhen) (As := [fz_i to]) (st := []) kX11_needs rfl rfl vX11_isWhen rfl rfl rfl rfl (Nat.le_of_ble_eq_true rfl) (Nat.le_of_ble_eq_true rfl) (by decide) (sX11_isWhen h hI to ) (fun H21 r22 q23 o24 => ?_)
          obtain ⟨e25, y26, rfl, p27⟩ := q23
          subst H21
          clear o24
          rcases p27 with ⟨rfl, c28⟩ | ⟨rfl, c28⟩
          · refine fz_if_eq (tgt := 34) kX11_needs rfl (by decide) (fun c29 => ?_) (fun c29 => ?_)
            · exfalso; omega
            · refine fz_iload kX11_needs rfl rfl ?_
              refine fz_iconst ⟨by decide, by decide⟩ kX11_needs rfl ?_
              refine fz_bipush ⟨by decide, by decide⟩ kX11_needs rfl ?_
              refine fz_callS (d' := 0) (M' := mX11_within) (As := [fz_i x, fz_i 1, fz_i 99]) (st := []) kX11_needs rfl rfl vX11_within rfl rfl (Nat.le_of_ble_eq_true rfl) (Nat.le_of_ble_eq_true rfl) (by decide) (sX11_within h hI x 1 99 ) (fun H30 r31 q32 o33 => ?_)
              obtain ⟨e34, y35, rfl, p36⟩ := q32
              subst H30
              clear o33
              rcases p36 with ⟨rfl, c37⟩ | ⟨rfl, c37⟩
              · refine fz_if_ne (tgt := 36) kX11_needs rfl (by decide) (fun c38 => ?_) (fun c38 => ?_)
                · refine fz_aload_n kX11_needs rfl rfl ?_
                  refine fz_callV (d' := 3) (M' := mX11_allHear) (As := []) (st := []) kX11_needs rfl rfl vX11_allHear rfl rfl rfl rfl (Nat.le_of_ble_eq_true rfl) (Nat.le_of_ble_eq_true rfl) (by decide) (sX11_allHear h hI  ) (fun H39 r40 q41 o42 => ?_)
                  obtain ⟨hI43, hf44, rfl⟩ := q41
                  clear o42
                  have hf45 := fz_fr_tr hf hf44 (show fz_su [(86, 99999), (87, 99999), (88, 99999)] [(53, 10), (60, 99999), (61, 99999), (62, 99999), (63, 99999), (64, 99999), (74, 99999), (75, 99999), (86, 99999), (87, 99999), (88, 99999)] = true from rfl)
                  have k46 : H39 53 10 = (h 53 10) := (hf44 53 10 rfl).trans rfl
                  have hXw47 : fz_Xw H39 := fz_Xw_eq (hf44 53 19 rfl) (funext fun s => hf44 66 s rfl) (funext fun s => hf44 67 s rfl) (funext fun s => hf44 68 s rfl) (funext fun s => hf44 69 s rfl) hXw
                  refine fz_iconst ⟨by decide, by decide⟩ kX11_needs rfl ?_
                  refine fz_istore (ls' := [(5, fz_i 1), (0, fz_r 53), (1, fz_i pm), (2, fz_i th), (3, fz_i to), (4, fz_i x)]) kX11_needs rfl (by decide) rfl ?_
                  have lp54 : ∀ (n53 : Nat) (x48 : Int) (H50 : fz_H), fz_Iv H50 → fz_fr [(53, 10), (60, 99999), (61, 99999), (62, 99999), (63, 99999), (64, 99999), (74, 99999), (75, 99999), (86, 99999), (87, 99999), (88, 99999)] h H50 → fz_Xw H50 → (1 ≤ x48 ∧ x48 ≤ 2147483647) → (H50 53 10 ≤ 10) → (10 - x48).toNat < n53 → fz_R 5 mX11_needs 43 [(5, fz_i x48), (0, fz_r 53), (1, fz_i pm), (2, fz_i th), (3, fz_i to), (4, fz_i x)] [] H50 (qX11_needs h pm th to x) := by
                    intro n53
                    induction n53 with
                    | zero => intro x48 H50 hI51 hf52 hXw49 hv57 hv58 hm56; exact absurd hm56 (by omega)
                    | succ n53 ih55 =>
                      intro x48 H50 hI51 hf52 hXw49 hv57 hv58 hm56
                      refine fz_iload kX11_needs rfl rfl ?_
                      refine fz_bipush ⟨by decide, by decide⟩ kX11_needs rfl ?_
                      refine fz_icmp_ge (tgt := 82) kX11_needs rfl (by decide) (fun c59 => ?_) (fun c59 => ?_)
                      · refine fz_bipush ⟨by decide, by decide⟩ kX11_needs rfl ?_
                        exact fz_iret kX11_needs rfl rfl (fun _ => ⟨hI51, hf52, hXw49, _, rfl, (by omega), (by omega)⟩)
                      · refine fz_aload_n kX11_needs rfl rfl ?_
                        refine fz_iload_n kX11_needs rfl rfl ?_
                        refine fz_iload_n kX11_needs rfl rfl ?_
                        refine fz_sipush ⟨by decide, by decide⟩ kX11_needs rfl ?_
                        refine fz_idivN kX11_needs rfl (by omega) (by omega) (by omega) ?_
                        refine fz_iload_n kX11_needs rfl rfl ?_
                        refine fz_sipush ⟨by decide, by decide⟩ kX11_needs rfl ?_
                        refine fz_iremN kX11_needs rfl (by omega) (by omega) (by omega) ?_
                        refine fz_iload kX11_needs rfl rfl ?_
                        refine fz_iload_n kX11_needs rfl rfl ?_
                        refine fz_iload kX11_needs rfl rfl ?_
                        have b60 : 0 ≤ H50 53 10 ∧ H50 53 10 ≤ 11 := hI51.1 53 _
                        refine fz_callV (d' := 4) (M' := mX11_isEnough) (As := [fz_i pm, fz_i (th / 1000), fz_i (th % 1000), fz_i x48, fz_i to, fz_i x]) (st := []) kX11_needs rfl rfl vX11_isEnough rfl rfl rfl rfl (Nat.le_of_ble_eq_true rfl) (Nat.le_of_ble_eq_true rfl) (by decide) (sX11_isEnough H50 hI51 pm (th / 1000) (th % 1000) x48 to x hXw49 (by omega) (by omega) (by omega) (by omega) (by omega) (by omega) (by omega)) (fun H61 r62 q63 o64 => ?_)
                        obtain ⟨hI65, hf66, hXw67, y69, rfl, p70, f68⟩ := q63
                        clear o64
                        have hf71 := fz_fr_tr hf52 hf66 (show fz_su [(53, 10), (60, 99999), (61, 99999), (62, 99999), (63, 99999), (64, 99999), (74, 99999), (75, 99999), (86, 99999), (87, 99999), (88, 99999)] [(53, 10), (60, 99999), (61, 99999), (62, 99999), (63, 99999), (64, 99999), (74, 99999), (75, 99999), (86, 99999), (87, 99999), (88, 99999)] = true from rfl)
                        refine fz_if_eq (tgt := 76) kX11_needs rfl (by decide) (fun c72 => ?_) (fun c72 => ?_)
                        · refine fz_iincN (ls' := [(5, fz_i (x48 + 1)), (0, fz_r 53), (1, fz_i pm), (2, fz_i th), (3, fz_i to), (4, fz_i x)]) kX11_needs rfl (by decide) rfl (by omega) rfl ?_
                          refine fz_goto (tgt := 43) kX11_needs rfl (by decide) ?_
                          exact ih55 (x48 + 1) H61 hI65 hf71 hXw67 (by omega) (by omega) (by omega)
                        · refine fz_iload kX11_needs rfl rfl ?_
                          exact fz_iret kX11_needs rfl rfl (fun _ => ⟨hI65, hf71, hXw67, _, rfl, (by omega), (by omega)⟩)
                  exact lp54 _ 1 H39 hI43 hf45 hXw47 (by omega) (by omega) (Nat.lt_succ_self _)
                · exfalso; omega
              · refine fz_if_ne (tgt := 36) kX11_needs rfl (by decide) (fun c73 => ?_) (fun c73 => ?_)
                · exfalso; omega
                · refine fz_iconst ⟨by decide, by decide⟩ kX11_needs rfl ?_
                  exact fz_iret kX11_needs rfl rfl (fun _ => ⟨hI, hf, hXw, _, rfl, (by omega), (by omega)⟩)
          · refine fz_if_eq (tgt := 34) kX11_needs rfl (by decide) (fun c74 => ?_) (fun c74 => ?_)
            · refine fz_iconst ⟨by decide, by decide⟩ kX11_needs rfl ?_
              exact fz_iret kX11_needs rfl rfl (fun _ => ⟨hI, hf, hXw, _, rfl, (by omega), (by omega)⟩)
            · exfalso; omega
      · refine fz_if_eq (tgt := 34) kX11_needs rfl (by decide) (fun c75 => ?_) (fun c75 => ?_)
        · refine fz_iconst ⟨by decide, by decide⟩ kX11_needs rfl ?_
          exact fz_iret kX11_needs rfl rfl (fun _ => ⟨hI, hf, hXw, _, rfl, (by omega), (by omega)⟩)
        · exfalso; omega
  · refine fz_if_eq (tgt := 34) kX11_needs rfl (by decide) (fun c76 => ?_) (fun c76 => ?_)
    · refine fz_iconst ⟨by decide, by decide⟩ kX11_needs rfl ?_
      exact fz_iret kX11_needs rfl rfl (fun _ => ⟨hI, hf, hXw, _, rfl, (by omega), (by omega)⟩)
    · exfalso; omega

abbrev qX11_latest (h : fz_H) (pm t to wx : Int) : fz_H → Option fz_V → Prop := fun h' r0 => fz_Iv h' ∧ fz_fr [(53, 10), (60, 99999), (61, 99999), (62, 99999), (63, 99999), (64, 99999), (74, 99999), (75, 99999), (86, 99999), (87, 99999), (88, 99999)] h h' ∧ fz_Xw h' ∧ ∃ r : Int, r0 = some (fz_i r) ∧ ((-2) ≤ r ∧ r ≤ 999) ∧ (h' 53 10 ≤ 10)
set_option maxHeartbeats 1000000 in
set_option maxRecDepth 100000 in
theorem sX11_latest (h : fz_H) (hI : fz_Iv h) (pm t to wx : Int) (hXw : fz_Xw h) (hp0 : h 53 10 ≤ 10) : fz_R 5 mX11_latest 0 [(0, fz_r 53), (1, fz_i pm), (2, fz_i t), (3, fz_i to), (4, fz_i wx)] [] h (qX11_latest h pm t to wx) := by
  refine fz_knowl (fun hk => ?_)
  have hr_pm : -2147483648 ≤ pm ∧ pm < 2147483648 := hk _ (List.Mem.tail _ (List.Mem.head _))
  have hr_t : -2147483648 ≤ t ∧ t < 2147483648 := hk _ (List.Mem.tail _ (List.Mem.tail _ (List.Mem.head _)))
  have hr_to : -2147483648 ≤ to ∧ to < 2147483648 := hk _ (List.Mem.tail _ (List.Mem.tail _ (List.Mem.tail _ (List.Mem.head _))))
  have hr_wx : -2147483648 ≤ wx ∧ wx < 2147483648 := hk _ (List.Mem.tail _ (List.Mem.tail _ (List.Mem.tail _ (List.Mem.tail _ (List.Mem.head _)))))
  clear hk
  have hf : fz_fr [(53, 10), (60, 99999), (61, 99999), (62, 99999), (63, 99999), (64, 99999), (74, 99999), (75, 99999), (86, 99999), (87, 99999), (88, 99999)] h h := fz_fr_rf
  have b1 : 0 ≤ h 53 10 ∧ h 53 10 ≤ 11 := hI.1 53 _
  refine fz_iload_n kX11_latest rfl rfl ?_
  refine fz_callS (d' := 2) (M' := mX11_isMarked) (As := [fz_i pm]) (st := []) kX11_latest rfl rfl vX11_isMarked rfl rfl (Nat.le_of_ble_eq_true rfl) (Nat.le_of_ble_eq_true rfl) (by decide) (sX11_isMarked h hI pm ) (fun H2 r3 q4 o5 => ?_)
  obtain ⟨e6, y7, rfl, p8⟩ := q4
  subst H2
  clear o5
  rcases p8 with ⟨rfl, c9⟩ | ⟨rfl, c9⟩
  · refine fz_if_eq (tgt := 50) kX11_latest rfl (by decide) (fun c10 => ?_) (fun c10 => ?_)
    · exfalso; omega
    · refine fz_aload_n kX11_latest rfl rfl ?_
      refine fz_iload_n kX11_latest rfl rfl ?_
      have b11 : 0 ≤ h 53 0 ∧ h 53 0 ≤ 8 := hI.1 53 _
      refine fz_callV (d' := 1) (M' := mX11_isTown) (As := [fz_i t]) (st := []) kX11_latest rfl rfl vX11_isTown rfl rfl rfl rfl (Nat.le_of_ble_eq_true rfl) (Nat.le_of_ble_eq_true rfl) (by decide) (sX11_isTown h hI t ) (fun H12 r13 q14 o15 => ?_)
      obtain ⟨e16, y17, rfl, p18⟩ := q14
      subst H12
      clear o15
      rcases p18 with ⟨rfl, c19⟩ | ⟨rfl, c19⟩
      · refine fz_if_eq (tgt := 50) kX11_latest rfl (by decide) (fun c20 => ?_) (fun c20 => ?_)
        · exfalso; omega
        · refine fz_aload_n kX11_latest rfl rfl ?_
          refine fz_iload_n kX11_latest rfl rfl ?_
          refine fz_callV (d' := 2) (M' := mX11_isWhen) (As := [fz_i to]) (st := []) kX11_latest rfl rfl vX11_isWhen rfl rfl rfl rfl (Nat.le_of_ble_eq_true rfl) (Nat.le_of_ble_eq_true rfl) (by decide) (sX11_isWhen h hI to ) (fun H21 r22 q23 o24 => ?_)
          obtain ⟨e25, y26, rfl, p27⟩ := q23
          subst H21
          clear o24
          rcases p27 with ⟨rfl, c28⟩ | ⟨rfl, c28⟩
          · refine fz_if_eq (tgt := 50) kX11_latest rfl (by decide) (fun c29 => ?_) (fun c29 => ?_)
            · exfalso; omega
            · refine fz_iload kX11_latest rfl rfl ?_
              refine fz_if_lt (tgt := 50) kX11_latest rfl (by decide) (fun c30 => ?_) (fun c30 => ?_)
              · refine fz_iconst ⟨by decide, by decide⟩ kX11_latest rfl ?_
                exact fz_iret kX11_latest rfl rfl (fun _ => ⟨hI, hf, hXw, _, rfl, (by omega), (by omega)⟩)
              · refine fz_iload kX11_latest rfl rfl ?_
                refine fz_bipush ⟨by decide, by decide⟩ kX11_latest rfl ?_
                refine fz_idivN kX11_latest rfl (by omega) (by omega) (by omega) ?_
                refine fz_iconst ⟨by decide, by decide⟩ kX11_latest rfl ?_
                refine fz_bipush ⟨by decide, by decide⟩ kX11_latest rfl ?_
                refine fz_callS (d' := 0) (M' := mX11_within) (As := [fz_i (wx / 100), fz_i 1, fz_i 9]) (st := []) kX11_latest rfl rfl vX11_within rfl rfl (Nat.le_of_ble_eq_true rfl) (Nat.le_of_ble_eq_true rfl) (by decide) (sX11_within h hI (wx / 100) 1 9 ) (fun H31 r32 q33 o34 => ?_)
                obtain ⟨e35, y36, rfl, p37⟩ := q33
                subst H31
                clear o34
                rcases p37 with ⟨rfl, c38⟩ | ⟨rfl, c38⟩
                · refine fz_if_eq (tgt := 50) kX11_latest rfl (by decide) (fun c39 => ?_) (fun c39 => ?_)
                  · exfalso; omega
                  · refine fz_iload kX11_latest rfl rfl ?_
                    refine fz_bipush ⟨by decide, by decide⟩ kX11_latest rfl ?_
                    refine fz_iremN kX11_latest rfl (by omega) (by omega) (by omega) ?_
                    refine fz_if_ne (tgt := 52) kX11_latest rfl (by decide) (fun c40 => ?_) (fun c40 => ?_)
                    · refine fz_aload_n kX11_latest rfl rfl ?_
                      refine fz_callV (d' := 3) (M' := mX11_allHear) (As := []) (st := []) kX11_latest rfl rfl vX11_allHear rfl rfl rfl rfl (Nat.le_of_ble_eq_true rfl) (Nat.le_of_ble_eq_true rfl) (by decide) (sX11_allHear h hI  ) (fun H41 r42 q43 o44 => ?_)
                      obtain ⟨hI45, hf46, rfl⟩ := q43
                      clear o44
                      have hf47 := fz_fr_tr hf hf46 (show fz_su [(86, 99999), (87, 99999), (88, 99999)] [(53, 10), (60, 99999), (61, 99999), (62, 99999), (63, 99999), (64, 99999), (74, 99999), (75, 99999), (86, 99999), (87, 99999), (88, 99999)] = true from rfl)
                      have k48 : H41 53 10 = (h 53 10) := (hf46 53 10 rfl).trans rfl
                      have hXw49 : fz_Xw H41 := fz_Xw_eq (hf46 53 19 rfl) (funext fun s => hf46 66 s rfl) (funext fun s => hf46 67 s rfl) (funext fun s => hf46 68 s rfl) (funext fun s => hf46 69 s rfl) hXw
                      refine fz_sipush ⟨by decide, by decide⟩ kX11_latest rfl ?_
                      refine fz_istore (ls' := [(5, fz_i 999), (0, fz_r 53), (1, fz_i pm), (2, fz_i t), (3, fz_i to), (4, fz_i wx)]) kX11_latest rfl (by decide) rfl ?_
                      have lp56 : ∀ (n55 : Nat) (x50 : Int) (H52 : fz_H), fz_Iv H52 → fz_fr [(53, 10), (60, 99999), (61, 99999), (62, 99999), (63, 99999), (64, 99999), (74, 99999), (75, 99999), (86, 99999), (87, 99999), (88, 99999)] h H52 → fz_Xw H52 → ((-2147483648) ≤ x50 ∧ x50 ≤ 999) → (H52 53 10 ≤ 10) → (x50 + 1 - 0).toNat < n55 → fz_R 5 mX11_latest 61 [(5, fz_i x50), (0, fz_r 53), (1, fz_i pm), (2, fz_i t), (3, fz_i to), (4, fz_i wx)] [] H52 (qX11_latest h pm t to wx) := by
                        intro n55
                        induction n55 with
                        | zero => intro x50 H52 hI53 hf54 hXw51 hv59 hv60 hm58; exact absurd hm58 (by omega)
                        | succ n55 ih57 =>
                          intro x50 H52 hI53 hf54 hXw51 hv59 hv60 hm58
                          refine fz_iload kX11_latest rfl rfl ?_
                          refine fz_if_lt (tgt := 97) kX11_latest rfl (by decide) (fun c61 => ?_) (fun c61 => ?_)
                          · refine fz_bipush ⟨by decide, by decide⟩ kX11_latest rfl ?_
                            exact fz_iret kX11_latest rfl rfl (fun _ => ⟨hI53, hf54, hXw51, _, rfl, (by omega), (by omega)⟩)
                          · refine fz_aload_n kX11_latest rfl rfl ?_
                            refine fz_iload_n kX11_latest rfl rfl ?_
                            refine fz_iload_n kX11_latest rfl rfl ?_
                            refine fz_iload kX11_latest rfl rfl ?_
                            refine fz_iload kX11_latest rfl rfl ?_
                            refine fz_bipush ⟨by decide, by decide⟩ kX11_latest rfl ?_
                            refine fz_idivN kX11_latest rfl (by omega) (by omega) (by omega) ?_
                            refine fz_iload_n kX11_latest rfl rfl ?_
                            refine fz_iload kX11_latest rfl rfl ?_
                            refine fz_bipush ⟨by decide, by decide⟩ kX11_latest rfl ?_
                            refine fz_iremN kX11_latest rfl (by omega) (by omega) (by omega) ?_
                            have b62 : 0 ≤ H52 53 10 ∧ H52 53 10 ≤ 11 := hI53.1 53 _
                            refine fz_callV (d' := 4) (M' := mX11_isEnough) (As := [fz_i pm, fz_i t, fz_i x50, fz_i (wx / 100), fz_i to, fz_i (wx % 100)]) (st := []) kX11_latest rfl rfl vX11_isEnough rfl rfl rfl rfl (Nat.le_of_ble_eq_true rfl) (Nat.le_of_ble_eq_true rfl) (by decide) (sX11_isEnough H52 hI53 pm t x50 (wx / 100) to (wx % 100) hXw51 (by omega) (by omega) (by omega) (by omega) (by omega) (by omega) (by omega)) (fun H63 r64 q65 o66 => ?_)
                            obtain ⟨hI67, hf68, hXw69, y71, rfl, p72, f70⟩ := q65
                            clear o66
                            have hf73 := fz_fr_tr hf54 hf68 (show fz_su [(53, 10), (60, 99999), (61, 99999), (62, 99999), (63, 99999), (64, 99999), (74, 99999), (75, 99999), (86, 99999), (87, 99999), (88, 99999)] [(53, 10), (60, 99999), (61, 99999), (62, 99999), (63, 99999), (64, 99999), (74, 99999), (75, 99999), (86, 99999), (87, 99999), (88, 99999)] = true from rfl)
                            refine fz_if_eq (tgt := 91) kX11_latest rfl (by decide) (fun c74 => ?_) (fun c74 => ?_)
                            · refine fz_iincN (ls' := [(5, fz_i (x50 + (-1))), (0, fz_r 53), (1, fz_i pm), (2, fz_i t), (3, fz_i to), (4, fz_i wx)]) kX11_latest rfl (by decide) rfl (by omega) rfl ?_
                              refine fz_goto (tgt := 61) kX11_latest rfl (by decide) ?_
                              exact ih57 (x50 + (-1)) H63 hI67 hf73 hXw69 (by omega) (by omega) (by omega)
                            · refine fz_iload kX11_latest rfl rfl ?_
                              exact fz_iret kX11_latest rfl rfl (fun _ => ⟨hI67, hf73, hXw69, _, rfl, (by omega), (by omega)⟩)
                      exact lp56 _ 999 H41 hI45 hf47 hXw49 (by omega) (by omega) (Nat.lt_succ_self _)
                    · refine fz_iconst ⟨by decide, by decide⟩ kX11_latest rfl ?_
                      exact fz_iret kX11_latest rfl rfl (fun _ => ⟨hI, hf, hXw, _, rfl, (by omega), (by omega)⟩)
                · refine fz_if_eq (tgt := 50) kX11_latest rfl (by decide) (fun c75 => ?_) (fun c75 => ?_)
                  · refine fz_iconst ⟨by decide, by decide⟩ kX11_latest rfl ?_
                    exact fz_iret kX11_latest rfl rfl (fun _ => ⟨hI, hf, hXw, _, rfl, (by omega), (by omega)⟩)
                  · exfalso; omega
          · refine fz_if_eq (tgt := 50) kX11_latest rfl (by decide) (fun c76 => ?_) (fun c76 => ?_)
            · refine fz_iconst ⟨by decide, by decide⟩ kX11_latest rfl ?_
              exact fz_iret kX11_latest rfl rfl (fun _ => ⟨hI, hf, hXw, _, rfl, (by omega), (by omega)⟩)
            · exfalso; omega
      · refine fz_if_eq (tgt := 50) kX11_latest rfl (by decide) (fun c77 => ?_) (fun c77 => ?_)
        · refine fz_iconst ⟨by decide, by decide⟩ kX11_latest rfl ?_
          exact fz_iret kX11_latest rfl rfl (fun _ => ⟨hI, hf, hXw, _, rfl, (by omega), (by omega)⟩)
        · exfalso; omega
  · refine fz_if_eq (tgt := 50) kX11_latest rfl (by decide) (fun c78 => ?_) (fun c78 => ?_)
    · refine fz_iconst ⟨by decide, by decide⟩ kX11_latest rfl ?_
      exact fz_iret kX11_latest rfl rfl (fun _ => ⟨hI, hf, hXw, _, rfl, (by omega), (by omega)⟩)
    · exfalso; omega

abbrev qX11_cut (h : fz_H) (d t wh : Int) : fz_H → Option fz_V → Prop := fun h' r0 => fz_Iv h' ∧ fz_fr [(58, 99999), (86, 99999), (87, 99999)] h h' ∧ ∃ r : Int, r0 = some (fz_i r) ∧ ((-2147483648) ≤ r ∧ r ≤ 2147483647)
set_option maxHeartbeats 1000000 in
set_option maxRecDepth 100000 in
theorem sX11_cut (h : fz_H) (hI : fz_Iv h) (d t wh : Int) : fz_R 3 mX11_cut 0 [(0, fz_r 53), (1, fz_i d), (2, fz_i t), (3, fz_i wh)] [] h (qX11_cut h d t wh) := by
  refine fz_knowl (fun hk => ?_)
  have hr_d : -2147483648 ≤ d ∧ d < 2147483648 := hk _ (List.Mem.tail _ (List.Mem.head _))
  have hr_t : -2147483648 ≤ t ∧ t < 2147483648 := hk _ (List.Mem.tail _ (List.Mem.tail _ (List.Mem.head _)))
  have hr_wh : -2147483648 ≤ wh ∧ wh < 2147483648 := hk _ (List.Mem.tail _ (List.Mem.tail _ (List.Mem.tail _ (List.Mem.head _))))
  clear hk
  have hf : fz_fr [(58, 99999), (86, 99999), (87, 99999)] h h := fz_fr_rf
  refine fz_aload_n kX11_cut rfl rfl ?_
  refine fz_iload_n kX11_cut rfl rfl ?_
  have b1 : 0 ≤ h 53 10 ∧ h 53 10 ≤ 11 := hI.1 53 _
  refine fz_callV (d' := 1) (M' := mX11_isDeed) (As := [fz_i d]) (st := []) kX11_cut rfl rfl vX11_isDeed rfl rfl rfl rfl (Nat.le_of_ble_eq_true rfl) (Nat.le_of_ble_eq_true rfl) (by decide) (sX11_isDeed h hI d ) (fun H2 r3 q4 o5 => ?_)
  obtain ⟨e6, y7, rfl, p8⟩ := q4
  subst H2
  clear o5
  rcases p8 with ⟨rfl, c9⟩ | ⟨rfl, c9⟩
  · refine fz_if_eq (tgt := 25) kX11_cut rfl (by decide) (fun c10 => ?_) (fun c10 => ?_)
    · exfalso; omega
    · refine fz_aload_n kX11_cut rfl rfl ?_
      refine fz_iload_n kX11_cut rfl rfl ?_
      have b11 : 0 ≤ h 53 0 ∧ h 53 0 ≤ 8 := hI.1 53 _
      refine fz_callV (d' := 1) (M' := mX11_isTown) (As := [fz_i t]) (st := []) kX11_cut rfl rfl vX11_isTown rfl rfl rfl rfl (Nat.le_of_ble_eq_true rfl) (Nat.le_of_ble_eq_true rfl) (by decide) (sX11_isTown h hI t ) (fun H12 r13 q14 o15 => ?_)
      obtain ⟨e16, y17, rfl, p18⟩ := q14
      subst H12
      clear o15
      rcases p18 with ⟨rfl, c19⟩ | ⟨rfl, c19⟩
      · refine fz_if_eq (tgt := 25) kX11_cut rfl (by decide) (fun c20 => ?_) (fun c20 => ?_)
        · exfalso; omega
        · refine fz_iload_n kX11_cut rfl rfl ?_
          refine fz_iconst ⟨by decide, by decide⟩ kX11_cut rfl ?_
          refine fz_iconst ⟨by decide, by decide⟩ kX11_cut rfl ?_
          refine fz_callS (d' := 0) (M' := mX11_within) (As := [fz_i wh, fz_i 0, fz_i 1]) (st := []) kX11_cut rfl rfl vX11_within rfl rfl (Nat.le_of_ble_eq_true rfl) (Nat.le_of_ble_eq_true rfl) (by decide) (sX11_within h hI wh 0 1 ) (fun H21 r22 q23 o24 => ?_)
          obtain ⟨e25, y26, rfl, p27⟩ := q23
          subst H21
          clear o24
          rcases p27 with ⟨rfl, c28⟩ | ⟨rfl, c28⟩
          · refine fz_if_ne (tgt := 27) kX11_cut rfl (by decide) (fun c29 => ?_) (fun c29 => ?_)
            · refine fz_iconst ⟨by decide, by decide⟩ kX11_cut rfl ?_
              refine fz_istore (ls' := [(4, fz_i 0), (0, fz_r 53), (1, fz_i d), (2, fz_i t), (3, fz_i wh)]) kX11_cut rfl (by decide) rfl ?_
              refine fz_iconst ⟨by decide, by decide⟩ kX11_cut rfl ?_
              refine fz_istore (ls' := [(5, fz_i 0), (4, fz_i 0), (0, fz_r 53), (1, fz_i d), (2, fz_i t), (3, fz_i wh)]) kX11_cut rfl (by decide) rfl ?_
              have lp33 : ∀ (n32 : Nat) (x30 : Int) (x31 : Int), (0 ≤ x30 ∧ x30 ≤ 2147483647) → ((-2147483648) ≤ x31 ∧ x31 ≤ 2147483647) → ((h 53 2) - x30).toNat < n32 → fz_R 3 mX11_cut 33 [(5, fz_i x30), (4, fz_i x31), (0, fz_r 53), (1, fz_i d), (2, fz_i t), (3, fz_i wh)] [] h (qX11_cut h d t wh) := by
                intro n32
                induction n32 with
                | zero => intro x30 x31 hv36 hv37 hm35; exact absurd hm35 (by omega)
                | succ n32 ih34 =>
                  intro x30 x31 hv36 hv37 hm35
                  refine fz_iload kX11_cut rfl rfl ?_
                  refine fz_aload_n kX11_cut rfl rfl ?_
                  refine fz_getV (v := h 53 2) kX11_cut rfl rfl rfl ?_
                  have b38 : 0 ≤ h 53 2 ∧ h 53 2 ≤ 12 := hI.1 53 _
                  refine fz_icmp_ge (tgt := 68) kX11_cut rfl (by decide) (fun c39 => ?_) (fun c39 => ?_)
                  · refine fz_bipush ⟨by decide, by decide⟩ kX11_cut rfl ?_
                    refine fz_istore (ls' := [(5, fz_i (-2)), (4, fz_i x31), (0, fz_r 53), (1, fz_i d), (2, fz_i t), (3, fz_i wh)]) kX11_cut rfl (by decide) rfl ?_
                    refine fz_iconst ⟨by decide, by decide⟩ kX11_cut rfl ?_
                    refine fz_istore (ls' := [(6, fz_i 0), (5, fz_i (-2)), (4, fz_i x31), (0, fz_r 53), (1, fz_i d), (2, fz_i t), (3, fz_i wh)]) kX11_cut rfl (by decide) rfl ?_
                    have lp46 : ∀ (n45 : Nat) (x40 : Int) (x41 : Int) (H42 : fz_H), fz_Iv H42 → fz_fr [(58, 99999), (86, 99999), (87, 99999)] h H42 → (0 ≤ x40 ∧ x40 ≤ 2147483647) → ((-2147483648) ≤ x41 ∧ x41 ≤ 2147483647) → ((fz_shl 1 (h 53 2)) - x40).toNat < n45 → fz_R 3 mX11_cut 75 [(6, fz_i x40), (5, fz_i x41), (4, fz_i x31), (0, fz_r 53), (1, fz_i d), (2, fz_i t), (3, fz_i wh)] [] H42 (qX11_cut h d t wh) := by
                      intro n45
                      induction n45 with
                      | zero => intro x40 x41 H42 hI43 hf44 hv49 hv50 hm48; exact absurd hm48 (by omega)
                      | succ n45 ih47 =>
                        intro x40 x41 H42 hI43 hf44 hv49 hv50 hm48
                        refine fz_iload kX11_cut rfl rfl ?_
                        refine fz_iconst ⟨by decide, by decide⟩ kX11_cut rfl ?_
                        refine fz_aload_n kX11_cut rfl rfl ?_
                        refine fz_getV (v := h 53 2) kX11_cut rfl rfl (hf44 53 2 rfl) ?_
                        refine fz_ishl kX11_cut rfl ?_
                        have b51 : -2147483648 ≤ (fz_shl 1 (h 53 2)) ∧ (fz_shl 1 (h 53 2)) < 2147483648 := fz_b32 _
                        refine fz_icmp_ge (tgt := 177) kX11_cut rfl (by decide) (fun c53 => ?_) (fun c53 => ?_)
                        · refine fz_iconst ⟨by decide, by decide⟩ kX11_cut rfl ?_
                          refine fz_istore (ls' := [(6, fz_i 0), (5, fz_i x41), (4, fz_i x31), (0, fz_r 53), (1, fz_i d), (2, fz_i t), (3, fz_i wh)]) kX11_cut rfl (by decide) rfl ?_
                          have lp59 : ∀ (n58 : Nat) (x54 : Int) (H55 : fz_H), fz_Iv H55 → fz_fr [(58, 99999), (86, 99999), (87, 99999)] h H55 → (0 ≤ x54 ∧ x54 ≤ 2147483647) → ((h 53 2) - x54).toNat < n58 → fz_R 3 mX11_cut 180 [(6, fz_i x54), (5, fz_i x41), (4, fz_i x31), (0, fz_r 53), (1, fz_i d), (2, fz_i t), (3, fz_i wh)] [] H55 (qX11_cut h d t wh) := by
                            intro n58
                            induction n58 with
                            | zero => intro x54 H55 hI56 hf57 hv62 hm61; exact absurd hm61 (by omega)
                            | succ n58 ih60 =>
                              intro x54 H55 hI56 hf57 hv62 hm61
                              refine fz_iload kX11_cut rfl rfl ?_
                              refine fz_aload_n kX11_cut rfl rfl ?_
                              refine fz_getV (v := h 53 2) kX11_cut rfl rfl (hf57 53 2 rfl) ?_
                              refine fz_icmp_ge (tgt := 209) kX11_cut rfl (by decide) (fun c63 => ?_) (fun c63 => ?_)
                              · refine fz_iload kX11_cut rfl rfl ?_
                                refine fz_bipush ⟨by decide, by decide⟩ kX11_cut rfl ?_
                                refine fz_icmp_eq (tgt := 221) kX11_cut rfl (by decide) (fun c64 => ?_) (fun c64 => ?_)
                                · refine fz_iload kX11_cut rfl rfl ?_
                                  refine fz_goto (tgt := 231) kX11_cut rfl (by decide) ?_
                                  exact fz_iret kX11_cut rfl rfl (fun _ => ⟨hI56, hf57, _, rfl, (by omega)⟩)
                                · refine fz_iload_n kX11_cut rfl rfl ?_
                                  refine fz_iconst ⟨by decide, by decide⟩ kX11_cut rfl ?_
                                  refine fz_icmp_ne (tgt := 226) kX11_cut rfl (by decide) (fun c65 => ?_) (fun c65 => ?_)
                                  · refine fz_iload kX11_cut rfl rfl ?_
                                    refine fz_callS (d' := 0) (M' := mJ6_bitCount_0f7a4) (As := [fz_i x41]) (st := []) kX11_cut rfl rfl vJ6_bitCount_0f7a4 rfl rfl (Nat.le_of_ble_eq_true rfl) (Nat.le_of_ble_eq_true rfl) (by decide) (sJ6_bitCount_0f7a4 H55 hI56 x41 ) (fun H66 r67 q68 o69 => ?_)
                                    obtain ⟨e70, y72, rfl, f71⟩ := q68
                                    subst H66
                                    clear o69
                                    exact fz_iret kX11_cut rfl rfl (fun _ => ⟨hI56, hf57, _, rfl, (by omega)⟩)
                                  · refine fz_iload kX11_cut rfl rfl ?_
                                    refine fz_goto (tgt := 231) kX11_cut rfl (by decide) ?_
                                    exact fz_iret kX11_cut rfl rfl (fun _ => ⟨hI56, hf57, _, rfl, (by omega)⟩)
                              · refine fz_aload_n kX11_cut rfl rfl ?_
                                refine fz_getR (t := 58) kX11_cut rfl rfl ?_
                                refine fz_iload kX11_cut rfl rfl ?_
                                refine fz_iload kX11_cut rfl rfl ?_
                                refine fz_iload kX11_cut rfl rfl ?_
                                refine fz_ishr kX11_cut rfl ?_
                                have b73 : -2147483648 ≤ (fz_shr x31 x54) ∧ (fz_shr x31 x54) < 2147483648 := fz_b32 _
                                refine fz_iconst ⟨by decide, by decide⟩ kX11_cut rfl ?_
                                refine fz_iand kX11_cut rfl ?_
                                have b75 : -2147483648 ≤ (fz_and (fz_shr x31 x54) 1) ∧ (fz_and (fz_shr x31 x54) 1) < 2147483648 := fz_b32 _
                                have b76 : 0 ≤ (fz_and (fz_shr x31 x54) 1) ∧ (fz_and (fz_shr x31 x54) 1) ≤ 1 := fz_and_m (by omega) (by omega)
                                refine fz_iast (n := 12) kX11_cut rfl rfl (by omega) (by omega) ?_
                                refine fz_nmu (S := [(58, 99999), (86, 99999), (87, 99999)]) (h0 := h) (fz_Iv_up hI56 (by decide) (show 0 ≤ (fz_and (fz_shr x31 x54) 1) by omega) (show (fz_and (fz_shr x31 x54) 1) ≤ 1 by omega)) (fz_fr_up hf57 rfl) (fun H77 hI78 hf79 e80 => ?_)
                                clear e80
                                refine fz_iincN (ls' := [(6, fz_i (x54 + 1)), (5, fz_i x41), (4, fz_i x31), (0, fz_r 53), (1, fz_i d), (2, fz_i t), (3, fz_i wh)]) kX11_cut rfl (by decide) rfl (by omega) rfl ?_
                                refine fz_goto (tgt := 180) kX11_cut rfl (by decide) ?_
                                exact ih60 (x54 + 1) H77 hI78 hf79 (by omega) (by omega)
                          exact lp59 _ 0 H42 hI43 hf44 (by omega) (Nat.lt_succ_self _)
                        · refine fz_iload kX11_cut rfl rfl ?_
                          refine fz_callS (d' := 0) (M' := mJ6_bitCount_0f7a4) (As := [fz_i x40]) (st := []) kX11_cut rfl rfl vJ6_bitCount_0f7a4 rfl rfl (Nat.le_of_ble_eq_true rfl) (Nat.le_of_ble_eq_true rfl) (by decide) (sJ6_bitCount_0f7a4 H42 hI43 x40 ) (fun H81 r82 q83 o84 => ?_)
                          obtain ⟨e85, y87, rfl, f86⟩ := q83
                          subst H81
                          clear o84
                          refine fz_istore (ls' := [(7, fz_i y87), (6, fz_i x40), (5, fz_i x41), (4, fz_i x31), (0, fz_r 53), (1, fz_i d), (2, fz_i t), (3, fz_i wh)]) kX11_cut rfl (by decide) rfl ?_
                          refine fz_iload kX11_cut rfl rfl ?_
                          refine fz_iconst ⟨by decide, by decide⟩ kX11_cut rfl ?_
                          refine fz_icmp_gt (tgt := 171) kX11_cut rfl (by decide) (fun c88 => ?_) (fun c88 => ?_)
                          · refine fz_iincN (ls' := [(6, fz_i (x40 + 1)), (7, fz_i y87), (5, fz_i x41), (4, fz_i x31), (0, fz_r 53), (1, fz_i d), (2, fz_i t), (3, fz_i wh)]) kX11_cut rfl (by decide) rfl (by omega) rfl ?_
                            refine fz_goto (tgt := 75) kX11_cut rfl (by decide) ?_
                            refine fz_sub (fz_pk_sub (ls' := [(6, fz_i (x40 + 1)), (5, fz_i x41), (4, fz_i x31), (0, fz_r 53), (1, fz_i d), (2, fz_i t), (3, fz_i wh)]) [0, 2, 3, 4, 5, 6, 7] rfl) ?_
                            exact ih47 (x40 + 1) x41 H42 hI43 hf44 (by omega) (by omega) (by omega)
                          · refine fz_iload kX11_cut rfl rfl ?_
                            refine fz_bipush ⟨by decide, by decide⟩ kX11_cut rfl ?_
                            refine fz_icmp_eq (tgt := 119) kX11_cut rfl (by decide) (fun c89 => ?_) (fun c89 => ?_)
                            · refine fz_iconst ⟨by decide, by decide⟩ kX11_cut rfl ?_
                              refine fz_istore (ls' := [(8, fz_i 0), (7, fz_i y87), (6, fz_i x40), (5, fz_i x41), (4, fz_i x31), (0, fz_r 53), (1, fz_i d), (2, fz_i t), (3, fz_i wh)]) kX11_cut rfl (by decide) rfl ?_
                              have lp95 : ∀ (n94 : Nat) (x90 : Int) (H91 : fz_H), fz_Iv H91 → fz_fr [(58, 99999), (86, 99999), (87, 99999)] h H91 → (0 ≤ x90 ∧ x90 ≤ 2147483647) → ((h 53 2) - x90).toNat < n94 → fz_R 3 mX11_cut 122 [(8, fz_i x90), (7, fz_i y87), (6, fz_i x40), (5, fz_i x41), (4, fz_i x31), (0, fz_r 53), (1, fz_i d), (2, fz_i t), (3, fz_i wh)] [] H91 (qX11_cut h d t wh) := by
                                intro n94
                                induction n94 with
                                | zero => intro x90 H91 hI92 hf93 hv98 hm97; exact absurd hm97 (by omega)
                                | succ n94 ih96 =>
                                  intro x90 H91 hI92 hf93 hv98 hm97
                                  refine fz_iload kX11_cut rfl rfl ?_
                                  refine fz_aload_n kX11_cut rfl rfl ?_
                                  refine fz_getV (v := h 53 2) kX11_cut rfl rfl (hf93 53 2 rfl) ?_
                                  refine fz_icmp_ge (tgt := 156) kX11_cut rfl (by decide) (fun c99 => ?_) (fun c99 => ?_)
                                  · refine fz_aload_n kX11_cut rfl rfl ?_
                                    refine fz_iload_n kX11_cut rfl rfl ?_
                                    refine fz_iload_n kX11_cut rfl rfl ?_
                                    refine fz_callV (d' := 2) (M' := mX11_heardAt) (As := [fz_i d, fz_i t]) (st := []) kX11_cut rfl rfl vX11_heardAt rfl rfl rfl rfl (Nat.le_of_ble_eq_true rfl) (Nat.le_of_ble_eq_true rfl) (by decide) (sX11_heardAt H91 hI92 d t (by omega) (by omega)) (fun H100 r101 q102 o103 => ?_)
                                    obtain ⟨hI104, hf105, y107, rfl, f106⟩ := q102
                                    clear o103
                                    have hf108 := fz_fr_tr hf93 hf105 (show fz_su [(86, 99999), (87, 99999)] [(58, 99999), (86, 99999), (87, 99999)] = true from rfl)
                                    refine fz_bipush ⟨by decide, by decide⟩ kX11_cut rfl ?_
                                    refine fz_icmp_ne (tgt := 171) kX11_cut rfl (by decide) (fun c109 => ?_) (fun c109 => ?_)
                                    · refine fz_iincN (ls' := [(6, fz_i (x40 + 1)), (8, fz_i x90), (7, fz_i y87), (5, fz_i x41), (4, fz_i x31), (0, fz_r 53), (1, fz_i d), (2, fz_i t), (3, fz_i wh)]) kX11_cut rfl (by decide) rfl (by omega) rfl ?_
                                      refine fz_goto (tgt := 75) kX11_cut rfl (by decide) ?_
                                      refine fz_sub (fz_pk_sub (ls' := [(6, fz_i (x40 + 1)), (5, fz_i x41), (4, fz_i x31), (0, fz_r 53), (1, fz_i d), (2, fz_i t), (3, fz_i wh)]) [0, 3, 4, 5, 6, 7, 8] rfl) ?_
                                      exact ih47 (x40 + 1) x41 H100 hI104 hf108 (by omega) (by omega) (by omega)
                                    · refine fz_iload kX11_cut rfl rfl ?_
                                      refine fz_istore (ls' := [(5, fz_i x40), (8, fz_i x90), (7, fz_i y87), (6, fz_i x40), (4, fz_i x31), (0, fz_r 53), (1, fz_i d), (2, fz_i t), (3, fz_i wh)]) kX11_cut rfl (by decide) rfl ?_
                                      refine fz_iincN (ls' := [(6, fz_i (x40 + 1)), (5, fz_i x40), (8, fz_i x90), (7, fz_i y87), (4, fz_i x31), (0, fz_r 53), (1, fz_i d), (2, fz_i t), (3, fz_i wh)]) kX11_cut rfl (by decide) rfl (by omega) rfl ?_
                                      refine fz_goto (tgt := 75) kX11_cut rfl (by decide) ?_
                                      refine fz_sub (fz_pk_sub (ls' := [(6, fz_i (x40 + 1)), (5, fz_i x40), (4, fz_i x31), (0, fz_r 53), (1, fz_i d), (2, fz_i t), (3, fz_i wh)]) [0, 1, 4, 5, 6, 7, 8] rfl) ?_
                                      exact ih47 (x40 + 1) x40 H100 hI104 hf108 (by omega) (by omega) (by omega)
                                  · refine fz_aload_n kX11_cut rfl rfl ?_
                                    refine fz_getR (t := 58) kX11_cut rfl rfl ?_
                                    refine fz_iload kX11_cut rfl rfl ?_
                                    refine fz_iload kX11_cut rfl rfl ?_
                                    refine fz_iload kX11_cut rfl rfl ?_
                                    refine fz_iconst ⟨by decide, by decide⟩ kX11_cut rfl ?_
                                    refine fz_ixor kX11_cut rfl ?_
                                    have b110 : -2147483648 ≤ (fz_xor x40 (-1)) ∧ (fz_xor x40 (-1)) < 2147483648 := fz_b32 _
                                    refine fz_iand kX11_cut rfl ?_
                                    have b112 : -2147483648 ≤ (fz_and x31 (fz_xor x40 (-1))) ∧ (fz_and x31 (fz_xor x40 (-1))) < 2147483648 := fz_b32 _
                                    refine fz_iload kX11_cut rfl rfl ?_
                                    refine fz_ishr kX11_cut rfl ?_
                                    have b114 : -2147483648 ≤ (fz_shr (fz_and x31 (fz_xor x40 (-1))) x90) ∧ (fz_shr (fz_and x31 (fz_xor x40 (-1))) x90) < 2147483648 := fz_b32 _
                                    refine fz_iconst ⟨by decide, by decide⟩ kX11_cut rfl ?_
                                    refine fz_iand kX11_cut rfl ?_
                                    have b116 : -2147483648 ≤ (fz_and (fz_shr (fz_and x31 (fz_xor x40 (-1))) x90) 1) ∧ (fz_and (fz_shr (fz_and x31 (fz_xor x40 (-1))) x90) 1) < 2147483648 := fz_b32 _
                                    have b117 : 0 ≤ (fz_and (fz_shr (fz_and x31 (fz_xor x40 (-1))) x90) 1) ∧ (fz_and (fz_shr (fz_and x31 (fz_xor x40 (-1))) x90) 1) ≤ 1 := fz_and_m (by omega) (by omega)
                                    refine fz_iast (n := 12) kX11_cut rfl rfl (by omega) (by omega) ?_
                                    refine fz_nmu (S := [(58, 99999), (86, 99999), (87, 99999)]) (h0 := h) (fz_Iv_up hI92 (by decide) (show 0 ≤ (fz_and (fz_shr (fz_and x31 (fz_xor x40 (-1))) x90) 1) by omega) (show (fz_and (fz_shr (fz_and x31 (fz_xor x40 (-1))) x90) 1) ≤ 1 by omega)) (fz_fr_up hf93 rfl) (fun H118 hI119 hf120 e121 => ?_)
                                    clear e121
                                    refine fz_iincN (ls' := [(8, fz_i (x90 + 1)), (7, fz_i y87), (6, fz_i x40), (5, fz_i x41), (4, fz_i x31), (0, fz_r 53), (1, fz_i d), (2, fz_i t), (3, fz_i wh)]) kX11_cut rfl (by decide) rfl (by omega) rfl ?_
                                    refine fz_goto (tgt := 122) kX11_cut rfl (by decide) ?_
                                    exact ih96 (x90 + 1) H118 hI119 hf120 (by omega) (by omega)
                              exact lp95 _ 0 H42 hI43 hf44 (by omega) (Nat.lt_succ_self _)
                            · refine fz_iload kX11_cut rfl rfl ?_
                              refine fz_iload kX11_cut rfl rfl ?_
                              refine fz_callS (d' := 0) (M' := mJ6_bitCount_0f7a4) (As := [fz_i x41]) (st := [fz_i y87]) kX11_cut rfl rfl vJ6_bitCount_0f7a4 rfl rfl (Nat.le_of_ble_eq_true rfl) (Nat.le_of_ble_eq_true rfl) (by decide) (sJ6_bitCount_0f7a4 H42 hI43 x41 ) (fun H122 r123 q124 o125 => ?_)
                              obtain ⟨e126, y128, rfl, f127⟩ := q124
                              subst H122
                              clear o125
                              refine fz_icmp_lt (tgt := 119) kX11_cut rfl (by decide) (fun c129 => ?_) (fun c129 => ?_)
                              · refine fz_iconst ⟨by decide, by decide⟩ kX11_cut rfl ?_
                                refine fz_istore (ls' := [(8, fz_i 0), (7, fz_i y87), (6, fz_i x40), (5, fz_i x41), (4, fz_i x31), (0, fz_r 53), (1, fz_i d), (2, fz_i t), (3, fz_i wh)]) kX11_cut rfl (by decide) rfl ?_
                                have lp135 : ∀ (n134 : Nat) (x130 : Int) (H131 : fz_H), fz_Iv H131 → fz_fr [(58, 99999), (86, 99999), (87, 99999)] h H131 → (0 ≤ x130 ∧ x130 ≤ 2147483647) → ((h 53 2) - x130).toNat < n134 → fz_R 3 mX11_cut 122 [(8, fz_i x130), (7, fz_i y87), (6, fz_i x40), (5, fz_i x41), (4, fz_i x31), (0, fz_r 53), (1, fz_i d), (2, fz_i t), (3, fz_i wh)] [] H131 (qX11_cut h d t wh) := by
                                  intro n134
                                  induction n134 with
                                  | zero => intro x130 H131 hI132 hf133 hv138 hm137; exact absurd hm137 (by omega)
                                  | succ n134 ih136 =>
                                    intro x130 H131 hI132 hf133 hv138 hm137
                                    refine fz_iload kX11_cut rfl rfl ?_
                                    refine fz_aload_n kX11_cut rfl rfl ?_
                                    refine fz_getV (v := h 53 2) kX11_cut rfl rfl (hf133 53 2 rfl) ?_
                                    refine fz_icmp_ge (tgt := 156) kX11_cut rfl (by decide) (fun c139 => ?_) (fun c139 => ?_)
                                    · refine fz_aload_n kX11_cut rfl rfl ?_
                                      refine fz_iload_n kX11_cut rfl rfl ?_
                                      refine fz_iload_n kX11_cut rfl rfl ?_
                                      refine fz_callV (d' := 2) (M' := mX11_heardAt) (As := [fz_i d, fz_i t]) (st := []) kX11_cut rfl rfl vX11_heardAt rfl rfl rfl rfl (Nat.le_of_ble_eq_true rfl) (Nat.le_of_ble_eq_true rfl) (by decide) (sX11_heardAt H131 hI132 d t (by omega) (by omega)) (fun H140 r141 q142 o143 => ?_)
                                      obtain ⟨hI144, hf145, y147, rfl, f146⟩ := q142
                                      clear o143
                                      have hf148 := fz_fr_tr hf133 hf145 (show fz_su [(86, 99999), (87, 99999)] [(58, 99999), (86, 99999), (87, 99999)] = true from rfl)
                                      refine fz_bipush ⟨by decide, by decide⟩ kX11_cut rfl ?_
                                      refine fz_icmp_ne (tgt := 171) kX11_cut rfl (by decide) (fun c149 => ?_) (fun c149 => ?_)
                                      · refine fz_iincN (ls' := [(6, fz_i (x40 + 1)), (8, fz_i x130), (7, fz_i y87), (5, fz_i x41), (4, fz_i x31), (0, fz_r 53), (1, fz_i d), (2, fz_i t), (3, fz_i wh)]) kX11_cut rfl (by decide) rfl (by omega) rfl ?_
                                        refine fz_goto (tgt := 75) kX11_cut rfl (by decide) ?_
                                        refine fz_sub (fz_pk_sub (ls' := [(6, fz_i (x40 + 1)), (5, fz_i x41), (4, fz_i x31), (0, fz_r 53), (1, fz_i d), (2, fz_i t), (3, fz_i wh)]) [0, 3, 4, 5, 6, 7, 8] rfl) ?_
                                        exact ih47 (x40 + 1) x41 H140 hI144 hf148 (by omega) (by omega) (by omega)
                                      · refine fz_iload kX11_cut rfl rfl ?_
                                        refine fz_istore (ls' := [(5, fz_i x40), (8, fz_i x130), (7, fz_i y87), (6, fz_i x40), (4, fz_i x31), (0, fz_r 53), (1, fz_i d), (2, fz_i t), (3, fz_i wh)]) kX11_cut rfl (by decide) rfl ?_
                                        refine fz_iincN (ls' := [(6, fz_i (x40 + 1)), (5, fz_i x40), (8, fz_i x130), (7, fz_i y87), (4, fz_i x31), (0, fz_r 53), (1, fz_i d), (2, fz_i t), (3, fz_i wh)]) kX11_cut rfl (by decide) rfl (by omega) rfl ?_
                                        refine fz_goto (tgt := 75) kX11_cut rfl (by decide) ?_
                                        refine fz_sub (fz_pk_sub (ls' := [(6, fz_i (x40 + 1)), (5, fz_i x40), (4, fz_i x31), (0, fz_r 53), (1, fz_i d), (2, fz_i t), (3, fz_i wh)]) [0, 1, 4, 5, 6, 7, 8] rfl) ?_
                                        exact ih47 (x40 + 1) x40 H140 hI144 hf148 (by omega) (by omega) (by omega)
                                    · refine fz_aload_n kX11_cut rfl rfl ?_
                                      refine fz_getR (t := 58) kX11_cut rfl rfl ?_
                                      refine fz_iload kX11_cut rfl rfl ?_
                                      refine fz_iload kX11_cut rfl rfl ?_
                                      refine fz_iload kX11_cut rfl rfl ?_
                                      refine fz_iconst ⟨by decide, by decide⟩ kX11_cut rfl ?_
                                      refine fz_ixor kX11_cut rfl ?_
                                      have b150 : -2147483648 ≤ (fz_xor x40 (-1)) ∧ (fz_xor x40 (-1)) < 2147483648 := fz_b32 _
                                      refine fz_iand kX11_cut rfl ?_
                                      have b152 : -2147483648 ≤ (fz_and x31 (fz_xor x40 (-1))) ∧ (fz_and x31 (fz_xor x40 (-1))) < 2147483648 := fz_b32 _
                                      refine fz_iload kX11_cut rfl rfl ?_
                                      refine fz_ishr kX11_cut rfl ?_
                                      have b154 : -2147483648 ≤ (fz_shr (fz_and x31 (fz_xor x40 (-1))) x130) ∧ (fz_shr (fz_and x31 (fz_xor x40 (-1))) x130) < 2147483648 := fz_b32 _
                                      refine fz_iconst ⟨by decide, by decide⟩ kX11_cut rfl ?_
                                      refine fz_iand kX11_cut rfl ?_
                                      have b156 : -2147483648 ≤ (fz_and (fz_shr (fz_and x31 (fz_xor x40 (-1))) x130) 1) ∧ (fz_and (fz_shr (fz_and x31 (fz_xor x40 (-1))) x130) 1) < 2147483648 := fz_b32 _
                                      have b157 : 0 ≤ (fz_and (fz_shr (fz_and x31 (fz_xor x40 (-1))) x130) 1) ∧ (fz_and (fz_shr (fz_and x31 (fz_xor x40 (-1))) x130) 1) ≤ 1 := fz_and_m (by omega) (by omega)
                                      refine fz_iast (n := 12) kX11_cut rfl rfl (by omega) (by omega) ?_
                                      refine fz_nmu (S := [(58, 99999), (86, 99999), (87, 99999)]) (h0 := h) (fz_Iv_up hI132 (by decide) (show 0 ≤ (fz_and (fz_shr (fz_and x31 (fz_xor x40 (-1))) x130) 1) by omega) (show (fz_and (fz_shr (fz_and x31 (fz_xor x40 (-1))) x130) 1) ≤ 1 by omega)) (fz_fr_up hf133 rfl) (fun H158 hI159 hf160 e161 => ?_)
                                      clear e161
                                      refine fz_iincN (ls' := [(8, fz_i (x130 + 1)), (7, fz_i y87), (6, fz_i x40), (5, fz_i x41), (4, fz_i x31), (0, fz_r 53), (1, fz_i d), (2, fz_i t), (3, fz_i wh)]) kX11_cut rfl (by decide) rfl (by omega) rfl ?_
                                      refine fz_goto (tgt := 122) kX11_cut rfl (by decide) ?_
                                      exact ih136 (x130 + 1) H158 hI159 hf160 (by omega) (by omega)
                                exact lp135 _ 0 H42 hI43 hf44 (by omega) (Nat.lt_succ_self _)
                              · refine fz_goto (tgt := 171) kX11_cut rfl (by decide) ?_
                                refine fz_iincN (ls' := [(6, fz_i (x40 + 1)), (7, fz_i y87), (5, fz_i x41), (4, fz_i x31), (0, fz_r 53), (1, fz_i d), (2, fz_i t), (3, fz_i wh)]) kX11_cut rfl (by decide) rfl (by omega) rfl ?_
                                refine fz_goto (tgt := 75) kX11_cut rfl (by decide) ?_
                                refine fz_sub (fz_pk_sub (ls' := [(6, fz_i (x40 + 1)), (5, fz_i x41), (4, fz_i x31), (0, fz_r 53), (1, fz_i d), (2, fz_i t), (3, fz_i wh)]) [0, 2, 3, 4, 5, 6, 7] rfl) ?_
                                exact ih47 (x40 + 1) x41 H42 hI43 hf44 (by omega) (by omega) (by omega)
                    exact lp46 _ 0 (-2) h hI hf (by omega) (by omega) (Nat.lt_succ_self _)
                  · refine fz_aload_n kX11_cut rfl rfl ?_
                    refine fz_getR (t := 58) kX11_cut rfl rfl ?_
                    refine fz_iload kX11_cut rfl rfl ?_
                    refine fz_ialdV (n := 12) (v := h 58 (x30.toNat)) kX11_cut rfl rfl (by omega) (by omega) rfl ?_
                    have b162 : 0 ≤ h 58 (x30.toNat) ∧ h 58 (x30.toNat) ≤ 1 := hI.1 58 _
                    refine fz_iconst ⟨by decide, by decide⟩ kX11_cut rfl ?_
                    refine fz_icmp_ne (tgt := 62) kX11_cut rfl (by decide) (fun c163 => ?_) (fun c163 => ?_)
                    · refine fz_iincN (ls' := [(5, fz_i (x30 + 1)), (4, fz_i x31), (0, fz_r 53), (1, fz_i d), (2, fz_i t), (3, fz_i wh)]) kX11_cut rfl (by decide) rfl (by omega) rfl ?_
                      refine fz_goto (tgt := 33) kX11_cut rfl (by decide) ?_
                      exact ih34 (x30 + 1) x31 (by omega) (by omega) (by omega)
                    · refine fz_iload kX11_cut rfl rfl ?_
                      refine fz_iconst ⟨by decide, by decide⟩ kX11_cut rfl ?_
                      refine fz_iload kX11_cut rfl rfl ?_
                      refine fz_ishl kX11_cut rfl ?_
                      have b164 : -2147483648 ≤ (fz_shl 1 x30) ∧ (fz_shl 1 x30) < 2147483648 := fz_b32 _
                      refine fz_ior kX11_cut rfl ?_
                      have b166 : -2147483648 ≤ (fz_or x31 (fz_shl 1 x30)) ∧ (fz_or x31 (fz_shl 1 x30)) < 2147483648 := fz_b32 _
                      refine fz_istore (ls' := [(4, fz_i (fz_or x31 (fz_shl 1 x30))), (5, fz_i x30), (0, fz_r 53), (1, fz_i d), (2, fz_i t), (3, fz_i wh)]) kX11_cut rfl (by decide) rfl ?_
                      refine fz_iincN (ls' := [(5, fz_i (x30 + 1)), (4, fz_i (fz_or x31 (fz_shl 1 x30))), (0, fz_r 53), (1, fz_i d), (2, fz_i t), (3, fz_i wh)]) kX11_cut rfl (by decide) rfl (by omega) rfl ?_
                      refine fz_goto (tgt := 33) kX11_cut rfl (by decide) ?_
                      exact ih34 (x30 + 1) (fz_or x31 (fz_shl 1 x30)) (by omega) (by omega) (by omega)
              exact lp33 _ 0 0 (by omega) (by omega) (Nat.lt_succ_self _)
            · exfalso; omega
          · refine fz_if_ne (tgt := 27) kX11_cut rfl (by decide) (fun c168 => ?_) (fun c168 => ?_)
            · exfalso; omega
            · refine fz_iconst ⟨by decide, by decide⟩ kX11_cut rfl ?_
              exact fz_iret kX11_cut rfl rfl (fun _ => ⟨hI, hf, _, rfl, (by omega)⟩)
      · refine fz_if_eq (tgt := 25) kX11_cut rfl (by decide) (fun c169 => ?_) (fun c169 => ?_)
        · refine fz_iconst ⟨by decide, by decide⟩ kX11_cut rfl ?_
          exact fz_iret kX11_cut rfl rfl (fun _ => ⟨hI, hf, _, rfl, (by omega)⟩)
        · exfalso; omega
  · refine fz_if_eq (tgt := 25) kX11_cut rfl (by decide) (fun c170 => ?_) (fun c170 => ?_)
    · refine fz_iconst ⟨by decide, by decide⟩ kX11_cut rfl ?_
      exact fz_iret kX11_cut rfl rfl (fun _ => ⟨hI, hf, _, rfl, (by omega)⟩)
    · exfalso; omega

abbrev qX11_isFree (h : fz_H) (pe hr : Int) : fz_H → Option fz_V → Prop := fun h' r0 => fz_Iv h' ∧ fz_fr [(74, 99999), (75, 99999)] h h' ∧ fz_Xw h' ∧ ∃ r : Int, r0 = some (fz_i r) ∧ (r = 0 ∨ r = 1)
set_option maxHeartbeats 1000000 in
set_option maxRecDepth 100000 in
theorem sX11_isFree (h : fz_H) (hI : fz_Iv h) (pe hr : Int) (hXw : fz_Xw h) : fz_R 5 mX11_isFree 0 [(0, fz_r 53), (1, fz_i pe), (2, fz_i hr)] [] h (qX11_isFree h pe hr) := by
  refine fz_knowl (fun hk => ?_)
  have hr_pe : -2147483648 ≤ pe ∧ pe < 2147483648 := hk _ (List.Mem.tail _ (List.Mem.head _))
  have hr_hr : -2147483648 ≤ hr ∧ hr < 2147483648 := hk _ (List.Mem.tail _ (List.Mem.tail _ (List.Mem.head _)))
  clear hk
  have hf : fz_fr [(74, 99999), (75, 99999)] h h := fz_fr_rf
  refine fz_iconst ⟨by decide, by decide⟩ kX11_isFree rfl ?_
  refine fz_istore_n (ls' := [(3, fz_i 0), (0, fz_r 53), (1, fz_i pe), (2, fz_i hr)]) kX11_isFree rfl (by decide) rfl ?_
  have lp7 : ∀ (n6 : Nat) (x1 : Int) (H3 : fz_H), fz_Iv H3 → fz_fr [(74, 99999), (75, 99999)] h H3 → fz_Xw H3 → (0 ≤ x1 ∧ x1 ≤ 2147483647) → ((h 53 0) - x1).toNat < n6 → fz_R 5 mX11_isFree 2 [(3, fz_i x1), (0, fz_r 53), (1, fz_i pe), (2, fz_i hr)] [] H3 (qX11_isFree h pe hr) := by
    intro n6
    induction n6 with
    | zero => intro x1 H3 hI4 hf5 hXw2 hv10 hm9; exact absurd hm9 (by omega)
    | succ n6 ih8 =>
      intro x1 H3 hI4 hf5 hXw2 hv10 hm9
      refine fz_iload_n kX11_isFree rfl rfl ?_
      refine fz_aload_n kX11_isFree rfl rfl ?_
      refine fz_getV (v := h 53 0) kX11_isFree rfl rfl (hf5 53 0 rfl) ?_
      have b11 : 0 ≤ h 53 0 ∧ h 53 0 ≤ 8 := hI.1 53 _
      refine fz_icmp_ge (tgt := 28) kX11_isFree rfl (by decide) (fun c12 => ?_) (fun c12 => ?_)
      · refine fz_iconst ⟨by decide, by decide⟩ kX11_isFree rfl ?_
        exact fz_zret kX11_isFree rfl rfl (by omega) ⟨hI4, hf5, hXw2, _, rfl, (by omega)⟩
      · refine fz_aload_n kX11_isFree rfl rfl ?_
        refine fz_iload_n kX11_isFree rfl rfl ?_
        refine fz_iload_n kX11_isFree rfl rfl ?_
        refine fz_iload_n kX11_isFree rfl rfl ?_
        refine fz_callV (d' := 4) (M' := mX11_isArrested) (As := [fz_i pe, fz_i x1, fz_i hr]) (st := []) kX11_isFree rfl rfl vX11_isArrested rfl rfl rfl rfl (Nat.le_of_ble_eq_true rfl) (Nat.le_of_ble_eq_true rfl) (by decide) (sX11_isArrested H3 hI4 pe x1 hr hXw2 (by omega)) (fun H13 r14 q15 o16 => ?_)
        obtain ⟨hI17, hf18, hXw19, y20, rfl, p21⟩ := q15
        clear o16
        have hf22 := fz_fr_tr hf5 hf18 (show fz_su [(74, 99999), (75, 99999)] [(74, 99999), (75, 99999)] = true from rfl)
        refine fz_if_eq (tgt := 22) kX11_isFree rfl (by decide) (fun c23 => ?_) (fun c23 => ?_)
        · refine fz_iincN (ls' := [(3, fz_i (x1 + 1)), (0, fz_r 53), (1, fz_i pe), (2, fz_i hr)]) kX11_isFree rfl (by decide) rfl (by omega) rfl ?_
          refine fz_goto (tgt := 2) kX11_isFree rfl (by decide) ?_
          exact ih8 (x1 + 1) H13 hI17 hf22 hXw19 (by omega) (by omega)
        · refine fz_iconst ⟨by decide, by decide⟩ kX11_isFree rfl ?_
          exact fz_zret kX11_isFree rfl rfl (by omega) ⟨hI17, hf22, hXw19, _, rfl, (by omega)⟩
  exact lp7 _ 0 h hI hf hXw (by omega) (Nat.lt_succ_self _)

abbrev qX11_free (h : fz_H) (on hr wh : Int) : fz_H → Option fz_V → Prop := fun h' r0 => fz_Iv h' ∧ fz_fr [(60, 99999), (74, 99999), (75, 99999), (86, 99999), (87, 99999), (88, 99999)] h h' ∧ fz_Xw h' ∧ ∃ r : Int, r0 = some (fz_i r) ∧ ((-2147483648) ≤ r ∧ r ≤ 2147483647)
set_option maxHeartbeats 1000000 in
set_option maxRecDepth 100000 in
theorem sX11_free (h : fz_H) (hI : fz_Iv h) (on hr wh : Int) (hXw : fz_Xw h) : fz_R 6 mX11_free 0 [(0, fz_r 53), (1, fz_i on), (2, fz_i hr), (3, fz_i wh)] [] h (qX11_free h on hr wh) := by
  refine fz_knowl (fun hk => ?_)
  have hr_on : -2147483648 ≤ on ∧ on < 2147483648 := hk _ (List.Mem.tail _ (List.Mem.head _))
  have hr_hr : -2147483648 ≤ hr ∧ hr < 2147483648 := hk _ (List.Mem.tail _ (List.Mem.tail _ (List.Mem.head _)))
  have hr_wh : -2147483648 ≤ wh ∧ wh < 2147483648 := hk _ (List.Mem.tail _ (List.Mem.tail _ (List.Mem.tail _ (List.Mem.head _))))
  clear hk
  have hf : fz_fr [(60, 99999), (74, 99999), (75, 99999), (86, 99999), (87, 99999), (88, 99999)] h h := fz_fr_rf
  refine fz_iload_n kX11_free rfl rfl ?_
  refine fz_callS (d' := 1) (M' := mX11_isPerson) (As := [fz_i on]) (st := []) kX11_free rfl rfl vX11_isPerson rfl rfl (Nat.le_of_ble_eq_true rfl) (Nat.le_of_ble_eq_true rfl) (by decide) (sX11_isPerson h hI on ) (fun H1 r2 q3 o4 => ?_)
  obtain ⟨e5, y6, rfl, p7⟩ := q3
  subst H1
  clear o4
  rcases p7 with ⟨rfl, c8⟩ | ⟨rfl, c8⟩
  · refine fz_if_eq (tgt := 23) kX11_free rfl (by decide) (fun c9 => ?_) (fun c9 => ?_)
    · exfalso; omega
    · refine fz_iload_n kX11_free rfl rfl ?_
      refine fz_callS (d' := 1) (M' := mX11_isHour) (As := [fz_i hr]) (st := []) kX11_free rfl rfl vX11_isHour rfl rfl (Nat.le_of_ble_eq_true rfl) (Nat.le_of_ble_eq_true rfl) (by decide) (sX11_isHour h hI hr ) (fun H10 r11 q12 o13 => ?_)
      obtain ⟨e14, y15, rfl, p16⟩ := q12
      subst H10
      clear o13
      rcases p16 with ⟨rfl, c17⟩ | ⟨rfl, c17⟩
      · refine fz_if_eq (tgt := 23) kX11_free rfl (by decide) (fun c18 => ?_) (fun c18 => ?_)
        · exfalso; omega
        · refine fz_iload_n kX11_free rfl rfl ?_
          refine fz_iconst ⟨by decide, by decide⟩ kX11_free rfl ?_
          refine fz_iconst ⟨by decide, by decide⟩ kX11_free rfl ?_
          refine fz_callS (d' := 0) (M' := mX11_within) (As := [fz_i wh, fz_i 0, fz_i 1]) (st := []) kX11_free rfl rfl vX11_within rfl rfl (Nat.le_of_ble_eq_true rfl) (Nat.le_of_ble_eq_true rfl) (by decide) (sX11_within h hI wh 0 1 ) (fun H19 r20 q21 o22 => ?_)
          obtain ⟨e23, y24, rfl, p25⟩ := q21
          subst H19
          clear o22
          rcases p25 with ⟨rfl, c26⟩ | ⟨rfl, c26⟩
          · refine fz_if_ne (tgt := 25) kX11_free rfl (by decide) (fun c27 => ?_) (fun c27 => ?_)
            · refine fz_aload_n kX11_free rfl rfl ?_
              refine fz_callV (d' := 3) (M' := mX11_allHear) (As := []) (st := []) kX11_free rfl rfl vX11_allHear rfl rfl rfl rfl (Nat.le_of_ble_eq_true rfl) (Nat.le_of_ble_eq_true rfl) (by decide) (sX11_allHear h hI  ) (fun H28 r29 q30 o31 => ?_)
              obtain ⟨hI32, hf33, rfl⟩ := q30
              clear o31
              have hf34 := fz_fr_tr hf hf33 (show fz_su [(86, 99999), (87, 99999), (88, 99999)] [(60, 99999), (74, 99999), (75, 99999), (86, 99999), (87, 99999), (88, 99999)] = true from rfl)
              have hXw35 : fz_Xw H28 := fz_Xw_eq (hf33 53 19 rfl) (funext fun s => hf33 66 s rfl) (funext fun s => hf33 67 s rfl) (funext fun s => hf33 68 s rfl) (funext fun s => hf33 69 s rfl) hXw
              refine fz_aload_n kX11_free rfl rfl ?_
              refine fz_iload_n kX11_free rfl rfl ?_
              refine fz_callV (d' := 0) (M' := mX11_deedsOf) (As := [fz_i on]) (st := []) kX11_free rfl rfl vX11_deedsOf rfl rfl rfl rfl (Nat.le_of_ble_eq_true rfl) (Nat.le_of_ble_eq_true rfl) (by decide) (sX11_deedsOf H28 hI32 on ) (fun H36 r37 q38 o39 => ?_)
              obtain ⟨e40, y43, rfl, f41, f42⟩ := q38
              subst H36
              clear o39
              refine fz_istore (ls' := [(4, fz_i y43), (0, fz_r 53), (1, fz_i on), (2, fz_i hr), (3, fz_i wh)]) kX11_free rfl (by decide) rfl ?_
              refine fz_bipush ⟨by decide, by decide⟩ kX11_free rfl ?_
              refine fz_istore (ls' := [(5, fz_i (-2)), (4, fz_i y43), (0, fz_r 53), (1, fz_i on), (2, fz_i hr), (3, fz_i wh)]) kX11_free rfl (by decide) rfl ?_
              refine fz_iconst ⟨by decide, by decide⟩ kX11_free rfl ?_
              refine fz_istore (ls' := [(6, fz_i 0), (5, fz_i (-2)), (4, fz_i y43), (0, fz_r 53), (1, fz_i on), (2, fz_i hr), (3, fz_i wh)]) kX11_free rfl (by decide) rfl ?_
              have lp51 : ∀ (n50 : Nat) (x44 : Int) (x45 : Int) (H47 : fz_H), fz_Iv H47 → fz_fr [(60, 99999), (74, 99999), (75, 99999), (86, 99999), (87, 99999), (88, 99999)] h H47 → fz_Xw H47 → (0 ≤ x44 ∧ x44 ≤ 2147483647) → ((-2147483648) ≤ x45 ∧ x45 ≤ 2147483647) → (y43 + 1 - x44).toNat < n50 → fz_R 6 mX11_free 43 [(6, fz_i x44), (5, fz_i x45), (4, fz_i y43), (0, fz_r 53), (1, fz_i on), (2, fz_i hr), (3, fz_i wh)] [] H47 (qX11_free h on hr wh) := by
                intro n50
                induction n50 with
                | zero => intro x44 x45 H47 hI48 hf49 hXw46 hv54 hv55 hm53; exact absurd hm53 (by omega)
                | succ n50 ih52 =>
                  intro x44 x45 H47 hI48 hf49 hXw46 hv54 hv55 hm53
                  refine fz_iload kX11_free rfl rfl ?_
                  refine fz_iload kX11_free rfl rfl ?_
                  refine fz_icmp_gt (tgt := 117) kX11_free rfl (by decide) (fun c56 => ?_) (fun c56 => ?_)
                  · refine fz_iload_n kX11_free rfl rfl ?_
                    refine fz_iconst ⟨by decide, by decide⟩ kX11_free rfl ?_
                    refine fz_icmp_ne (tgt := 127) kX11_free rfl (by decide) (fun c57 => ?_) (fun c57 => ?_)
                    · refine fz_iload kX11_free rfl rfl ?_
                      refine fz_callS (d' := 0) (M' := mJ6_bitCount_0f7a4) (As := [fz_i x45]) (st := []) kX11_free rfl rfl vJ6_bitCount_0f7a4 rfl rfl (Nat.le_of_ble_eq_true rfl) (Nat.le_of_ble_eq_true rfl) (by decide) (sJ6_bitCount_0f7a4 H47 hI48 x45 ) (fun H58 r59 q60 o61 => ?_)
                      obtain ⟨e62, y64, rfl, f63⟩ := q60
                      subst H58
                      clear o61
                      exact fz_iret kX11_free rfl rfl (fun _ => ⟨hI48, hf49, hXw46, _, rfl, (by omega)⟩)
                    · refine fz_iload kX11_free rfl rfl ?_
                      refine fz_goto (tgt := 132) kX11_free rfl (by decide) ?_
                      exact fz_iret kX11_free rfl rfl (fun _ => ⟨hI48, hf49, hXw46, _, rfl, (by omega)⟩)
                  · refine fz_iload kX11_free rfl rfl ?_
                    refine fz_iload kX11_free rfl rfl ?_
                    refine fz_iconst ⟨by decide, by decide⟩ kX11_free rfl ?_
                    refine fz_ixor kX11_free rfl ?_
                    have b65 : -2147483648 ≤ (fz_xor y43 (-1)) ∧ (fz_xor y43 (-1)) < 2147483648 := fz_b32 _
                    refine fz_iand kX11_free rfl ?_
                    have b66 : -2147483648 ≤ (fz_and x44 (fz_xor y43 (-1))) ∧ (fz_and x44 (fz_xor y43 (-1))) < 2147483648 := fz_b32 _
                    refine fz_if_ne (tgt := 111) kX11_free rfl (by decide) (fun c67 => ?_) (fun c67 => ?_)
                    · refine fz_iincN (ls' := [(6, fz_i (x44 + 1)), (5, fz_i x45), (4, fz_i y43), (0, fz_r 53), (1, fz_i on), (2, fz_i hr), (3, fz_i wh)]) kX11_free rfl (by decide) rfl (by omega) rfl ?_
                      refine fz_goto (tgt := 43) kX11_free rfl (by decide) ?_
                      exact ih52 (x44 + 1) x45 H47 hI48 hf49 hXw46 (by omega) (by omega) (by omega)
                    · refine fz_iload kX11_free rfl rfl ?_
                      refine fz_bipush ⟨by decide, by decide⟩ kX11_free rfl ?_
                      refine fz_icmp_eq (tgt := 83) kX11_free rfl (by decide) (fun c68 => ?_) (fun c68 => ?_)
                      · refine fz_aload_n kX11_free rfl rfl ?_
                        refine fz_iload kX11_free rfl rfl ?_
                        refine fz_bipush ⟨by decide, by decide⟩ kX11_free rfl ?_
                        refine fz_callV (d' := 0) (M' := mX11_forgets) (As := [fz_i x44, fz_i (-2)]) (st := []) kX11_free rfl rfl vX11_forgets rfl rfl rfl rfl (Nat.le_of_ble_eq_true rfl) (Nat.le_of_ble_eq_true rfl) (by decide) (sX11_forgets H47 hI48 x44 (-2) ) (fun H69 r70 q71 o72 => ?_)
                        obtain ⟨hI73, hf74, rfl⟩ := q71
                        clear o72
                        have hf75 := fz_fr_tr hf49 hf74 (show fz_su [(60, 99999)] [(60, 99999), (74, 99999), (75, 99999), (86, 99999), (87, 99999), (88, 99999)] = true from rfl)
                        have hXw76 : fz_Xw H69 := fz_Xw_eq (hf74 53 19 rfl) (funext fun s => hf74 66 s rfl) (funext fun s => hf74 67 s rfl) (funext fun s => hf74 68 s rfl) (funext fun s => hf74 69 s rfl) hXw46
                        refine fz_aload_n kX11_free rfl rfl ?_
                        refine fz_iload_n kX11_free rfl rfl ?_
                        refine fz_iload_n kX11_free rfl rfl ?_
                        refine fz_callV (d' := 5) (M' := mX11_isFree) (As := [fz_i on, fz_i hr]) (st := []) kX11_free rfl rfl vX11_isFree rfl rfl rfl rfl (Nat.le_of_ble_eq_true rfl) (Nat.le_of_ble_eq_true rfl) (by decide) (sX11_isFree H69 hI73 on hr hXw76) (fun H77 r78 q79 o80 => ?_)
                        obtain ⟨hI81, hf82, hXw83, y84, rfl, p85⟩ := q79
                        clear o80
                        have hf86 := fz_fr_tr hf75 hf82 (show fz_su [(74, 99999), (75, 99999)] [(60, 99999), (74, 99999), (75, 99999), (86, 99999), (87, 99999), (88, 99999)] = true from rfl)
                        refine fz_if_eq (tgt := 104) kX11_free rfl (by decide) (fun c87 => ?_) (fun c87 => ?_)
                        · refine fz_aload_n kX11_free rfl rfl ?_
                          refine fz_iload kX11_free rfl rfl ?_
                          refine fz_iload_n kX11_free rfl rfl ?_
                          refine fz_callV (d' := 0) (M' := mX11_forgets) (As := [fz_i x44, fz_i on]) (st := []) kX11_free rfl rfl vX11_forgets rfl rfl rfl rfl (Nat.le_of_ble_eq_true rfl) (Nat.le_of_ble_eq_true rfl) (by decide) (sX11_forgets H77 hI81 x44 on ) (fun H88 r89 q90 o91 => ?_)
                          obtain ⟨hI92, hf93, rfl⟩ := q90
                          clear o91
                          have hf94 := fz_fr_tr hf86 hf93 (show fz_su [(60, 99999)] [(60, 99999), (74, 99999), (75, 99999), (86, 99999), (87, 99999), (88, 99999)] = true from rfl)
                          have hXw95 : fz_Xw H88 := fz_Xw_eq (hf93 53 19 rfl) (funext fun s => hf93 66 s rfl) (funext fun s => hf93 67 s rfl) (funext fun s => hf93 68 s rfl) (funext fun s => hf93 69 s rfl) hXw83
                          refine fz_iincN (ls' := [(6, fz_i (x44 + 1)), (5, fz_i x45), (4, fz_i y43), (0, fz_r 53), (1, fz_i on), (2, fz_i hr), (3, fz_i wh)]) kX11_free rfl (by decide) rfl (by omega) rfl ?_
                          refine fz_goto (tgt := 43) kX11_free rfl (by decide) ?_
                          exact ih52 (x44 + 1) x45 H88 hI92 hf94 hXw95 (by omega) (by omega) (by omega)
                        · refine fz_iload kX11_free rfl rfl ?_
                          refine fz_istore (ls' := [(5, fz_i x44), (6, fz_i x44), (4, fz_i y43), (0, fz_r 53), (1, fz_i on), (2, fz_i hr), (3, fz_i wh)]) kX11_free rfl (by decide) rfl ?_
                          refine fz_aload_n kX11_free rfl rfl ?_
                          refine fz_iload kX11_free rfl rfl ?_
                          refine fz_iload_n kX11_free rfl rfl ?_
                          refine fz_callV (d' := 0) (M' := mX11_forgets) (As := [fz_i x44, fz_i on]) (st := []) kX11_free rfl rfl vX11_forgets rfl rfl rfl rfl (Nat.le_of_ble_eq_true rfl) (Nat.le_of_ble_eq_true rfl) (by decide) (sX11_forgets H77 hI81 x44 on ) (fun H96 r97 q98 o99 => ?_)
                          obtain ⟨hI100, hf101, rfl⟩ := q98
                          clear o99
                          have hf102 := fz_fr_tr hf86 hf101 (show fz_su [(60, 99999)] [(60, 99999), (74, 99999), (75, 99999), (86, 99999), (87, 99999), (88, 99999)] = true from rfl)
                          have hXw103 : fz_Xw H96 := fz_Xw_eq (hf101 53 19 rfl) (funext fun s => hf101 66 s rfl) (funext fun s => hf101 67 s rfl) (funext fun s => hf101 68 s rfl) (funext fun s => hf101 69 s rfl) hXw83
                          refine fz_iincN (ls' := [(6, fz_i (x44 + 1)), (5, fz_i x44), (4, fz_i y43), (0, fz_r 53), (1, fz_i on), (2, fz_i hr), (3, fz_i wh)]) kX11_free rfl (by decide) rfl (by omega) rfl ?_
                          refine fz_goto (tgt := 43) kX11_free rfl (by decide) ?_
                          exact ih52 (x44 + 1) x44 H96 hI100 hf102 hXw103 (by omega) (by omega) (by omega)
                      · refine fz_iload kX11_free rfl rfl ?_
                        refine fz_callS (d' := 0) (M' := mJ6_bitCount_0f7a4) (As := [fz_i x44]) (st := []) kX11_free rfl rfl vJ6_bitCount_0f7a4 rfl rfl (Nat.le_of_ble_eq_true rfl) (Nat.le_of_ble_eq_true rfl) (by decide) (sJ6_bitCount_0f7a4 H47 hI48 x44 ) (fun H104 r105 q106 o107 => ?_)
                        obtain ⟨e108, y110, rfl, f109⟩ := q106
                        subst H104
                        clear o107
                        refine fz_iload kX11_free rfl rfl ?_
                        refine fz_callS (d' := 0) (M' := mJ6_bitCount_0f7a4) (As := [fz_i x45]) (st := [fz_i y110]) kX11_free rfl rfl vJ6_bitCount_0f7a4 rfl rfl (Nat.le_of_ble_eq_true rfl) (Nat.le_of_ble_eq_true rfl) (by decide) (sJ6_bitCount_0f7a4 H47 hI48 x45 ) (fun H111 r112 q113 o114 => ?_)
                        obtain ⟨e115, y117, rfl, f116⟩ := q113
                        subst H111
                        clear o114
                        refine fz_icmp_lt (tgt := 83) kX11_free rfl (by decide) (fun c118 => ?_) (fun c118 => ?_)
                        · refine fz_aload_n kX11_free rfl rfl ?_
                          refine fz_iload kX11_free rfl rfl ?_
                          refine fz_bipush ⟨by decide, by decide⟩ kX11_free rfl ?_
                          refine fz_callV (d' := 0) (M' := mX11_forgets) (As := [fz_i x44, fz_i (-2)]) (st := []) kX11_free rfl rfl vX11_forgets rfl rfl rfl rfl (Nat.le_of_ble_eq_true rfl) (Nat.le_of_ble_eq_true rfl) (by decide) (sX11_forgets H47 hI48 x44 (-2) ) (fun H119 r120 q121 o122 => ?_)
                          obtain ⟨hI123, hf124, rfl⟩ := q121
                          clear o122
                          have hf125 := fz_fr_tr hf49 hf124 (show fz_su [(60, 99999)] [(60, 99999), (74, 99999), (75, 99999), (86, 99999), (87, 99999), (88, 99999)] = true from rfl)
                          have hXw126 : fz_Xw H119 := fz_Xw_eq (hf124 53 19 rfl) (funext fun s => hf124 66 s rfl) (funext fun s => hf124 67 s rfl) (funext fun s => hf124 68 s rfl) (funext fun s => hf124 69 s rfl) hXw46
                          refine fz_aload_n kX11_free rfl rfl ?_
                          refine fz_iload_n kX11_free rfl rfl ?_
                          refine fz_iload_n kX11_free rfl rfl ?_
                          refine fz_callV (d' := 5) (M' := mX11_isFree) (As := [fz_i on, fz_i hr]) (st := []) kX11_free rfl rfl vX11_isFree rfl rfl rfl rfl (Nat.le_of_ble_eq_true rfl) (Nat.le_of_ble_eq_true rfl) (by decide) (sX11_isFree H119 hI123 on hr hXw126) (fun H127 r128 q129 o130 => ?_)
                          obtain ⟨hI131, hf132, hXw133, y134, rfl, p135⟩ := q129
                          clear o130
                          have hf136 := fz_fr_tr hf125 hf132 (show fz_su [(74, 99999), (75, 99999)] [(60, 99999), (74, 99999), (75, 99999), (86, 99999), (87, 99999), (88, 99999)] = true from rfl)
                          refine fz_if_eq (tgt := 104) kX11_free rfl (by decide) (fun c137 => ?_) (fun c137 => ?_)
                          · refine fz_aload_n kX11_free rfl rfl ?_
                            refine fz_iload kX11_free rfl rfl ?_
                            refine fz_iload_n kX11_free rfl rfl ?_
                            refine fz_callV (d' := 0) (M' := mX11_forgets) (As := [fz_i x44, fz_i on]) (st := []) kX11_free rfl rfl vX11_forgets rfl rfl rfl rfl (Nat.le_of_ble_eq_true rfl) (Nat.le_of_ble_eq_true rfl) (by decide) (sX11_forgets H127 hI131 x44 on ) (fun H138 r139 q140 o141 => ?_)
                            obtain ⟨hI142, hf143, rfl⟩ := q140
                            clear o141
                            have hf144 := fz_fr_tr hf136 hf143 (show fz_su [(60, 99999)] [(60, 99999), (74, 99999), (75, 99999), (86, 99999), (87, 99999), (88, 99999)] = true from rfl)
                            have hXw145 : fz_Xw H138 := fz_Xw_eq (hf143 53 19 rfl) (funext fun s => hf143 66 s rfl) (funext fun s => hf143 67 s rfl) (funext fun s => hf143 68 s rfl) (funext fun s => hf143 69 s rfl) hXw133
                            refine fz_iincN (ls' := [(6, fz_i (x44 + 1)), (5, fz_i x45), (4, fz_i y43), (0, fz_r 53), (1, fz_i on), (2, fz_i hr), (3, fz_i wh)]) kX11_free rfl (by decide) rfl (by omega) rfl ?_
                            refine fz_goto (tgt := 43) kX11_free rfl (by decide) ?_
                            exact ih52 (x44 + 1) x45 H138 hI142 hf144 hXw145 (by omega) (by omega) (by omega)
                          · refine fz_iload kX11_free rfl rfl ?_
                            refine fz_istore (ls' := [(5, fz_i x44), (6, fz_i x44), (4, fz_i y43), (0, fz_r 53), (1, fz_i on), (2, fz_i hr), (3, fz_i wh)]) kX11_free rfl (by decide) rfl ?_
                            refine fz_aload_n kX11_free rfl rfl ?_
                            refine fz_iload kX11_free rfl rfl ?_
                            refine fz_iload_n kX11_free rfl rfl ?_
                            refine fz_callV (d' := 0) (M' := mX11_forgets) (As := [fz_i x44, fz_i on]) (st := []) kX11_free rfl rfl vX11_forgets rfl rfl rfl rfl (Nat.le_of_ble_eq_true rfl) (Nat.le_of_ble_eq_true rfl) (by decide) (sX11_forgets H127 hI131 x44 on ) (fun H146 r147 q148 o149 => ?_)
                            obtain ⟨hI150, hf151, rfl⟩ := q148
                            clear o149
                            have hf152 := fz_fr_tr hf136 hf151 (show fz_su [(60, 99999)] [(60, 99999), (74, 99999), (75, 99999), (86, 99999), (87, 99999), (88, 99999)] = true from rfl)
                            have hXw153 : fz_Xw H146 := fz_Xw_eq (hf151 53 19 rfl) (funext fun s => hf151 66 s rfl) (funext fun s => hf151 67 s rfl) (funext fun s => hf151 68 s rfl) (funext fun s => hf151 69 s rfl) hXw133
                            refine fz_iincN (ls' := [(6, fz_i (x44 + 1)), (5, fz_i x44), (4, fz_i y43), (0, fz_r 53), (1, fz_i on), (2, fz_i hr), (3, fz_i wh)]) kX11_free rfl (by decide) rfl (by omega) rfl ?_
                            refine fz_goto (tgt := 43) kX11_free rfl (by decide) ?_
                            exact ih52 (x44 + 1) x44 H146 hI150 hf152 hXw153 (by omega) (by omega) (by omega)
                        · refine fz_goto (tgt := 111) kX11_free rfl (by decide) ?_
                          refine fz_iincN (ls' := [(6, fz_i (x44 + 1)), (5, fz_i x45), (4, fz_i y43), (0, fz_r 53), (1, fz_i on), (2, fz_i hr), (3, fz_i wh)]) kX11_free rfl (by decide) rfl (by omega) rfl ?_
                          refine fz_goto (tgt := 43) kX11_free rfl (by decide) ?_
                          exact ih52 (x44 + 1) x45 H47 hI48 hf49 hXw46 (by omega) (by omega) (by omega)
              exact lp51 _ 0 (-2) H28 hI32 hf34 hXw35 (by omega) (by omega) (Nat.lt_succ_self _)
            · exfalso; omega
          · refine fz_if_ne (tgt := 25) kX11_free rfl (by decide) (fun c154 => ?_) (fun c154 => ?_)
            · exfalso; omega
            · refine fz_iconst ⟨by decide, by decide⟩ kX11_free rfl ?_
              exact fz_iret kX11_free rfl rfl (fun _ => ⟨hI, hf, hXw, _, rfl, (by omega)⟩)
      · refine fz_if_eq (tgt := 23) kX11_free rfl (by decide) (fun c155 => ?_) (fun c155 => ?_)
        · refine fz_iconst ⟨by decide, by decide⟩ kX11_free rfl ?_
          exact fz_iret kX11_free rfl rfl (fun _ => ⟨hI, hf, hXw, _, rfl, (by omega)⟩)
        · exfalso; omega
  · refine fz_if_eq (tgt := 23) kX11_free rfl (by decide) (fun c156 => ?_) (fun c156 => ?_)
    · refine fz_iconst ⟨by decide, by decide⟩ kX11_free rfl ?_
      exact fz_iret kX11_free rfl rfl (fun _ => ⟨hI, hf, hXw, _, rfl, (by omega)⟩)
    · exfalso; omega

abbrev qX11_marksAlike (h : fz_H) (a b t hr : Int) : fz_H → Option fz_V → Prop := fun h' r0 => fz_Iv h' ∧ fz_fr [(74, 99999), (75, 99999)] h h' ∧ fz_Xw h' ∧ ∃ r : Int, r0 = some (fz_i r) ∧ (0 ≤ r ∧ r ≤ 5)
set_option maxHeartbeats 1000000 in
set_option maxRecDepth 100000 in
theorem sX11_marksAlike (h : fz_H) (hI : fz_Iv h) (a b t hr : Int) (hXw : fz_Xw h) (hp0 : 0 ≤ t ∧ t ≤ 7) : fz_R 4 mX11_marksAlike 0 [(0, fz_r 53), (1, fz_i a), (2, fz_i b), (3, fz_i t), (4, fz_i hr)] [] h (qX11_marksAlike h a b t hr) := by
  refine fz_knowl (fun hk => ?_)
  have hr_a : -2147483648 ≤ a ∧ a < 2147483648 := hk _ (List.Mem.tail _ (List.Mem.head _))
  have hr_b : -2147483648 ≤ b ∧ b < 2147483648 := hk _ (List.Mem.tail _ (List.Mem.tail _ (List.Mem.head _)))
  have hr_t : -2147483648 ≤ t ∧ t < 2147483648 := hk _ (List.Mem.tail _ (List.Mem.tail _ (List.Mem.tail _ (List.Mem.head _))))
  have hr_hr : -2147483648 ≤ hr ∧ hr < 2147483648 := hk _ (List.Mem.tail _ (List.Mem.tail _ (List.Mem.tail _ (List.Mem.tail _ (List.Mem.head _)))))
  clear hk
  have hf : fz_fr [(74, 99999), (75, 99999)] h h := fz_fr_rf
  refine fz_iconst ⟨by decide, by decide⟩ kX11_marksAlike rfl ?_
  refine fz_istore (ls' := [(5, fz_i 0), (0, fz_r 53), (1, fz_i a), (2, fz_i b), (3, fz_i t), (4, fz_i hr)]) kX11_marksAlike rfl (by decide) rfl ?_
  refine fz_iconst ⟨by decide, by decide⟩ kX11_marksAlike rfl ?_
  refine fz_istore (ls' := [(6, fz_i 0), (5, fz_i 0), (0, fz_r 53), (1, fz_i a), (2, fz_i b), (3, fz_i t), (4, fz_i hr)]) kX11_marksAlike rfl (by decide) rfl ?_
  have lp8 : ∀ (n7 : Nat) (x1 : Int) (x2 : Int) (H4 : fz_H), fz_Iv H4 → fz_fr [(74, 99999), (75, 99999)] h H4 → fz_Xw H4 → (0 ≤ x1 ∧ x1 ≤ 2147483647) → (0 ≤ x2 ∧ x2 ≤ 5) → (x2 ≤ x1) → (5 - x1).toNat < n7 → fz_R 4 mX11_marksAlike 6 [(6, fz_i x1), (5, fz_i x2), (0, fz_r 53), (1, fz_i a), (2, fz_i b), (3, fz_i t), (4, fz_i hr)] [] H4 (qX11_marksAlike h a b t hr) := by
    intro n7
    induction n7 with
    | zero => intro x1 x2 H4 hI5 hf6 hXw3 hv11 hv12 hv13 hm10; exact absurd hm10 (by omega)
    | succ n7 ih9 =>
      intro x1 x2 H4 hI5 hf6 hXw3 hv11 hv12 hv13 hm10
      refine fz_iload kX11_marksAlike rfl rfl ?_
      refine fz_iconst ⟨by decide, by decide⟩ kX11_marksAlike rfl ?_
      refine fz_icmp_ge (tgt := 44) kX11_marksAlike rfl (by decide) (fun c14 => ?_) (fun c14 => ?_)
      · refine fz_iload kX11_marksAlike rfl rfl ?_
        exact fz_iret kX11_marksAlike rfl rfl (fun _ => ⟨hI5, hf6, hXw3, _, rfl, (by omega)⟩)
      · refine fz_aload_n kX11_marksAlike rfl rfl ?_
        refine fz_iload_n kX11_marksAlike rfl rfl ?_
        refine fz_iload kX11_marksAlike rfl rfl ?_
        refine fz_iload_n kX11_marksAlike rfl rfl ?_
        refine fz_iload kX11_marksAlike rfl rfl ?_
        refine fz_callV (d' := 3) (M' := mX11_saidOf) (As := [fz_i a, fz_i x1, fz_i t, fz_i hr]) (st := []) kX11_marksAlike rfl rfl vX11_saidOf rfl rfl rfl rfl (Nat.le_of_ble_eq_true rfl) (Nat.le_of_ble_eq_true rfl) (by decide) (sX11_saidOf H4 hI5 a x1 t hr hXw3 (by omega)) (fun H15 r16 q17 o18 => ?_)
        obtain ⟨hI19, hf20, hXw21, y23, rfl, f22⟩ := q17
        clear o18
        have hf24 := fz_fr_tr hf6 hf20 (show fz_su [(74, 99999), (75, 99999)] [(74, 99999), (75, 99999)] = true from rfl)
        refine fz_aload_n kX11_marksAlike rfl rfl ?_
        refine fz_iload_n kX11_marksAlike rfl rfl ?_
        refine fz_iload kX11_marksAlike rfl rfl ?_
        refine fz_iload_n kX11_marksAlike rfl rfl ?_
        refine fz_iload kX11_marksAlike rfl rfl ?_
        refine fz_callV (d' := 3) (M' := mX11_saidOf) (As := [fz_i b, fz_i x1, fz_i t, fz_i hr]) (st := [fz_i y23]) kX11_marksAlike rfl rfl vX11_saidOf rfl rfl rfl rfl (Nat.le_of_ble_eq_true rfl) (Nat.le_of_ble_eq_true rfl) (by decide) (sX11_saidOf H15 hI19 b x1 t hr hXw21 (by omega)) (fun H25 r26 q27 o28 => ?_)
        obtain ⟨hI29, hf30, hXw31, y33, rfl, f32⟩ := q27
        clear o28
        have hf34 := fz_fr_tr hf24 hf30 (show fz_su [(74, 99999), (75, 99999)] [(74, 99999), (75, 99999)] = true from rfl)
        refine fz_icmp_ne (tgt := 38) kX11_marksAlike rfl (by decide) (fun c35 => ?_) (fun c35 => ?_)
        · refine fz_iincN (ls' := [(6, fz_i (x1 + 1)), (5, fz_i x2), (0, fz_r 53), (1, fz_i a), (2, fz_i b), (3, fz_i t), (4, fz_i hr)]) kX11_marksAlike rfl (by decide) rfl (by omega) rfl ?_
          refine fz_goto (tgt := 6) kX11_marksAlike rfl (by decide) ?_
          exact ih9 (x1 + 1) x2 H25 hI29 hf34 hXw31 (by omega) (by omega) (by omega) (by omega)
        · refine fz_iincN (ls' := [(5, fz_i (x2 + 1)), (6, fz_i x1), (0, fz_r 53), (1, fz_i a), (2, fz_i b), (3, fz_i t), (4, fz_i hr)]) kX11_marksAlike rfl (by decide) rfl (by omega) rfl ?_
          refine fz_iincN (ls' := [(6, fz_i (x1 + 1)), (5, fz_i (x2 + 1)), (0, fz_r 53), (1, fz_i a), (2, fz_i b), (3, fz_i t), (4, fz_i hr)]) kX11_marksAlike rfl (by decide) rfl (by omega) rfl ?_
          refine fz_goto (tgt := 6) kX11_marksAlike rfl (by decide) ?_
          exact ih9 (x1 + 1) (x2 + 1) H25 hI29 hf34 hXw31 (by omega) (by omega) (by omega) (by omega)
  exact lp8 _ 0 0 h hI hf hXw (by omega) (by omega) (by omega) (Nat.lt_succ_self _)

abbrev qX11_alike (h : fz_H) (pq th wh : Int) : fz_H → Option fz_V → Prop := fun h' r0 => fz_Iv h' ∧ fz_fr [(60, 99999), (74, 99999), (75, 99999), (86, 99999), (87, 99999), (88, 99999)] h h' ∧ fz_Xw h' ∧ ∃ r : Int, r0 = some (fz_i r) ∧ ((-2147483648) ≤ r ∧ r ≤ 2147483647)
set_option maxHeartbeats 1000000 in
set_option maxRecDepth 100000 in
theorem sX11_alike (h : fz_H) (hI : fz_Iv h) (pq th wh : Int) (hXw : fz_Xw h) : fz_R 5 mX11_alike 0 [(0, fz_r 53), (1, fz_i pq), (2, fz_i th), (3, fz_i wh)] [] h (qX11_alike h pq th wh) := by
  refine fz_knowl (fun hk => ?_)
  have hr_pq : -2147483648 ≤ pq ∧ pq < 2147483648 := hk _ (List.Mem.tail _ (List.Mem.head _))
  have hr_th : -2147483648 ≤ th ∧ th < 2147483648 := hk _ (List.Mem.tail _ (List.Mem.tail _ (List.Mem.head _)))
  have hr_wh : -2147483648 ≤ wh ∧ wh < 2147483648 := hk _ (List.Mem.tail _ (List.Mem.tail _ (List.Mem.tail _ (List.Mem.head _))))
  clear hk
  have hf : fz_fr [(60, 99999), (74, 99999), (75, 99999), (86, 99999), (87, 99999), (88, 99999)] h h := fz_fr_rf
  refine fz_iload_n kX11_alike rfl rfl ?_
  refine fz_if_lt (tgt := 52) kX11_alike rfl (by decide) (fun c1 => ?_) (fun c1 => ?_)
  · refine fz_ldc (x := (-2000000000)) kX11_alike rfl rfl rfl ?_
    exact fz_iret kX11_alike rfl rfl (fun _ => ⟨hI, hf, hXw, _, rfl, (by omega)⟩)
  · refine fz_iload_n kX11_alike rfl rfl ?_
    refine fz_bipush ⟨by decide, by decide⟩ kX11_alike rfl ?_
    refine fz_idivN kX11_alike rfl (by omega) (by omega) (by omega) ?_
    refine fz_callS (d' := 1) (M' := mX11_isPerson) (As := [fz_i (pq / 10)]) (st := []) kX11_alike rfl rfl vX11_isPerson rfl rfl (Nat.le_of_ble_eq_true rfl) (Nat.le_of_ble_eq_true rfl) (by decide) (sX11_isPerson h hI (pq / 10) ) (fun H2 r3 q4 o5 => ?_)
    obtain ⟨e6, y7, rfl, p8⟩ := q4
    subst H2
    clear o5
    rcases p8 with ⟨rfl, c9⟩ | ⟨rfl, c9⟩
    · refine fz_if_eq (tgt := 52) kX11_alike rfl (by decide) (fun c10 => ?_) (fun c10 => ?_)
      · exfalso; omega
      · refine fz_iload_n kX11_alike rfl rfl ?_
        refine fz_bipush ⟨by decide, by decide⟩ kX11_alike rfl ?_
        refine fz_iremN kX11_alike rfl (by omega) (by omega) (by omega) ?_
        refine fz_callS (d' := 1) (M' := mX11_isPerson) (As := [fz_i (pq % 10)]) (st := []) kX11_alike rfl rfl vX11_isPerson rfl rfl (Nat.le_of_ble_eq_true rfl) (Nat.le_of_ble_eq_true rfl) (by decide) (sX11_isPerson h hI (pq % 10) ) (fun H11 r12 q13 o14 => ?_)
        obtain ⟨e15, y16, rfl, p17⟩ := q13
        subst H11
        clear o14
        rcases p17 with ⟨rfl, c18⟩ | ⟨rfl, c18⟩
        · refine fz_if_eq (tgt := 52) kX11_alike rfl (by decide) (fun c19 => ?_) (fun c19 => ?_)
          · exfalso; omega
          · refine fz_iload_n kX11_alike rfl rfl ?_
            refine fz_bipush ⟨by decide, by decide⟩ kX11_alike rfl ?_
            refine fz_idivN kX11_alike rfl (by omega) (by omega) (by omega) ?_
            refine fz_iload_n kX11_alike rfl rfl ?_
            refine fz_bipush ⟨by decide, by decide⟩ kX11_alike rfl ?_
            refine fz_iremN kX11_alike rfl (by omega) (by omega) (by omega) ?_
            refine fz_icmp_eq (tgt := 52) kX11_alike rfl (by decide) (fun c20 => ?_) (fun c20 => ?_)
            · refine fz_ldc (x := (-2000000000)) kX11_alike rfl rfl rfl ?_
              exact fz_iret kX11_alike rfl rfl (fun _ => ⟨hI, hf, hXw, _, rfl, (by omega)⟩)
            · refine fz_aload_n kX11_alike rfl rfl ?_
              refine fz_iload_n kX11_alike rfl rfl ?_
              have b21 : 0 ≤ h 53 0 ∧ h 53 0 ≤ 8 := hI.1 53 _
              refine fz_callV (d' := 2) (M' := mX11_isWhen) (As := [fz_i th]) (st := []) kX11_alike rfl rfl vX11_isWhen rfl rfl rfl rfl (Nat.le_of_ble_eq_true rfl) (Nat.le_of_ble_eq_true rfl) (by decide) (sX11_isWhen h hI th ) (fun H22 r23 q24 o25 => ?_)
              obtain ⟨e26, y27, rfl, p28⟩ := q24
              subst H22
              clear o25
              rcases p28 with ⟨rfl, c29⟩ | ⟨rfl, c29⟩
              · refine fz_if_eq (tgt := 52) kX11_alike rfl (by decide) (fun c30 => ?_) (fun c30 => ?_)
                · exfalso; omega
                · refine fz_iload_n kX11_alike rfl rfl ?_
                  refine fz_iconst ⟨by decide, by decide⟩ kX11_alike rfl ?_
                  refine fz_iconst ⟨by decide, by decide⟩ kX11_alike rfl ?_
                  refine fz_callS (d' := 0) (M' := mX11_within) (As := [fz_i wh, fz_i 0, fz_i 2]) (st := []) kX11_alike rfl rfl vX11_within rfl rfl (Nat.le_of_ble_eq_true rfl) (Nat.le_of_ble_eq_true rfl) (by decide) (sX11_within h hI wh 0 2 ) (fun H31 r32 q33 o34 => ?_)
                  obtain ⟨e35, y36, rfl, p37⟩ := q33
                  subst H31
                  clear o34
                  rcases p37 with ⟨rfl, c38⟩ | ⟨rfl, c38⟩
                  · refine fz_if_ne (tgt := 55) kX11_alike rfl (by decide) (fun c39 => ?_) (fun c39 => ?_)
                    · refine fz_aload_n kX11_alike rfl rfl ?_
                      refine fz_callV (d' := 3) (M' := mX11_allHear) (As := []) (st := []) kX11_alike rfl rfl vX11_allHear rfl rfl rfl rfl (Nat.le_of_ble_eq_true rfl) (Nat.le_of_ble_eq_true rfl) (by decide) (sX11_allHear h hI  ) (fun H40 r41 q42 o43 => ?_)
                      obtain ⟨hI44, hf45, rfl⟩ := q42
                      clear o43
                      have hf46 := fz_fr_tr hf hf45 (show fz_su [(86, 99999), (87, 99999), (88, 99999)] [(60, 99999), (74, 99999), (75, 99999), (86, 99999), (87, 99999), (88, 99999)] = true from rfl)
                      have hXw47 : fz_Xw H40 := fz_Xw_eq (hf45 53 19 rfl) (funext fun s => hf45 66 s rfl) (funext fun s => hf45 67 s rfl) (funext fun s => hf45 68 s rfl) (funext fun s => hf45 69 s rfl) hXw
                      refine fz_iload_n kX11_alike rfl rfl ?_
                      refine fz_bipush ⟨by decide, by decide⟩ kX11_alike rfl ?_
                      refine fz_idivN kX11_alike rfl (by omega) (by omega) (by omega) ?_
                      refine fz_istore (ls' := [(4, fz_i (pq / 10)), (0, fz_r 53), (1, fz_i pq), (2, fz_i th), (3, fz_i wh)]) kX11_alike rfl (by decide) rfl ?_
                      refine fz_iload_n kX11_alike rfl rfl ?_
                      refine fz_bipush ⟨by decide, by decide⟩ kX11_alike rfl ?_
                      refine fz_iremN kX11_alike rfl (by omega) (by omega) (by omega) ?_
                      refine fz_istore (ls' := [(5, fz_i (pq % 10)), (4, fz_i (pq / 10)), (0, fz_r 53), (1, fz_i pq), (2, fz_i th), (3, fz_i wh)]) kX11_alike rfl (by decide) rfl ?_
                      refine fz_iload_n kX11_alike rfl rfl ?_
                      refine fz_sipush ⟨by decide, by decide⟩ kX11_alike rfl ?_
                      refine fz_idivN kX11_alike rfl (by omega) (by omega) (by omega) ?_
                      refine fz_istore (ls' := [(6, fz_i (th / 1000)), (5, fz_i (pq % 10)), (4, fz_i (pq / 10)), (0, fz_r 53), (1, fz_i pq), (2, fz_i th), (3, fz_i wh)]) kX11_alike rfl (by decide) rfl ?_
                      refine fz_iload_n kX11_alike rfl rfl ?_
                      refine fz_sipush ⟨by decide, by decide⟩ kX11_alike rfl ?_
                      refine fz_iremN kX11_alike rfl (by omega) (by omega) (by omega) ?_
                      refine fz_istore (ls' := [(7, fz_i (th % 1000)), (6, fz_i (th / 1000)), (5, fz_i (pq % 10)), (4, fz_i (pq / 10)), (0, fz_r 53), (1, fz_i pq), (2, fz_i th), (3, fz_i wh)]) kX11_alike rfl (by decide) rfl ?_
                      refine fz_iload_n kX11_alike rfl rfl ?_
                      refine fz_if_ne (tgt := 102) kX11_alike rfl (by decide) (fun c48 => ?_) (fun c48 => ?_)
                      · refine fz_iload_n kX11_alike rfl rfl ?_
                        refine fz_iconst ⟨by decide, by decide⟩ kX11_alike rfl ?_
                        refine fz_icmp_ne (tgt := 156) kX11_alike rfl (by decide) (fun c49 => ?_) (fun c49 => ?_)
                        · refine fz_aload_n kX11_alike rfl rfl ?_
                          refine fz_iload kX11_alike rfl rfl ?_
                          refine fz_iload kX11_alike rfl rfl ?_
                          refine fz_iload kX11_alike rfl rfl ?_
                          refine fz_callV (d' := 4) (M' := mX11_receivedIn) (As := [fz_i (pq / 10), fz_i (th / 1000), fz_i (th % 1000)]) (st := []) kX11_alike rfl rfl vX11_receivedIn rfl rfl rfl rfl (Nat.le_of_ble_eq_true rfl) (Nat.le_of_ble_eq_true rfl) (by decide) (sX11_receivedIn H40 hI44 (pq / 10) (th / 1000) (th % 1000) hXw47 (by omega)) (fun H50 r51 q52 o53 => ?_)
                          obtain ⟨hI54, hf55, hXw56, y58, rfl, f57⟩ := q52
                          clear o53
                          have hf59 := fz_fr_tr hf46 hf55 (show fz_su [(74, 99999), (75, 99999)] [(60, 99999), (74, 99999), (75, 99999), (86, 99999), (87, 99999), (88, 99999)] = true from rfl)
                          refine fz_istore (ls' := [(8, fz_i y58), (7, fz_i (th % 1000)), (6, fz_i (th / 1000)), (5, fz_i (pq % 10)), (4, fz_i (pq / 10)), (0, fz_r 53), (1, fz_i pq), (2, fz_i th), (3, fz_i wh)]) kX11_alike rfl (by decide) rfl ?_
                          refine fz_aload_n kX11_alike rfl rfl ?_
                          refine fz_iload kX11_alike rfl rfl ?_
                          refine fz_callV (d' := 0) (M' := mX11_deedsOf) (As := [fz_i (pq % 10)]) (st := []) kX11_alike rfl rfl vX11_deedsOf rfl rfl rfl rfl (Nat.le_of_ble_eq_true rfl) (Nat.le_of_ble_eq_true rfl) (by decide) (sX11_deedsOf H50 hI54 (pq % 10) ) (fun H60 r61 q62 o63 => ?_)
                          obtain ⟨e64, y67, rfl, f65, f66⟩ := q62
                          subst H60
                          clear o63
                          refine fz_istore (ls' := [(9, fz_i y67), (8, fz_i y58), (7, fz_i (th % 1000)), (6, fz_i (th / 1000)), (5, fz_i (pq % 10)), (4, fz_i (pq / 10)), (0, fz_r 53), (1, fz_i pq), (2, fz_i th), (3, fz_i wh)]) kX11_alike rfl (by decide) rfl ?_
                          refine fz_aload_n kX11_alike rfl rfl ?_
                          refine fz_iload kX11_alike rfl rfl ?_
                          refine fz_iload kX11_alike rfl rfl ?_
                          refine fz_callV (d' := 0) (M' := mX11_forgets) (As := [fz_i y67, fz_i (pq / 10)]) (st := []) kX11_alike rfl rfl vX11_forgets rfl rfl rfl rfl (Nat.le_of_ble_eq_true rfl) (Nat.le_of_ble_eq_true rfl) (by decide) (sX11_forgets H50 hI54 y67 (pq / 10) ) (fun H68 r69 q70 o71 => ?_)
                          obtain ⟨hI72, hf73, rfl⟩ := q70
                          clear o71
                          have hf74 := fz_fr_tr hf59 hf73 (show fz_su [(60, 99999)] [(60, 99999), (74, 99999), (75, 99999), (86, 99999), (87, 99999), (88, 99999)] = true from rfl)
                          have hXw75 : fz_Xw H68 := fz_Xw_eq (hf73 53 19 rfl) (funext fun s => hf73 66 s rfl) (funext fun s => hf73 67 s rfl) (funext fun s => hf73 68 s rfl) (funext fun s => hf73 69 s rfl) hXw56
                          refine fz_aload_n kX11_alike rfl rfl ?_
                          refine fz_iload kX11_alike rfl rfl ?_
                          refine fz_iload kX11_alike rfl rfl ?_
                          refine fz_iload kX11_alike rfl rfl ?_
                          refine fz_callV (d' := 4) (M' := mX11_receivedIn) (As := [fz_i (pq / 10), fz_i (th / 1000), fz_i (th % 1000)]) (st := []) kX11_alike rfl rfl vX11_receivedIn rfl rfl rfl rfl (Nat.le_of_ble_eq_true rfl) (Nat.le_of_ble_eq_true rfl) (by decide) (sX11_receivedIn H68 hI72 (pq / 10) (th / 1000) (th % 1000) hXw75 (by omega)) (fun H76 r77 q78 o79 => ?_)
                          obtain ⟨hI80, hf81, hXw82, y84, rfl, f83⟩ := q78
                          clear o79
                          have hf85 := fz_fr_tr hf74 hf81 (show fz_su [(74, 99999), (75, 99999)] [(60, 99999), (74, 99999), (75, 99999), (86, 99999), (87, 99999), (88, 99999)] = true from rfl)
                          refine fz_istore (ls' := [(10, fz_i y84), (9, fz_i y67), (8, fz_i y58), (7, fz_i (th % 1000)), (6, fz_i (th / 1000)), (5, fz_i (pq % 10)), (4, fz_i (pq / 10)), (0, fz_r 53), (1, fz_i pq), (2, fz_i th), (3, fz_i wh)]) kX11_alike rfl (by decide) rfl ?_
                          refine fz_aload_n kX11_alike rfl rfl ?_
                          refine fz_iload kX11_alike rfl rfl ?_
                          refine fz_iload kX11_alike rfl rfl ?_
                          refine fz_callV (d' := 0) (M' := mX11_forgets) (As := [fz_i y67, fz_i (pq % 10)]) (st := []) kX11_alike rfl rfl vX11_forgets rfl rfl rfl rfl (Nat.le_of_ble_eq_true rfl) (Nat.le_of_ble_eq_true rfl) (by decide) (sX11_forgets H76 hI80 y67 (pq % 10) ) (fun H86 r87 q88 o89 => ?_)
                          obtain ⟨hI90, hf91, rfl⟩ := q88
                          clear o89
                          have hf92 := fz_fr_tr hf85 hf91 (show fz_su [(60, 99999)] [(60, 99999), (74, 99999), (75, 99999), (86, 99999), (87, 99999), (88, 99999)] = true from rfl)
                          have hXw93 : fz_Xw H86 := fz_Xw_eq (hf91 53 19 rfl) (funext fun s => hf91 66 s rfl) (funext fun s => hf91 67 s rfl) (funext fun s => hf91 68 s rfl) (funext fun s => hf91 69 s rfl) hXw82
                          refine fz_iload kX11_alike rfl rfl ?_
                          refine fz_iload kX11_alike rfl rfl ?_
                          refine fz_isub kX11_alike rfl ?_
                          refine fz_nmw (fun z94 e95 => ?_)
                          exact fz_iret kX11_alike rfl rfl (fun _ => ⟨hI90, hf92, hXw93, _, rfl, (by omega)⟩)
                        · refine fz_iconst ⟨by decide, by decide⟩ kX11_alike rfl ?_
                          refine fz_istore (ls' := [(8, fz_i 0), (7, fz_i (th % 1000)), (6, fz_i (th / 1000)), (5, fz_i (pq % 10)), (4, fz_i (pq / 10)), (0, fz_r 53), (1, fz_i pq), (2, fz_i th), (3, fz_i wh)]) kX11_alike rfl (by decide) rfl ?_
                          refine fz_iconst ⟨by decide, by decide⟩ kX11_alike rfl ?_
                          refine fz_istore (ls' := [(9, fz_i 0), (8, fz_i 0), (7, fz_i (th % 1000)), (6, fz_i (th / 1000)), (5, fz_i (pq % 10)), (4, fz_i (pq / 10)), (0, fz_r 53), (1, fz_i pq), (2, fz_i th), (3, fz_i wh)]) kX11_alike rfl (by decide) rfl ?_
                          have lp103 : ∀ (n102 : Nat) (x96 : Int) (x97 : Int) (H99 : fz_H), fz_Iv H99 → fz_fr [(60, 99999), (74, 99999), (75, 99999), (86, 99999), (87, 99999), (88, 99999)] h H99 → fz_Xw H99 → (0 ≤ x96 ∧ x96 ≤ 2147483647) → ((-2147483648) ≤ x97 ∧ x97 ≤ 2147483647) → ((h 53 0) - x96).toNat < n102 → fz_R 5 mX11_alike 113 [(9, fz_i x96), (8, fz_i x97), (7, fz_i (th % 1000)), (6, fz_i (th / 1000)), (5, fz_i (pq % 10)), (4, fz_i (pq / 10)), (0, fz_r 53), (1, fz_i pq), (2, fz_i th), (3, fz_i wh)] [] H99 (qX11_alike h pq th wh) := by
                            intro n102
                            induction n102 with
                            | zero => intro x96 x97 H99 hI100 hf101 hXw98 hv106 hv107 hm105; exact absurd hm105 (by omega)
                            | succ n102 ih104 =>
                              intro x96 x97 H99 hI100 hf101 hXw98 hv106 hv107 hm105
                              refine fz_iload kX11_alike rfl rfl ?_
                              refine fz_aload_n kX11_alike rfl rfl ?_
                              refine fz_getV (v := h 53 0) kX11_alike rfl rfl (hf101 53 0 rfl) ?_
                              have b108 : 0 ≤ h 53 0 ∧ h 53 0 ≤ 8 := hI.1 53 _
                              refine fz_icmp_ge (tgt := 153) kX11_alike rfl (by decide) (fun c109 => ?_) (fun c109 => ?_)
                              · refine fz_iload kX11_alike rfl rfl ?_
                                exact fz_iret kX11_alike rfl rfl (fun _ => ⟨hI100, hf101, hXw98, _, rfl, (by omega)⟩)
                              · refine fz_aload_n kX11_alike rfl rfl ?_
                                refine fz_iload kX11_alike rfl rfl ?_
                                refine fz_iload kX11_alike rfl rfl ?_
                                refine fz_iload kX11_alike rfl rfl ?_
                                refine fz_iload kX11_alike rfl rfl ?_
                                refine fz_callV (d' := 4) (M' := mX11_marksAlike) (As := [fz_i (pq / 10), fz_i (pq % 10), fz_i x96, fz_i (th % 1000)]) (st := []) kX11_alike rfl rfl vX11_marksAlike rfl rfl rfl rfl (Nat.le_of_ble_eq_true rfl) (Nat.le_of_ble_eq_true rfl) (by decide) (sX11_marksAlike H99 hI100 (pq / 10) (pq % 10) x96 (th % 1000) hXw98 (by omega)) (fun H110 r111 q112 o113 => ?_)
                                obtain ⟨hI114, hf115, hXw116, y118, rfl, f117⟩ := q112
                                clear o113
                                have hf119 := fz_fr_tr hf101 hf115 (show fz_su [(74, 99999), (75, 99999)] [(60, 99999), (74, 99999), (75, 99999), (86, 99999), (87, 99999), (88, 99999)] = true from rfl)
                                refine fz_iconst ⟨by decide, by decide⟩ kX11_alike rfl ?_
                                refine fz_icmp_ge (tgt := 147) kX11_alike rfl (by decide) (fun c120 => ?_) (fun c120 => ?_)
                                · refine fz_iincN (ls' := [(9, fz_i (x96 + 1)), (8, fz_i x97), (7, fz_i (th % 1000)), (6, fz_i (th / 1000)), (5, fz_i (pq % 10)), (4, fz_i (pq / 10)), (0, fz_r 53), (1, fz_i pq), (2, fz_i th), (3, fz_i wh)]) kX11_alike rfl (by decide) rfl (by omega) rfl ?_
                                  refine fz_goto (tgt := 113) kX11_alike rfl (by decide) ?_
                                  exact ih104 (x96 + 1) x97 H110 hI114 hf119 hXw116 (by omega) (by omega) (by omega)
                                · refine fz_iload kX11_alike rfl rfl ?_
                                  refine fz_iconst ⟨by decide, by decide⟩ kX11_alike rfl ?_
                                  refine fz_iload kX11_alike rfl rfl ?_
                                  refine fz_ishl kX11_alike rfl ?_
                                  have b121 : -2147483648 ≤ (fz_shl 1 x96) ∧ (fz_shl 1 x96) < 2147483648 := fz_b32 _
                                  refine fz_ior kX11_alike rfl ?_
                                  have b122 : -2147483648 ≤ (fz_or x97 (fz_shl 1 x96)) ∧ (fz_or x97 (fz_shl 1 x96)) < 2147483648 := fz_b32 _
                                  refine fz_istore (ls' := [(8, fz_i (fz_or x97 (fz_shl 1 x96))), (9, fz_i x96), (7, fz_i (th % 1000)), (6, fz_i (th / 1000)), (5, fz_i (pq % 10)), (4, fz_i (pq / 10)), (0, fz_r 53), (1, fz_i pq), (2, fz_i th), (3, fz_i wh)]) kX11_alike rfl (by decide) rfl ?_
                                  refine fz_iincN (ls' := [(9, fz_i (x96 + 1)), (8, fz_i (fz_or x97 (fz_shl 1 x96))), (7, fz_i (th % 1000)), (6, fz_i (th / 1000)), (5, fz_i (pq % 10)), (4, fz_i (pq / 10)), (0, fz_r 53), (1, fz_i pq), (2, fz_i th), (3, fz_i wh)]) kX11_alike rfl (by decide) rfl (by omega) rfl ?_
                                  refine fz_goto (tgt := 113) kX11_alike rfl (by decide) ?_
                                  exact ih104 (x96 + 1) (fz_or x97 (fz_shl 1 x96)) H110 hI114 hf119 hXw116 (by omega) (by omega) (by omega)
                          exact lp103 _ 0 0 H40 hI44 hf46 hXw47 (by omega) (by omega) (Nat.lt_succ_self _)
                      · refine fz_aload_n kX11_alike rfl rfl ?_
                        refine fz_iload kX11_alike rfl rfl ?_
                        refine fz_iload kX11_alike rfl rfl ?_
                        refine fz_iload kX11_alike rfl rfl ?_
                        refine fz_iload kX11_alike rfl rfl ?_
                        refine fz_callV (d' := 4) (M' := mX11_marksAlike) (As := [fz_i (pq / 10), fz_i (pq % 10), fz_i (th / 1000), fz_i (th % 1000)]) (st := []) kX11_alike rfl rfl vX11_marksAlike rfl rfl rfl rfl (Nat.le_of_ble_eq_true rfl) (Nat.le_of_ble_eq_true rfl) (by decide) (sX11_marksAlike H40 hI44 (pq / 10) (pq % 10) (th / 1000) (th % 1000) hXw47 (by omega)) (fun H123 r124 q125 o126 => ?_)
                        obtain ⟨hI127, hf128, hXw129, y131, rfl, f130⟩ := q125
                        clear o126
                        have hf132 := fz_fr_tr hf46 hf128 (show fz_su [(74, 99999), (75, 99999)] [(60, 99999), (74, 99999), (75, 99999), (86, 99999), (87, 99999), (88, 99999)] = true from rfl)
                        exact fz_iret kX11_alike rfl rfl (fun _ => ⟨hI127, hf132, hXw129, _, rfl, (by omega)⟩)
                    · exfalso; omega
                  · refine fz_if_ne (tgt := 55) kX11_alike rfl (by decide) (fun c133 => ?_) (fun c133 => ?_)
                    · exfalso; omega
                    · refine fz_ldc (x := (-2000000000)) kX11_alike rfl rfl rfl ?_
                      exact fz_iret kX11_alike rfl rfl (fun _ => ⟨hI, hf, hXw, _, rfl, (by omega)⟩)
              · refine fz_if_eq (tgt := 52) kX11_alike rfl (by decide) (fun c134 => ?_) (fun c134 => ?_)
                · refine fz_ldc (x := (-2000000000)) kX11_alike rfl rfl rfl ?_
                  exact fz_iret kX11_alike rfl rfl (fun _ => ⟨hI, hf, hXw, _, rfl, (by omega)⟩)
                · exfalso; omega
        · refine fz_if_eq (tgt := 52) kX11_alike rfl (by decide) (fun c135 => ?_) (fun c135 => ?_)
          · refine fz_ldc (x := (-2000000000)) kX11_alike rfl rfl rfl ?_
            exact fz_iret kX11_alike rfl rfl (fun _ => ⟨hI, hf, hXw, _, rfl, (by omega)⟩)
          · exfalso; omega
    · refine fz_if_eq (tgt := 52) kX11_alike rfl (by decide) (fun c136 => ?_) (fun c136 => ?_)
      · refine fz_ldc (x := (-2000000000)) kX11_alike rfl rfl rfl ?_
        exact fz_iret kX11_alike rfl rfl (fun _ => ⟨hI, hf, hXw, _, rfl, (by omega)⟩)
      · exfalso; omega

abbrev qX11_wrong (h : fz_H) (s pe t hr : Int) : fz_H → Option fz_V → Prop := fun h' r0 => fz_Iv h' ∧ fz_fr [(74, 99999), (75, 99999)] h h' ∧ fz_Xw h' ∧ ∃ r : Int, r0 = some (fz_i r) ∧ ((-2) ≤ r ∧ r ≤ 4)
set_option maxHeartbeats 1000000 in
set_option maxRecDepth 100000 in
theorem sX11_wrong (h : fz_H) (hI : fz_Iv h) (s pe t hr : Int) (hXw : fz_Xw h) (hp0 : 0 ≤ s ∧ s ≤ 5) (hp1 : 0 ≤ t ∧ t ≤ 7) : fz_R 4 mX11_wrong 0 [(0, fz_r 53), (1, fz_i s), (2, fz_i pe), (3, fz_i t), (4, fz_i hr)] [] h (qX11_wrong h s pe t hr) := by
  refine fz_knowl (fun hk => ?_)
  have hr_s : -2147483648 ≤ s ∧ s < 2147483648 := hk _ (List.Mem.tail _ (List.Mem.head _))
  have hr_pe : -2147483648 ≤ pe ∧ pe < 2147483648 := hk _ (List.Mem.tail _ (List.Mem.tail _ (List.Mem.head _)))
  have hr_t : -2147483648 ≤ t ∧ t < 2147483648 := hk _ (List.Mem.tail _ (List.Mem.tail _ (List.Mem.tail _ (List.Mem.head _))))
  have hr_hr : -2147483648 ≤ hr ∧ hr < 2147483648 := hk _ (List.Mem.tail _ (List.Mem.tail _ (List.Mem.tail _ (List.Mem.tail _ (List.Mem.head _)))))
  clear hk
  have hf : fz_fr [(74, 99999), (75, 99999)] h h := fz_fr_rf
  refine fz_iconst ⟨by decide, by decide⟩ kX11_wrong rfl ?_
  refine fz_istore (ls' := [(5, fz_i 0), (0, fz_r 53), (1, fz_i s), (2, fz_i pe), (3, fz_i t), (4, fz_i hr)]) kX11_wrong rfl (by decide) rfl ?_
  have lp7 : ∀ (n6 : Nat) (x1 : Int) (H3 : fz_H), fz_Iv H3 → fz_fr [(74, 99999), (75, 99999)] h H3 → fz_Xw H3 → (0 ≤ x1 ∧ x1 ≤ 2147483647) → (5 - x1).toNat < n6 → fz_R 4 mX11_wrong 3 [(5, fz_i x1), (0, fz_r 53), (1, fz_i s), (2, fz_i pe), (3, fz_i t), (4, fz_i hr)] [] H3 (qX11_wrong h s pe t hr) := by
    intro n6
    induction n6 with
    | zero => intro x1 H3 hI4 hf5 hXw2 hv10 hm9; exact absurd hm9 (by omega)
    | succ n6 ih8 =>
      intro x1 H3 hI4 hf5 hXw2 hv10 hm9
      refine fz_iload kX11_wrong rfl rfl ?_
      refine fz_iconst ⟨by decide, by decide⟩ kX11_wrong rfl ?_
      refine fz_icmp_ge (tgt := 56) kX11_wrong rfl (by decide) (fun c11 => ?_) (fun c11 => ?_)
      · refine fz_bipush ⟨by decide, by decide⟩ kX11_wrong rfl ?_
        exact fz_iret kX11_wrong rfl rfl (fun _ => ⟨hI4, hf5, hXw2, _, rfl, (by omega)⟩)
      · refine fz_iload kX11_wrong rfl rfl ?_
        refine fz_aload_n kX11_wrong rfl rfl ?_
        refine fz_getR (t := 84) kX11_wrong rfl rfl ?_
        refine fz_iload_n kX11_wrong rfl rfl ?_
        refine fz_ialdV (n := 6) (v := h 84 (s.toNat)) kX11_wrong rfl rfl (by omega) (by omega) (hf5 84 _ rfl) ?_
        have b12 : 0 ≤ h 84 (s.toNat) ∧ h 84 (s.toNat) ≤ 60 := hI.1 84 _
        refine fz_icmp_ge (tgt := 56) kX11_wrong rfl (by decide) (fun c13 => ?_) (fun c13 => ?_)
        · refine fz_bipush ⟨by decide, by decide⟩ kX11_wrong rfl ?_
          exact fz_iret kX11_wrong rfl rfl (fun _ => ⟨hI4, hf5, hXw2, _, rfl, (by omega)⟩)
        · refine fz_aload_n kX11_wrong rfl rfl ?_
          refine fz_getR (t := 85) kX11_wrong rfl rfl ?_
          refine fz_bipush ⟨by decide, by decide⟩ kX11_wrong rfl ?_
          refine fz_iload_n kX11_wrong rfl rfl ?_
          refine fz_imulN kX11_wrong rfl (by omega) ?_
          refine fz_iload kX11_wrong rfl rfl ?_
          refine fz_iaddN kX11_wrong rfl (by omega) ?_
          refine fz_laldV (n := 360) (v := h 85 (((60 * s) + x1).toNat)) kX11_wrong rfl rfl (by omega) (by omega) (hf5 85 _ rfl) ?_
          have b14 : (-9223372036854775808) ≤ h 85 (((60 * s) + x1).toNat) ∧ h 85 (((60 * s) + x1).toNat) ≤ 9223372036854775807 := hI.1 85 _
          refine fz_aload_n kX11_wrong rfl rfl ?_
          refine fz_iload_n kX11_wrong rfl rfl ?_
          refine fz_iload kX11_wrong rfl rfl ?_
          refine fz_iload_n kX11_wrong rfl rfl ?_
          refine fz_iload kX11_wrong rfl rfl ?_
          refine fz_callV (d' := 3) (M' := mX11_saidOf) (As := [fz_i pe, fz_i x1, fz_i t, fz_i hr]) (st := [fz_l (h 85 (((60 * s) + x1).toNat))]) kX11_wrong rfl rfl vX11_saidOf rfl rfl rfl rfl (Nat.le_of_ble_eq_true rfl) (Nat.le_of_ble_eq_true rfl) (by decide) (sX11_saidOf H3 hI4 pe x1 t hr hXw2 (by omega)) (fun H15 r16 q17 o18 => ?_)
          obtain ⟨hI19, hf20, hXw21, y23, rfl, f22⟩ := q17
          clear o18
          have hf24 := fz_fr_tr hf5 hf20 (show fz_su [(74, 99999), (75, 99999)] [(74, 99999), (75, 99999)] = true from rfl)
          refine fz_i2l kX11_wrong rfl ?_
          refine fz_lcmp kX11_wrong rfl ?_
          have b25 := fz_cmp_c (h 85 (((60 * s) + x1).toNat)) y23
          refine fz_if_eq (tgt := 50) kX11_wrong rfl (by decide) (fun c26 => ?_) (fun c26 => ?_)
          · refine fz_iincN (ls' := [(5, fz_i (x1 + 1)), (0, fz_r 53), (1, fz_i s), (2, fz_i pe), (3, fz_i t), (4, fz_i hr)]) kX11_wrong rfl (by decide) rfl (by omega) rfl ?_
            refine fz_goto (tgt := 3) kX11_wrong rfl (by decide) ?_
            exact ih8 (x1 + 1) H15 hI19 hf24 hXw21 (by omega) (by omega)
          · refine fz_iload kX11_wrong rfl rfl ?_
            exact fz_iret kX11_wrong rfl rfl (fun _ => ⟨hI19, hf24, hXw21, _, rfl, (by omega)⟩)
  exact lp7 _ 0 h hI hf hXw (by omega) (Nat.lt_succ_self _)

abbrev qX11_judge (h : fz_H) (s on th : Int) : fz_H → Option fz_V → Prop := fun h' r0 => fz_Iv h' ∧ fz_fr [(74, 99999), (75, 99999), (86, 99999), (87, 99999), (88, 99999)] h h' ∧ fz_Xw h' ∧ ∃ r : Int, r0 = some (fz_i r) ∧ ((-12) ≤ r ∧ r ≤ 4)
set_option maxHeartbeats 1000000 in
set_option maxRecDepth 100000 in
theorem sX11_judge (h : fz_H) (hI : fz_Iv h) (s on th : Int) (hXw : fz_Xw h) : fz_R 5 mX11_judge 0 [(0, fz_r 53), (1, fz_i s), (2, fz_i on), (3, fz_i th)] [] h (qX11_judge h s on th) := by
  refine fz_knowl (fun hk => ?_)
  have hr_s : -2147483648 ≤ s ∧ s < 2147483648 := hk _ (List.Mem.tail _ (List.Mem.head _))
  have hr_on : -2147483648 ≤ on ∧ on < 2147483648 := hk _ (List.Mem.tail _ (List.Mem.tail _ (List.Mem.head _)))
  have hr_th : -2147483648 ≤ th ∧ th < 2147483648 := hk _ (List.Mem.tail _ (List.Mem.tail _ (List.Mem.tail _ (List.Mem.head _))))
  clear hk
  have hf : fz_fr [(74, 99999), (75, 99999), (86, 99999), (87, 99999), (88, 99999)] h h := fz_fr_rf
  refine fz_iload_n kX11_judge rfl rfl ?_
  refine fz_callS (d' := 1) (M' := mX11_isShelf) (As := [fz_i s]) (st := []) kX11_judge rfl rfl vX11_isShelf rfl rfl (Nat.le_of_ble_eq_true rfl) (Nat.le_of_ble_eq_true rfl) (by decide) (sX11_isShelf h hI s ) (fun H1 r2 q3 o4 => ?_)
  obtain ⟨e5, y6, rfl, p7⟩ := q3
  subst H1
  clear o4
  rcases p7 with ⟨rfl, c8⟩ | ⟨rfl, c8⟩
  · refine fz_if_eq (tgt := 22) kX11_judge rfl (by decide) (fun c9 => ?_) (fun c9 => ?_)
    · exfalso; omega
    · refine fz_iload_n kX11_judge rfl rfl ?_
      refine fz_callS (d' := 1) (M' := mX11_isPerson) (As := [fz_i on]) (st := []) kX11_judge rfl rfl vX11_isPerson rfl rfl (Nat.le_of_ble_eq_true rfl) (Nat.le_of_ble_eq_true rfl) (by decide) (sX11_isPerson h hI on ) (fun H10 r11 q12 o13 => ?_)
      obtain ⟨e14, y15, rfl, p16⟩ := q12
      subst H10
      clear o13
      rcases p16 with ⟨rfl, c17⟩ | ⟨rfl, c17⟩
      · refine fz_if_eq (tgt := 22) kX11_judge rfl (by decide) (fun c18 => ?_) (fun c18 => ?_)
        · exfalso; omega
        · refine fz_aload_n kX11_judge rfl rfl ?_
          refine fz_iload_n kX11_judge rfl rfl ?_
          have b19 : 0 ≤ h 53 0 ∧ h 53 0 ≤ 8 := hI.1 53 _
          refine fz_callV (d' := 2) (M' := mX11_isWhen) (As := [fz_i th]) (st := []) kX11_judge rfl rfl vX11_isWhen rfl rfl rfl rfl (Nat.le_of_ble_eq_true rfl) (Nat.le_of_ble_eq_true rfl) (by decide) (sX11_isWhen h hI th ) (fun H20 r21 q22 o23 => ?_)
          obtain ⟨e24, y25, rfl, p26⟩ := q22
          subst H20
          clear o23
          rcases p26 with ⟨rfl, c27⟩ | ⟨rfl, c27⟩
          · refine fz_if_ne (tgt := 24) kX11_judge rfl (by decide) (fun c28 => ?_) (fun c28 => ?_)
            · refine fz_aload_n kX11_judge rfl rfl ?_
              refine fz_iload_n kX11_judge rfl rfl ?_
              refine fz_callV (d' := 0) (M' := mX11_noRow) (As := [fz_i s]) (st := []) kX11_judge rfl rfl vX11_noRow rfl rfl rfl rfl (Nat.le_of_ble_eq_true rfl) (Nat.le_of_ble_eq_true rfl) (by decide) (sX11_noRow h hI s (by omega)) (fun H29 r30 q31 o32 => ?_)
              obtain ⟨e33, y35, rfl, f34⟩ := q31
              subst H29
              clear o32
              refine fz_istore (ls' := [(4, fz_i y35), (0, fz_r 53), (1, fz_i s), (2, fz_i on), (3, fz_i th)]) kX11_judge rfl (by decide) rfl ?_
              refine fz_iload kX11_judge rfl rfl ?_
              refine fz_if_ge (tgt := 39) kX11_judge rfl (by decide) (fun c36 => ?_) (fun c36 => ?_)
              · refine fz_aload_n kX11_judge rfl rfl ?_
                refine fz_callV (d' := 3) (M' := mX11_allHear) (As := []) (st := []) kX11_judge rfl rfl vX11_allHear rfl rfl rfl rfl (Nat.le_of_ble_eq_true rfl) (Nat.le_of_ble_eq_true rfl) (by decide) (sX11_allHear h hI  ) (fun H37 r38 q39 o40 => ?_)
                obtain ⟨hI41, hf42, rfl⟩ := q39
                clear o40
                have hf43 := fz_fr_tr hf hf42 (show fz_su [(86, 99999), (87, 99999), (88, 99999)] [(74, 99999), (75, 99999), (86, 99999), (87, 99999), (88, 99999)] = true from rfl)
                have hXw44 : fz_Xw H37 := fz_Xw_eq (hf42 53 19 rfl) (funext fun s => hf42 66 s rfl) (funext fun s => hf42 67 s rfl) (funext fun s => hf42 68 s rfl) (funext fun s => hf42 69 s rfl) hXw
                refine fz_aload_n kX11_judge rfl rfl ?_
                refine fz_iload_n kX11_judge rfl rfl ?_
                refine fz_iload_n kX11_judge rfl rfl ?_
                refine fz_iload_n kX11_judge rfl rfl ?_
                refine fz_sipush ⟨by decide, by decide⟩ kX11_judge rfl ?_
                refine fz_idivN kX11_judge rfl (by omega) (by omega) (by omega) ?_
                refine fz_iload_n kX11_judge rfl rfl ?_
                refine fz_sipush ⟨by decide, by decide⟩ kX11_judge rfl ?_
                refine fz_iremN kX11_judge rfl (by omega) (by omega) (by omega) ?_
                refine fz_callV (d' := 4) (M' := mX11_wrong) (As := [fz_i s, fz_i on, fz_i (th / 1000), fz_i (th % 1000)]) (st := []) kX11_judge rfl rfl vX11_wrong rfl rfl rfl rfl (Nat.le_of_ble_eq_true rfl) (Nat.le_of_ble_eq_true rfl) (by decide) (sX11_wrong H37 hI41 s on (th / 1000) (th % 1000) hXw44 (by omega) (by omega)) (fun H45 r46 q47 o48 => ?_)
                obtain ⟨hI49, hf50, hXw51, y53, rfl, f52⟩ := q47
                clear o48
                have hf54 := fz_fr_tr hf43 hf50 (show fz_su [(74, 99999), (75, 99999)] [(74, 99999), (75, 99999), (86, 99999), (87, 99999), (88, 99999)] = true from rfl)
                exact fz_iret kX11_judge rfl rfl (fun _ => ⟨hI49, hf54, hXw51, _, rfl, (by omega)⟩)
              · refine fz_iload kX11_judge rfl rfl ?_
                exact fz_iret kX11_judge rfl rfl (fun _ => ⟨hI, hf, hXw, _, rfl, (by omega)⟩)
            · exfalso; omega
          · refine fz_if_ne (tgt := 24) kX11_judge rfl (by decide) (fun c55 => ?_) (fun c55 => ?_)
            · exfalso; omega
            · refine fz_iconst ⟨by decide, by decide⟩ kX11_judge rfl ?_
              exact fz_iret kX11_judge rfl rfl (fun _ => ⟨hI, hf, hXw, _, rfl, (by omega)⟩)
      · refine fz_if_eq (tgt := 22) kX11_judge rfl (by decide) (fun c56 => ?_) (fun c56 => ?_)
        · refine fz_iconst ⟨by decide, by decide⟩ kX11_judge rfl ?_
          exact fz_iret kX11_judge rfl rfl (fun _ => ⟨hI, hf, hXw, _, rfl, (by omega)⟩)
        · exfalso; omega
  · refine fz_if_eq (tgt := 22) kX11_judge rfl (by decide) (fun c57 => ?_) (fun c57 => ?_)
    · refine fz_iconst ⟨by decide, by decide⟩ kX11_judge rfl ?_
      exact fz_iret kX11_judge rfl rfl (fun _ => ⟨hI, hf, hXw, _, rfl, (by omega)⟩)
    · exfalso; omega

abbrev qX11_which (h : fz_H) (s on th wh : Int) : fz_H → Option fz_V → Prop := fun h' r0 => fz_Iv h' ∧ fz_fr [(60, 99999), (74, 99999), (75, 99999), (86, 99999), (87, 99999), (88, 99999)] h h' ∧ fz_Xw h' ∧ ∃ r : Int, r0 = some (fz_i r) ∧ ((-2147483648) ≤ r ∧ r ≤ 2147483647)
set_option maxHeartbeats 1000000 in
set_option maxRecDepth 100000 in
theorem sX11_which (h : fz_H) (hI : fz_Iv h) (s on th wh : Int) (hXw : fz_Xw h) : fz_R 5 mX11_which 0 [(0, fz_r 53), (1, fz_i s), (2, fz_i on), (3, fz_i th), (4, fz_i wh)] [] h (qX11_which h s on th wh) := by
  refine fz_knowl (fun hk => ?_)
  have hr_s : -2147483648 ≤ s ∧ s < 2147483648 := hk _ (List.Mem.tail _ (List.Mem.head _))
  have hr_on : -2147483648 ≤ on ∧ on < 2147483648 := hk _ (List.Mem.tail _ (List.Mem.tail _ (List.Mem.head _)))
  have hr_th : -2147483648 ≤ th ∧ th < 2147483648 := hk _ (List.Mem.tail _ (List.Mem.tail _ (List.Mem.tail _ (List.Mem.head _))))
  have hr_wh : -2147483648 ≤ wh ∧ wh < 2147483648 := hk _ (List.Mem.tail _ (List.Mem.tail _ (List.Mem.tail _ (List.Mem.tail _ (List.Mem.head _)))))
  clear hk
  have hf : fz_fr [(60, 99999), (74, 99999), (75, 99999), (86, 99999), (87, 99999), (88, 99999)] h h := fz_fr_rf
  refine fz_iload_n kX11_which rfl rfl ?_
  refine fz_callS (d' := 1) (M' := mX11_isShelf) (As := [fz_i s]) (st := []) kX11_which rfl rfl vX11_isShelf rfl rfl (Nat.le_of_ble_eq_true rfl) (Nat.le_of_ble_eq_true rfl) (by decide) (sX11_isShelf h hI s ) (fun H1 r2 q3 o4 => ?_)
  obtain ⟨e5, y6, rfl, p7⟩ := q3
  subst H1
  clear o4
  rcases p7 with ⟨rfl, c8⟩ | ⟨rfl, c8⟩
  · refine fz_if_eq (tgt := 32) kX11_which rfl (by decide) (fun c9 => ?_) (fun c9 => ?_)
    · exfalso; omega
    · refine fz_iload_n kX11_which rfl rfl ?_
      refine fz_callS (d' := 1) (M' := mX11_isPerson) (As := [fz_i on]) (st := []) kX11_which rfl rfl vX11_isPerson rfl rfl (Nat.le_of_ble_eq_true rfl) (Nat.le_of_ble_eq_true rfl) (by decide) (sX11_isPerson h hI on ) (fun H10 r11 q12 o13 => ?_)
      obtain ⟨e14, y15, rfl, p16⟩ := q12
      subst H10
      clear o13
      rcases p16 with ⟨rfl, c17⟩ | ⟨rfl, c17⟩
      · refine fz_if_eq (tgt := 32) kX11_which rfl (by decide) (fun c18 => ?_) (fun c18 => ?_)
        · exfalso; omega
        · refine fz_aload_n kX11_which rfl rfl ?_
          refine fz_iload_n kX11_which rfl rfl ?_
          have b19 : 0 ≤ h 53 0 ∧ h 53 0 ≤ 8 := hI.1 53 _
          refine fz_callV (d' := 2) (M' := mX11_isWhen) (As := [fz_i th]) (st := []) kX11_which rfl rfl vX11_isWhen rfl rfl rfl rfl (Nat.le_of_ble_eq_true rfl) (Nat.le_of_ble_eq_true rfl) (by decide) (sX11_isWhen h hI th ) (fun H20 r21 q22 o23 => ?_)
          obtain ⟨e24, y25, rfl, p26⟩ := q22
          subst H20
          clear o23
          rcases p26 with ⟨rfl, c27⟩ | ⟨rfl, c27⟩
          · refine fz_if_eq (tgt := 32) kX11_which rfl (by decide) (fun c28 => ?_) (fun c28 => ?_)
            · exfalso; omega
            · refine fz_iload kX11_which rfl rfl ?_
              refine fz_iconst ⟨by decide, by decide⟩ kX11_which rfl ?_
              refine fz_iconst ⟨by decide, by decide⟩ kX11_which rfl ?_
              refine fz_callS (d' := 0) (M' := mX11_within) (As := [fz_i wh, fz_i 0, fz_i 2]) (st := []) kX11_which rfl rfl vX11_within rfl rfl (Nat.le_of_ble_eq_true rfl) (Nat.le_of_ble_eq_true rfl) (by decide) (sX11_within h hI wh 0 2 ) (fun H29 r30 q31 o32 => ?_)
              obtain ⟨e33, y34, rfl, p35⟩ := q31
              subst H29
              clear o32
              rcases p35 with ⟨rfl, c36⟩ | ⟨rfl, c36⟩
              · refine fz_if_ne (tgt := 34) kX11_which rfl (by decide) (fun c37 => ?_) (fun c37 => ?_)
                · refine fz_aload_n kX11_which rfl rfl ?_
                  refine fz_iload_n kX11_which rfl rfl ?_
                  refine fz_callV (d' := 0) (M' := mX11_noRow) (As := [fz_i s]) (st := []) kX11_which rfl rfl vX11_noRow rfl rfl rfl rfl (Nat.le_of_ble_eq_true rfl) (Nat.le_of_ble_eq_true rfl) (by decide) (sX11_noRow h hI s (by omega)) (fun H38 r39 q40 o41 => ?_)
                  obtain ⟨e42, y44, rfl, f43⟩ := q40
                  subst H38
                  clear o41
                  refine fz_istore (ls' := [(5, fz_i y44), (0, fz_r 53), (1, fz_i s), (2, fz_i on), (3, fz_i th), (4, fz_i wh)]) kX11_which rfl (by decide) rfl ?_
                  refine fz_iload kX11_which rfl rfl ?_
                  refine fz_if_ge (tgt := 49) kX11_which rfl (by decide) (fun c45 => ?_) (fun c45 => ?_)
                  · refine fz_aload_n kX11_which rfl rfl ?_
                    refine fz_callV (d' := 3) (M' := mX11_allHear) (As := []) (st := []) kX11_which rfl rfl vX11_allHear rfl rfl rfl rfl (Nat.le_of_ble_eq_true rfl) (Nat.le_of_ble_eq_true rfl) (by decide) (sX11_allHear h hI  ) (fun H46 r47 q48 o49 => ?_)
                    obtain ⟨hI50, hf51, rfl⟩ := q48
                    clear o49
                    have hf52 := fz_fr_tr hf hf51 (show fz_su [(86, 99999), (87, 99999), (88, 99999)] [(60, 99999), (74, 99999), (75, 99999), (86, 99999), (87, 99999), (88, 99999)] = true from rfl)
                    have hXw53 : fz_Xw H46 := fz_Xw_eq (hf51 53 19 rfl) (funext fun s => hf51 66 s rfl) (funext fun s => hf51 67 s rfl) (funext fun s => hf51 68 s rfl) (funext fun s => hf51 69 s rfl) hXw
                    refine fz_aload_n kX11_which rfl rfl ?_
                    refine fz_iload_n kX11_which rfl rfl ?_
                    refine fz_callV (d' := 0) (M' := mX11_deedsOf) (As := [fz_i on]) (st := []) kX11_which rfl rfl vX11_deedsOf rfl rfl rfl rfl (Nat.le_of_ble_eq_true rfl) (Nat.le_of_ble_eq_true rfl) (by decide) (sX11_deedsOf H46 hI50 on ) (fun H54 r55 q56 o57 => ?_)
                    obtain ⟨e58, y61, rfl, f59, f60⟩ := q56
                    subst H54
                    clear o57
                    refine fz_istore (ls' := [(6, fz_i y61), (5, fz_i y44), (0, fz_r 53), (1, fz_i s), (2, fz_i on), (3, fz_i th), (4, fz_i wh)]) kX11_which rfl (by decide) rfl ?_
                    refine fz_iconst ⟨by decide, by decide⟩ kX11_which rfl ?_
                    refine fz_istore (ls' := [(7, fz_i 0), (6, fz_i y61), (5, fz_i y44), (0, fz_r 53), (1, fz_i s), (2, fz_i on), (3, fz_i th), (4, fz_i wh)]) kX11_which rfl (by decide) rfl ?_
                    refine fz_bipush ⟨by decide, by decide⟩ kX11_which rfl ?_
                    refine fz_istore (ls' := [(8, fz_i (-2)), (7, fz_i 0), (6, fz_i y61), (5, fz_i y44), (0, fz_r 53), (1, fz_i s), (2, fz_i on), (3, fz_i th), (4, fz_i wh)]) kX11_which rfl (by decide) rfl ?_
                    refine fz_iload kX11_which rfl rfl ?_
                    refine fz_istore (ls' := [(9, fz_i y61), (8, fz_i (-2)), (7, fz_i 0), (6, fz_i y61), (5, fz_i y44), (0, fz_r 53), (1, fz_i s), (2, fz_i on), (3, fz_i th), (4, fz_i wh)]) kX11_which rfl (by decide) rfl ?_
                    refine fz_iload kX11_which rfl rfl ?_
                    refine fz_istore (ls' := [(10, fz_i y61), (9, fz_i y61), (8, fz_i (-2)), (7, fz_i 0), (6, fz_i y61), (5, fz_i y44), (0, fz_r 53), (1, fz_i s), (2, fz_i on), (3, fz_i th), (4, fz_i wh)]) kX11_which rfl (by decide) rfl ?_
                    have lp71 : ∀ (n70 : Nat) (x62 : Int) (x63 : Int) (x64 : Int) (x65 : Int) (H67 : fz_H), fz_Iv H67 → fz_fr [(60, 99999), (74, 99999), (75, 99999), (86, 99999), (87, 99999), (88, 99999)] h H67 → fz_Xw H67 → ((-1) ≤ x62 ∧ x62 ≤ 2047) → ((-2147483648) ≤ x63 ∧ x63 ≤ 2147483647) → ((-2147483648) ≤ x64 ∧ x64 ≤ 2147483647) → (0 ≤ x65 ∧ x65 ≤ 2048) → (x65 + x62 ≤ 2047) → (x62 + 1 - 0).toNat < n70 → fz_R 5 mX11_which 75 [(10, fz_i x62), (9, fz_i x63), (8, fz_i x64), (7, fz_i x65), (6, fz_i y61), (5, fz_i y44), (0, fz_r 53), (1, fz_i s), (2, fz_i on), (3, fz_i th), (4, fz_i wh)] [] H67 (qX11_which h s on th wh) := by
                      intro n70
                      induction n70 with
                      | zero => intro x62 x63 x64 x65 H67 hI68 hf69 hXw66 hv74 hv75 hv76 hv77 hv78 hm73; exact absurd hm73 (by omega)
                      | succ n70 ih72 =>
                        intro x62 x63 x64 x65 H67 hI68 hf69 hXw66 hv74 hv75 hv76 hv77 hv78 hm73
                        refine fz_iload kX11_which rfl rfl ?_
                        refine fz_if_lt (tgt := 169) kX11_which rfl (by decide) (fun c79 => ?_) (fun c79 => ?_)
                        · refine fz_iload kX11_which rfl rfl ?_
                          refine fz_if_ne (tgt := 179) kX11_which rfl (by decide) (fun c80 => ?_) (fun c80 => ?_)
                          · refine fz_iload kX11_which rfl rfl ?_
                            refine fz_iconst ⟨by decide, by decide⟩ kX11_which rfl ?_
                            refine fz_icmp_eq (tgt := 190) kX11_which rfl (by decide) (fun c81 => ?_) (fun c81 => ?_)
                            · refine fz_iload kX11_which rfl rfl ?_
                              refine fz_goto (tgt := 197) kX11_which rfl (by decide) ?_
                              exact fz_iret kX11_which rfl rfl (fun _ => ⟨hI68, hf69, hXw66, _, rfl, (by omega)⟩)
                            · refine fz_iload kX11_which rfl rfl ?_
                              refine fz_if_ne (tgt := 195) kX11_which rfl (by decide) (fun c82 => ?_) (fun c82 => ?_)
                              · refine fz_iload kX11_which rfl rfl ?_
                                exact fz_iret kX11_which rfl rfl (fun _ => ⟨hI68, hf69, hXw66, _, rfl, (by omega)⟩)
                              · refine fz_iload kX11_which rfl rfl ?_
                                refine fz_goto (tgt := 197) kX11_which rfl (by decide) ?_
                                exact fz_iret kX11_which rfl rfl (fun _ => ⟨hI68, hf69, hXw66, _, rfl, (by omega)⟩)
                          · refine fz_iload kX11_which rfl rfl ?_
                            refine fz_goto (tgt := 197) kX11_which rfl (by decide) ?_
                            exact fz_iret kX11_which rfl rfl (fun _ => ⟨hI68, hf69, hXw66, _, rfl, (by omega)⟩)
                        · refine fz_iload kX11_which rfl rfl ?_
                          refine fz_iload kX11_which rfl rfl ?_
                          refine fz_iconst ⟨by decide, by decide⟩ kX11_which rfl ?_
                          refine fz_ixor kX11_which rfl ?_
                          have b83 : -2147483648 ≤ (fz_xor y61 (-1)) ∧ (fz_xor y61 (-1)) < 2147483648 := fz_b32 _
                          refine fz_iand kX11_which rfl ?_
                          have b84 : -2147483648 ≤ (fz_and x62 (fz_xor y61 (-1))) ∧ (fz_and x62 (fz_xor y61 (-1))) < 2147483648 := fz_b32 _
                          refine fz_if_eq (tgt := 93) kX11_which rfl (by decide) (fun c85 => ?_) (fun c85 => ?_)
                          · refine fz_aload_n kX11_which rfl rfl ?_
                            refine fz_iload kX11_which rfl rfl ?_
                            refine fz_iload kX11_which rfl rfl ?_
                            refine fz_iconst ⟨by decide, by decide⟩ kX11_which rfl ?_
                            refine fz_ixor kX11_which rfl ?_
                            have b86 : -2147483648 ≤ (fz_xor x62 (-1)) ∧ (fz_xor x62 (-1)) < 2147483648 := fz_b32 _
                            refine fz_iand kX11_which rfl ?_
                            have b87 : -2147483648 ≤ (fz_and y61 (fz_xor x62 (-1))) ∧ (fz_and y61 (fz_xor x62 (-1))) < 2147483648 := fz_b32 _
                            refine fz_bipush ⟨by decide, by decide⟩ kX11_which rfl ?_
                            refine fz_callV (d' := 0) (M' := mX11_forgets) (As := [fz_i (fz_and y61 (fz_xor x62 (-1))), fz_i (-2)]) (st := []) kX11_which rfl rfl vX11_forgets rfl rfl rfl rfl (Nat.le_of_ble_eq_true rfl) (Nat.le_of_ble_eq_true rfl) (by decide) (sX11_forgets H67 hI68 (fz_and y61 (fz_xor x62 (-1))) (-2) ) (fun H88 r89 q90 o91 => ?_)
                            obtain ⟨hI92, hf93, rfl⟩ := q90
                            clear o91
                            have hf94 := fz_fr_tr hf69 hf93 (show fz_su [(60, 99999)] [(60, 99999), (74, 99999), (75, 99999), (86, 99999), (87, 99999), (88, 99999)] = true from rfl)
                            have hXw95 : fz_Xw H88 := fz_Xw_eq (hf93 53 19 rfl) (funext fun s => hf93 66 s rfl) (funext fun s => hf93 67 s rfl) (funext fun s => hf93 68 s rfl) (funext fun s => hf93 69 s rfl) hXw66
                            refine fz_aload_n kX11_which rfl rfl ?_
                            refine fz_iload_n kX11_which rfl rfl ?_
                            refine fz_iload_n kX11_which rfl rfl ?_
                            refine fz_iload_n kX11_which rfl rfl ?_
                            refine fz_sipush ⟨by decide, by decide⟩ kX11_which rfl ?_
                            refine fz_idivN kX11_which rfl (by omega) (by omega) (by omega) ?_
                            refine fz_iload_n kX11_which rfl rfl ?_
                            refine fz_sipush ⟨by decide, by decide⟩ kX11_which rfl ?_
                            refine fz_iremN kX11_which rfl (by omega) (by omega) (by omega) ?_
                            refine fz_callV (d' := 4) (M' := mX11_wrong) (As := [fz_i s, fz_i on, fz_i (th / 1000), fz_i (th % 1000)]) (st := []) kX11_which rfl rfl vX11_wrong rfl rfl rfl rfl (Nat.le_of_ble_eq_true rfl) (Nat.le_of_ble_eq_true rfl) (by decide) (sX11_wrong H88 hI92 s on (th / 1000) (th % 1000) hXw95 (by omega) (by omega)) (fun H96 r97 q98 o99 => ?_)
                            obtain ⟨hI100, hf101, hXw102, y104, rfl, f103⟩ := q98
                            clear o99
                            have hf105 := fz_fr_tr hf94 hf101 (show fz_su [(74, 99999), (75, 99999)] [(60, 99999), (74, 99999), (75, 99999), (86, 99999), (87, 99999), (88, 99999)] = true from rfl)
                            refine fz_bipush ⟨by decide, by decide⟩ kX11_which rfl ?_
                            refine fz_icmp_ne (tgt := 131) kX11_which rfl (by decide) (fun c106 => ?_) (fun c106 => ?_)
                            · refine fz_iconst ⟨by decide, by decide⟩ kX11_which rfl ?_
                              refine fz_istore (ls' := [(11, fz_i 0), (10, fz_i x62), (9, fz_i x63), (8, fz_i x64), (7, fz_i x65), (6, fz_i y61), (5, fz_i y44), (0, fz_r 53), (1, fz_i s), (2, fz_i on), (3, fz_i th), (4, fz_i wh)]) kX11_which rfl (by decide) rfl ?_
                              refine fz_aload_n kX11_which rfl rfl ?_
                              refine fz_iload kX11_which rfl rfl ?_
                              refine fz_iload_n kX11_which rfl rfl ?_
                              refine fz_callV (d' := 0) (M' := mX11_forgets) (As := [fz_i y61, fz_i on]) (st := []) kX11_which rfl rfl vX11_forgets rfl rfl rfl rfl (Nat.le_of_ble_eq_true rfl) (Nat.le_of_ble_eq_true rfl) (by decide) (sX11_forgets H96 hI100 y61 on ) (fun H107 r108 q109 o110 => ?_)
                              obtain ⟨hI111, hf112, rfl⟩ := q109
                              clear o110
                              have hf113 := fz_fr_tr hf105 hf112 (show fz_su [(60, 99999)] [(60, 99999), (74, 99999), (75, 99999), (86, 99999), (87, 99999), (88, 99999)] = true from rfl)
                              have hXw114 : fz_Xw H107 := fz_Xw_eq (hf112 53 19 rfl) (funext fun s => hf112 66 s rfl) (funext fun s => hf112 67 s rfl) (funext fun s => hf112 68 s rfl) (funext fun s => hf112 69 s rfl) hXw102
                              refine fz_iload kX11_which rfl rfl ?_
                              refine fz_if_ne (tgt := 149) kX11_which rfl (by decide) (fun c115 => ?_) (fun c115 => ?_)
                              · exfalso; omega
                              · refine fz_goto (tgt := 163) kX11_which rfl (by decide) ?_
                                refine fz_iincN (ls' := [(10, fz_i (x62 + (-1))), (11, fz_i 0), (9, fz_i x63), (8, fz_i x64), (7, fz_i x65), (6, fz_i y61), (5, fz_i y44), (0, fz_r 53), (1, fz_i s), (2, fz_i on), (3, fz_i th), (4, fz_i wh)]) kX11_which rfl (by decide) rfl (by omega) rfl ?_
                                refine fz_goto (tgt := 75) kX11_which rfl (by decide) ?_
                                refine fz_sub (fz_pk_sub (ls' := [(10, fz_i (x62 + (-1))), (9, fz_i x63), (8, fz_i x64), (7, fz_i x65), (6, fz_i y61), (5, fz_i y44), (0, fz_r 53), (1, fz_i s), (2, fz_i on), (3, fz_i th), (4, fz_i wh)]) [0, 2, 3, 4, 5, 6, 7, 8, 9, 10, 11] rfl) ?_
                                exact ih72 (x62 + (-1)) x63 x64 x65 H107 hI111 hf113 hXw114 (by omega) (by omega) (by omega) (by omega) (by omega) (by omega)
                            · refine fz_iconst ⟨by decide, by decide⟩ kX11_which rfl ?_
                              refine fz_goto (tgt := 132) kX11_which rfl (by decide) ?_
                              refine fz_istore (ls' := [(11, fz_i 1), (10, fz_i x62), (9, fz_i x63), (8, fz_i x64), (7, fz_i x65), (6, fz_i y61), (5, fz_i y44), (0, fz_r 53), (1, fz_i s), (2, fz_i on), (3, fz_i th), (4, fz_i wh)]) kX11_which rfl (by decide) rfl ?_
                              refine fz_aload_n kX11_which rfl rfl ?_
                              refine fz_iload kX11_which rfl rfl ?_
                              refine fz_iload_n kX11_which rfl rfl ?_
                              refine fz_callV (d' := 0) (M' := mX11_forgets) (As := [fz_i y61, fz_i on]) (st := []) kX11_which rfl rfl vX11_forgets rfl rfl rfl rfl (Nat.le_of_ble_eq_true rfl) (Nat.le_of_ble_eq_true rfl) (by decide) (sX11_forgets H96 hI100 y61 on ) (fun H116 r117 q118 o119 => ?_)
                              obtain ⟨hI120, hf121, rfl⟩ := q118
                              clear o119
                              have hf122 := fz_fr_tr hf105 hf121 (show fz_su [(60, 99999)] [(60, 99999), (74, 99999), (75, 99999), (86, 99999), (87, 99999), (88, 99999)] = true from rfl)
                              have hXw123 : fz_Xw H116 := fz_Xw_eq (hf121 53 19 rfl) (funext fun s => hf121 66 s rfl) (funext fun s => hf121 67 s rfl) (funext fun s => hf121 68 s rfl) (funext fun s => hf121 69 s rfl) hXw102
                              refine fz_iload kX11_which rfl rfl ?_
                              refine fz_if_ne (tgt := 149) kX11_which rfl (by decide) (fun c124 => ?_) (fun c124 => ?_)
                              · refine fz_iincN (ls' := [(7, fz_i (x65 + 1)), (11, fz_i 1), (10, fz_i x62), (9, fz_i x63), (8, fz_i x64), (6, fz_i y61), (5, fz_i y44), (0, fz_r 53), (1, fz_i s), (2, fz_i on), (3, fz_i th), (4, fz_i wh)]) kX11_which rfl (by decide) rfl (by omega) rfl ?_
                                refine fz_iload kX11_which rfl rfl ?_
                                refine fz_istore (ls' := [(8, fz_i x62), (7, fz_i (x65 + 1)), (11, fz_i 1), (10, fz_i x62), (9, fz_i x63), (6, fz_i y61), (5, fz_i y44), (0, fz_r 53), (1, fz_i s), (2, fz_i on), (3, fz_i th), (4, fz_i wh)]) kX11_which rfl (by decide) rfl ?_
                                refine fz_iload kX11_which rfl rfl ?_
                                refine fz_iload kX11_which rfl rfl ?_
                                refine fz_iand kX11_which rfl ?_
                                have b125 : -2147483648 ≤ (fz_and x63 x62) ∧ (fz_and x63 x62) < 2147483648 := fz_b32 _
                                refine fz_istore (ls' := [(9, fz_i (fz_and x63 x62)), (8, fz_i x62), (7, fz_i (x65 + 1)), (11, fz_i 1), (10, fz_i x62), (6, fz_i y61), (5, fz_i y44), (0, fz_r 53), (1, fz_i s), (2, fz_i on), (3, fz_i th), (4, fz_i wh)]) kX11_which rfl (by decide) rfl ?_
                                refine fz_iincN (ls' := [(10, fz_i (x62 + (-1))), (9, fz_i (fz_and x63 x62)), (8, fz_i x62), (7, fz_i (x65 + 1)), (11, fz_i 1), (6, fz_i y61), (5, fz_i y44), (0, fz_r 53), (1, fz_i s), (2, fz_i on), (3, fz_i th), (4, fz_i wh)]) kX11_which rfl (by decide) rfl (by omega) rfl ?_
                                refine fz_goto (tgt := 75) kX11_which rfl (by decide) ?_
                                refine fz_sub (fz_pk_sub (ls' := [(10, fz_i (x62 + (-1))), (9, fz_i (fz_and x63 x62)), (8, fz_i x62), (7, fz_i (x65 + 1)), (6, fz_i y61), (5, fz_i y44), (0, fz_r 53), (1, fz_i s), (2, fz_i on), (3, fz_i th), (4, fz_i wh)]) [0, 1, 2, 3, 5, 6, 7, 8, 9, 10, 11] rfl) ?_
                                exact ih72 (x62 + (-1)) (fz_and x63 x62) x62 (x65 + 1) H116 hI120 hf122 hXw123 (by omega) (by omega) (by omega) (by omega) (by omega) (by omega)
                              · exfalso; omega
                          · refine fz_goto (tgt := 163) kX11_which rfl (by decide) ?_
                            refine fz_iincN (ls' := [(10, fz_i (x62 + (-1))), (9, fz_i x63), (8, fz_i x64), (7, fz_i x65), (6, fz_i y61), (5, fz_i y44), (0, fz_r 53), (1, fz_i s), (2, fz_i on), (3, fz_i th), (4, fz_i wh)]) kX11_which rfl (by decide) rfl (by omega) rfl ?_
                            refine fz_goto (tgt := 75) kX11_which rfl (by decide) ?_
                            exact ih72 (x62 + (-1)) x63 x64 x65 H67 hI68 hf69 hXw66 (by omega) (by omega) (by omega) (by omega) (by omega) (by omega)
                    exact lp71 _ y61 y61 (-2) 0 H46 hI50 hf52 hXw53 (by omega) (by omega) (by omega) (by omega) (by omega) (Nat.lt_succ_self _)
                  · refine fz_iload kX11_which rfl rfl ?_
                    exact fz_iret kX11_which rfl rfl (fun _ => ⟨hI, hf, hXw, _, rfl, (by omega)⟩)
                · exfalso; omega
              · refine fz_if_ne (tgt := 34) kX11_which rfl (by decide) (fun c126 => ?_) (fun c126 => ?_)
                · exfalso; omega
                · refine fz_iconst ⟨by decide, by decide⟩ kX11_which rfl ?_
                  exact fz_iret kX11_which rfl rfl (fun _ => ⟨hI, hf, hXw, _, rfl, (by omega)⟩)
          · refine fz_if_eq (tgt := 32) kX11_which rfl (by decide) (fun c127 => ?_) (fun c127 => ?_)
            · refine fz_iconst ⟨by decide, by decide⟩ kX11_which rfl ?_
              exact fz_iret kX11_which rfl rfl (fun _ => ⟨hI, hf, hXw, _, rfl, (by omega)⟩)
            · exfalso; omega
      · refine fz_if_eq (tgt := 32) kX11_which rfl (by decide) (fun c128 => ?_) (fun c128 => ?_)
        · refine fz_iconst ⟨by decide, by decide⟩ kX11_which rfl ?_
          exact fz_iret kX11_which rfl rfl (fun _ => ⟨hI, hf, hXw, _, rfl, (by omega)⟩)
        · exfalso; omega
  · refine fz_if_eq (tgt := 32) kX11_which rfl (by decide) (fun c129 => ?_) (fun c129 => ?_)
    · refine fz_iconst ⟨by decide, by decide⟩ kX11_which rfl ?_
      exact fz_iret kX11_which rfl rfl (fun _ => ⟨hI, hf, hXw, _, rfl, (by omega)⟩)
    · exfalso; omega

abbrev qX11_first (h : fz_H) (pm tx wh : Int) : fz_H → Option fz_V → Prop := fun h' r0 => fz_Iv h' ∧ fz_fr [(74, 99999), (75, 99999), (86, 99999), (87, 99999), (88, 99999)] h h' ∧ fz_Xw h' ∧ ∃ r : Int, r0 = some (fz_i r) ∧ ((-2147483648) ≤ r ∧ r ≤ 2147483647)
set_option maxHeartbeats 1000000 in
set_option maxRecDepth 100000 in
theorem sX11_first (h : fz_H) (hI : fz_Iv h) (pm tx wh : Int) (hXw : fz_Xw h) : fz_R 4 mX11_first 0 [(0, fz_r 53), (1, fz_i pm), (2, fz_i tx), (3, fz_i wh)] [] h (qX11_first h pm tx wh) := by
  refine fz_knowl (fun hk => ?_)
  have hr_pm : -2147483648 ≤ pm ∧ pm < 2147483648 := hk _ (List.Mem.tail _ (List.Mem.head _))
  have hr_tx : -2147483648 ≤ tx ∧ tx < 2147483648 := hk _ (List.Mem.tail _ (List.Mem.tail _ (List.Mem.head _)))
  have hr_wh : -2147483648 ≤ wh ∧ wh < 2147483648 := hk _ (List.Mem.tail _ (List.Mem.tail _ (List.Mem.tail _ (List.Mem.head _))))
  clear hk
  have hf : fz_fr [(74, 99999), (75, 99999), (86, 99999), (87, 99999), (88, 99999)] h h := fz_fr_rf
  refine fz_iload_n kX11_first rfl rfl ?_
  refine fz_callS (d' := 2) (M' := mX11_isMarked) (As := [fz_i pm]) (st := []) kX11_first rfl rfl vX11_isMarked rfl rfl (Nat.le_of_ble_eq_true rfl) (Nat.le_of_ble_eq_true rfl) (by decide) (sX11_isMarked h hI pm ) (fun H1 r2 q3 o4 => ?_)
  obtain ⟨e5, y6, rfl, p7⟩ := q3
  subst H1
  clear o4
  rcases p7 with ⟨rfl, c8⟩ | ⟨rfl, c8⟩
  · refine fz_if_eq (tgt := 38) kX11_first rfl (by decide) (fun c9 => ?_) (fun c9 => ?_)
    · exfalso; omega
    · refine fz_iload_n kX11_first rfl rfl ?_
      refine fz_if_lt (tgt := 38) kX11_first rfl (by decide) (fun c10 => ?_) (fun c10 => ?_)
      · refine fz_iconst ⟨by decide, by decide⟩ kX11_first rfl ?_
        exact fz_iret kX11_first rfl rfl (fun _ => ⟨hI, hf, hXw, _, rfl, (by omega)⟩)
      · refine fz_aload_n kX11_first rfl rfl ?_
        refine fz_iload_n kX11_first rfl rfl ?_
        refine fz_bipush ⟨by decide, by decide⟩ kX11_first rfl ?_
        refine fz_idivN kX11_first rfl (by omega) (by omega) (by omega) ?_
        have b11 : 0 ≤ h 53 0 ∧ h 53 0 ≤ 8 := hI.1 53 _
        refine fz_callV (d' := 1) (M' := mX11_isTown) (As := [fz_i (tx / 100)]) (st := []) kX11_first rfl rfl vX11_isTown rfl rfl rfl rfl (Nat.le_of_ble_eq_true rfl) (Nat.le_of_ble_eq_true rfl) (by decide) (sX11_isTown h hI (tx / 100) ) (fun H12 r13 q14 o15 => ?_)
        obtain ⟨e16, y17, rfl, p18⟩ := q14
        subst H12
        clear o15
        rcases p18 with ⟨rfl, c19⟩ | ⟨rfl, c19⟩
        · refine fz_if_eq (tgt := 38) kX11_first rfl (by decide) (fun c20 => ?_) (fun c20 => ?_)
          · exfalso; omega
          · refine fz_iload_n kX11_first rfl rfl ?_
            refine fz_bipush ⟨by decide, by decide⟩ kX11_first rfl ?_
            refine fz_iremN kX11_first rfl (by omega) (by omega) (by omega) ?_
            refine fz_if_eq (tgt := 38) kX11_first rfl (by decide) (fun c21 => ?_) (fun c21 => ?_)
            · refine fz_iconst ⟨by decide, by decide⟩ kX11_first rfl ?_
              exact fz_iret kX11_first rfl rfl (fun _ => ⟨hI, hf, hXw, _, rfl, (by omega)⟩)
            · refine fz_iload_n kX11_first rfl rfl ?_
              refine fz_iconst ⟨by decide, by decide⟩ kX11_first rfl ?_
              refine fz_iconst ⟨by decide, by decide⟩ kX11_first rfl ?_
              refine fz_callS (d' := 0) (M' := mX11_within) (As := [fz_i wh, fz_i 0, fz_i 1]) (st := []) kX11_first rfl rfl vX11_within rfl rfl (Nat.le_of_ble_eq_true rfl) (Nat.le_of_ble_eq_true rfl) (by decide) (sX11_within h hI wh 0 1 ) (fun H22 r23 q24 o25 => ?_)
              obtain ⟨e26, y27, rfl, p28⟩ := q24
              subst H22
              clear o25
              rcases p28 with ⟨rfl, c29⟩ | ⟨rfl, c29⟩
              · refine fz_if_ne (tgt := 40) kX11_first rfl (by decide) (fun c30 => ?_) (fun c30 => ?_)
                · refine fz_aload_n kX11_first rfl rfl ?_
                  refine fz_callV (d' := 3) (M' := mX11_allHear) (As := []) (st := []) kX11_first rfl rfl vX11_allHear rfl rfl rfl rfl (Nat.le_of_ble_eq_true rfl) (Nat.le_of_ble_eq_true rfl) (by decide) (sX11_allHear h hI  ) (fun H31 r32 q33 o34 => ?_)
                  obtain ⟨hI35, hf36, rfl⟩ := q33
                  clear o34
                  have hf37 := fz_fr_tr hf hf36 (show fz_su [(86, 99999), (87, 99999), (88, 99999)] [(74, 99999), (75, 99999), (86, 99999), (87, 99999), (88, 99999)] = true from rfl)
                  have hXw38 : fz_Xw H31 := fz_Xw_eq (hf36 53 19 rfl) (funext fun s => hf36 66 s rfl) (funext fun s => hf36 67 s rfl) (funext fun s => hf36 68 s rfl) (funext fun s => hf36 69 s rfl) hXw
                  refine fz_bipush ⟨by decide, by decide⟩ kX11_first rfl ?_
                  refine fz_istore (ls' := [(4, fz_i (-2)), (0, fz_r 53), (1, fz_i pm), (2, fz_i tx), (3, fz_i wh)]) kX11_first rfl (by decide) rfl ?_
                  refine fz_iconst ⟨by decide, by decide⟩ kX11_first rfl ?_
                  refine fz_istore (ls' := [(5, fz_i 0), (4, fz_i (-2)), (0, fz_r 53), (1, fz_i pm), (2, fz_i tx), (3, fz_i wh)]) kX11_first rfl (by decide) rfl ?_
                  have lp46 : ∀ (n45 : Nat) (x39 : Int) (x40 : Int) (H42 : fz_H), fz_Iv H42 → fz_fr [(74, 99999), (75, 99999), (86, 99999), (87, 99999), (88, 99999)] h H42 → fz_Xw H42 → (0 ≤ x39 ∧ x39 ≤ 2147483647) → ((-2147483648) ≤ x40 ∧ x40 ≤ 2147483647) → (1000 - x39).toNat < n45 → fz_R 4 mX11_first 51 [(5, fz_i x39), (4, fz_i x40), (0, fz_r 53), (1, fz_i pm), (2, fz_i tx), (3, fz_i wh)] [] H42 (qX11_first h pm tx wh) := by
                    intro n45
                    induction n45 with
                    | zero => intro x39 x40 H42 hI43 hf44 hXw41 hv49 hv50 hm48; exact absurd hm48 (by omega)
                    | succ n45 ih47 =>
                      intro x39 x40 H42 hI43 hf44 hXw41 hv49 hv50 hm48
                      refine fz_iload kX11_first rfl rfl ?_
                      refine fz_sipush ⟨by decide, by decide⟩ kX11_first rfl ?_
                      refine fz_icmp_ge (tgt := 104) kX11_first rfl (by decide) (fun c51 => ?_) (fun c51 => ?_)
                      · refine fz_iload kX11_first rfl rfl ?_
                        exact fz_iret kX11_first rfl rfl (fun _ => ⟨hI43, hf44, hXw41, _, rfl, (by omega)⟩)
                      · refine fz_aload_n kX11_first rfl rfl ?_
                        refine fz_iload_n kX11_first rfl rfl ?_
                        refine fz_bipush ⟨by decide, by decide⟩ kX11_first rfl ?_
                        refine fz_idivN kX11_first rfl (by omega) (by omega) (by omega) ?_
                        refine fz_iload_n kX11_first rfl rfl ?_
                        refine fz_bipush ⟨by decide, by decide⟩ kX11_first rfl ?_
                        refine fz_iremN kX11_first rfl (by omega) (by omega) (by omega) ?_
                        refine fz_iload_n kX11_first rfl rfl ?_
                        refine fz_bipush ⟨by decide, by decide⟩ kX11_first rfl ?_
                        refine fz_idivN kX11_first rfl (by omega) (by omega) (by omega) ?_
                        refine fz_iload kX11_first rfl rfl ?_
                        refine fz_callV (d' := 3) (M' := mX11_saidOf) (As := [fz_i (pm / 10), fz_i (pm % 10), fz_i (tx / 100), fz_i x39]) (st := []) kX11_first rfl rfl vX11_saidOf rfl rfl rfl rfl (Nat.le_of_ble_eq_true rfl) (Nat.le_of_ble_eq_true rfl) (by decide) (sX11_saidOf H42 hI43 (pm / 10) (pm % 10) (tx / 100) x39 hXw41 (by omega)) (fun H52 r53 q54 o55 => ?_)
                        obtain ⟨hI56, hf57, hXw58, y60, rfl, f59⟩ := q54
                        clear o55
                        have hf61 := fz_fr_tr hf44 hf57 (show fz_su [(74, 99999), (75, 99999)] [(74, 99999), (75, 99999), (86, 99999), (87, 99999), (88, 99999)] = true from rfl)
                        refine fz_iload_n kX11_first rfl rfl ?_
                        refine fz_bipush ⟨by decide, by decide⟩ kX11_first rfl ?_
                        refine fz_iremN kX11_first rfl (by omega) (by omega) (by omega) ?_
                        refine fz_icmp_ge (tgt := 87) kX11_first rfl (by decide) (fun c62 => ?_) (fun c62 => ?_)
                        · refine fz_iload kX11_first rfl rfl ?_
                          refine fz_istore (ls' := [(4, fz_i x39), (5, fz_i x39), (0, fz_r 53), (1, fz_i pm), (2, fz_i tx), (3, fz_i wh)]) kX11_first rfl (by decide) rfl ?_
                          refine fz_iload_n kX11_first rfl rfl ?_
                          refine fz_if_ne (tgt := 98) kX11_first rfl (by decide) (fun c63 => ?_) (fun c63 => ?_)
                          · refine fz_iincN (ls' := [(5, fz_i (x39 + 1)), (4, fz_i x39), (0, fz_r 53), (1, fz_i pm), (2, fz_i tx), (3, fz_i wh)]) kX11_first rfl (by decide) rfl (by omega) rfl ?_
                            refine fz_goto (tgt := 51) kX11_first rfl (by decide) ?_
                            exact ih47 (x39 + 1) x39 H52 hI56 hf61 hXw58 (by omega) (by omega) (by omega)
                          · refine fz_iload kX11_first rfl rfl ?_
                            exact fz_iret kX11_first rfl rfl (fun _ => ⟨hI56, hf61, hXw58, _, rfl, (by omega)⟩)
                        · refine fz_goto (tgt := 98) kX11_first rfl (by decide) ?_
                          refine fz_iincN (ls' := [(5, fz_i (x39 + 1)), (4, fz_i x40), (0, fz_r 53), (1, fz_i pm), (2, fz_i tx), (3, fz_i wh)]) kX11_first rfl (by decide) rfl (by omega) rfl ?_
                          refine fz_goto (tgt := 51) kX11_first rfl (by decide) ?_
                          exact ih47 (x39 + 1) x40 H52 hI56 hf61 hXw58 (by omega) (by omega) (by omega)
                  exact lp46 _ 0 (-2) H31 hI35 hf37 hXw38 (by omega) (by omega) (Nat.lt_succ_self _)
                · exfalso; omega
              · refine fz_if_ne (tgt := 40) kX11_first rfl (by decide) (fun c64 => ?_) (fun c64 => ?_)
                · exfalso; omega
                · refine fz_iconst ⟨by decide, by decide⟩ kX11_first rfl ?_
                  exact fz_iret kX11_first rfl rfl (fun _ => ⟨hI, hf, hXw, _, rfl, (by omega)⟩)
        · refine fz_if_eq (tgt := 38) kX11_first rfl (by decide) (fun c65 => ?_) (fun c65 => ?_)
          · refine fz_iconst ⟨by decide, by decide⟩ kX11_first rfl ?_
            exact fz_iret kX11_first rfl rfl (fun _ => ⟨hI, hf, hXw, _, rfl, (by omega)⟩)
          · exfalso; omega
  · refine fz_if_eq (tgt := 38) kX11_first rfl (by decide) (fun c66 => ?_) (fun c66 => ?_)
    · refine fz_iconst ⟨by decide, by decide⟩ kX11_first rfl ?_
      exact fz_iret kX11_first rfl rfl (fun _ => ⟨hI, hf, hXw, _, rfl, (by omega)⟩)
    · exfalso; omega

abbrev qX11_news (h : fz_H) (d hr : Int) : fz_H → Option fz_V → Prop := fun h' r0 => fz_Iv h' ∧ fz_fr [(86, 99999), (87, 99999)] h h' ∧ ∃ r : Int, r0 = some (fz_i r) ∧ ((-2) ≤ r ∧ r ≤ 8)
set_option maxHeartbeats 1000000 in
set_option maxRecDepth 100000 in
theorem sX11_news (h : fz_H) (hI : fz_Iv h) (d hr : Int) : fz_R 3 mX11_news 0 [(0, fz_r 53), (1, fz_i d), (2, fz_i hr)] [] h (qX11_news h d hr) := by
  refine fz_knowl (fun hk => ?_)
  have hr_d : -2147483648 ≤ d ∧ d < 2147483648 := hk _ (List.Mem.tail _ (List.Mem.head _))
  have hr_hr : -2147483648 ≤ hr ∧ hr < 2147483648 := hk _ (List.Mem.tail _ (List.Mem.tail _ (List.Mem.head _)))
  clear hk
  have hf : fz_fr [(86, 99999), (87, 99999)] h h := fz_fr_rf
  refine fz_aload_n kX11_news rfl rfl ?_
  refine fz_iload_n kX11_news rfl rfl ?_
  have b1 : 0 ≤ h 53 10 ∧ h 53 10 ≤ 11 := hI.1 53 _
  refine fz_callV (d' := 1) (M' := mX11_isDeed) (As := [fz_i d]) (st := []) kX11_news rfl rfl vX11_isDeed rfl rfl rfl rfl (Nat.le_of_ble_eq_true rfl) (Nat.le_of_ble_eq_true rfl) (by decide) (sX11_isDeed h hI d ) (fun H2 r3 q4 o5 => ?_)
  obtain ⟨e6, y7, rfl, p8⟩ := q4
  subst H2
  clear o5
  rcases p8 with ⟨rfl, c9⟩ | ⟨rfl, c9⟩
  · refine fz_if_eq (tgt := 20) kX11_news rfl (by decide) (fun c10 => ?_) (fun c10 => ?_)
    · exfalso; omega
    · refine fz_iload_n kX11_news rfl rfl ?_
      refine fz_bipush ⟨by decide, by decide⟩ kX11_news rfl ?_
      refine fz_sipush ⟨by decide, by decide⟩ kX11_news rfl ?_
      refine fz_callS (d' := 0) (M' := mX11_within) (As := [fz_i hr, fz_i (-2), fz_i 999]) (st := []) kX11_news rfl rfl vX11_within rfl rfl (Nat.le_of_ble_eq_true rfl) (Nat.le_of_ble_eq_true rfl) (by decide) (sX11_within h hI hr (-2) 999 ) (fun H11 r12 q13 o14 => ?_)
      obtain ⟨e15, y16, rfl, p17⟩ := q13
      subst H11
      clear o14
      rcases p17 with ⟨rfl, c18⟩ | ⟨rfl, c18⟩
      · refine fz_if_ne (tgt := 22) kX11_news rfl (by decide) (fun c19 => ?_) (fun c19 => ?_)
        · refine fz_bipush ⟨by decide, by decide⟩ kX11_news rfl ?_
          refine fz_istore_n (ls' := [(3, fz_i (-2)), (0, fz_r 53), (1, fz_i d), (2, fz_i hr)]) kX11_news rfl (by decide) rfl ?_
          refine fz_iconst ⟨by decide, by decide⟩ kX11_news rfl ?_
          refine fz_istore (ls' := [(4, fz_i 0), (3, fz_i (-2)), (0, fz_r 53), (1, fz_i d), (2, fz_i hr)]) kX11_news rfl (by decide) rfl ?_
          refine fz_iconst ⟨by decide, by decide⟩ kX11_news rfl ?_
          refine fz_istore (ls' := [(5, fz_i 0), (4, fz_i 0), (3, fz_i (-2)), (0, fz_r 53), (1, fz_i d), (2, fz_i hr)]) kX11_news rfl (by decide) rfl ?_
          have lp27 : ∀ (n26 : Nat) (x20 : Int) (x21 : Int) (x22 : Int) (H23 : fz_H), fz_Iv H23 → fz_fr [(86, 99999), (87, 99999)] h H23 → (0 ≤ x20 ∧ x20 ≤ 2147483647) → (0 ≤ x21 ∧ x21 ≤ 8) → ((-2) ≤ x22 ∧ x22 ≤ 7) → (x22 ≠ -1) → (x21 ≤ x20) → ((h 53 0) - x20).toNat < n26 → fz_R 3 mX11_news 31 [(5, fz_i x20), (4, fz_i x21), (3, fz_i x22), (0, fz_r 53), (1, fz_i d), (2, fz_i hr)] [] H23 (qX11_news h d hr) := by
            intro n26
            induction n26 with
            | zero => intro x20 x21 x22 H23 hI24 hf25 hv30 hv31 hv32 hv33 hv34 hm29; exact absurd hm29 (by omega)
            | succ n26 ih28 =>
              intro x20 x21 x22 H23 hI24 hf25 hv30 hv31 hv32 hv33 hv34 hm29
              refine fz_iload kX11_news rfl rfl ?_
              refine fz_aload_n kX11_news rfl rfl ?_
              refine fz_getV (v := h 53 0) kX11_news rfl rfl (hf25 53 0 rfl) ?_
              have b35 : 0 ≤ h 53 0 ∧ h 53 0 ≤ 8 := hI.1 53 _
              refine fz_icmp_ge (tgt := 113) kX11_news rfl (by decide) (fun c36 => ?_) (fun c36 => ?_)
              · refine fz_iload_n kX11_news rfl rfl ?_
                refine fz_if_ge (tgt := 121) kX11_news rfl (by decide) (fun c37 => ?_) (fun c37 => ?_)
                · refine fz_iload kX11_news rfl rfl ?_
                  exact fz_iret kX11_news rfl rfl (fun _ => ⟨hI24, hf25, _, rfl, (by omega)⟩)
                · refine fz_iload_n kX11_news rfl rfl ?_
                  refine fz_goto (tgt := 123) kX11_news rfl (by decide) ?_
                  exact fz_iret kX11_news rfl rfl (fun _ => ⟨hI24, hf25, _, rfl, (by omega)⟩)
              · refine fz_aload_n kX11_news rfl rfl ?_
                refine fz_iload_n kX11_news rfl rfl ?_
                refine fz_iload kX11_news rfl rfl ?_
                refine fz_callV (d' := 2) (M' := mX11_heardAt) (As := [fz_i d, fz_i x20]) (st := []) kX11_news rfl rfl vX11_heardAt rfl rfl rfl rfl (Nat.le_of_ble_eq_true rfl) (Nat.le_of_ble_eq_true rfl) (by decide) (sX11_heardAt H23 hI24 d x20 (by omega) (by omega)) (fun H38 r39 q40 o41 => ?_)
                obtain ⟨hI42, hf43, y45, rfl, f44⟩ := q40
                clear o41
                have hf46 := fz_fr_tr hf25 hf43 (show fz_su [(86, 99999), (87, 99999)] [(86, 99999), (87, 99999)] = true from rfl)
                refine fz_istore (ls' := [(6, fz_i y45), (5, fz_i x20), (4, fz_i x21), (3, fz_i x22), (0, fz_r 53), (1, fz_i d), (2, fz_i hr)]) kX11_news rfl (by decide) rfl ?_
                refine fz_iload kX11_news rfl rfl ?_
                refine fz_bipush ⟨by decide, by decide⟩ kX11_news rfl ?_
                refine fz_icmp_ne (tgt := 59) kX11_news rfl (by decide) (fun c47 => ?_) (fun c47 => ?_)
                · refine fz_iload kX11_news rfl rfl ?_
                  refine fz_iload_n kX11_news rfl rfl ?_
                  refine fz_icmp_gt (tgt := 68) kX11_news rfl (by decide) (fun c48 => ?_) (fun c48 => ?_)
                  · refine fz_iload_n kX11_news rfl rfl ?_
                    refine fz_bipush ⟨by decide, by decide⟩ kX11_news rfl ?_
                    refine fz_icmp_eq (tgt := 104) kX11_news rfl (by decide) (fun c49 => ?_) (fun c49 => ?_)
                    · refine fz_iload kX11_news rfl rfl ?_
                      refine fz_istore_n (ls' := [(3, fz_i x20), (6, fz_i y45), (5, fz_i x20), (4, fz_i x21), (0, fz_r 53), (1, fz_i d), (2, fz_i hr)]) kX11_news rfl (by decide) rfl ?_
                      refine fz_iincN (ls' := [(5, fz_i (x20 + 1)), (3, fz_i x20), (6, fz_i y45), (4, fz_i x21), (0, fz_r 53), (1, fz_i d), (2, fz_i hr)]) kX11_news rfl (by decide) rfl (by omega) rfl ?_
                      refine fz_goto (tgt := 31) kX11_news rfl (by decide) ?_
                      refine fz_sub (fz_pk_sub (ls' := [(5, fz_i (x20 + 1)), (4, fz_i x21), (3, fz_i x20), (0, fz_r 53), (1, fz_i d), (2, fz_i hr)]) [0, 3, 1, 4, 5, 6] rfl) ?_
                      exact ih28 (x20 + 1) x21 x20 H38 hI42 hf46 (by omega) (by omega) (by omega) (by omega) (by omega) (by omega)
                    · refine fz_iload_n kX11_news rfl rfl ?_
                      refine fz_iconst ⟨by decide, by decide⟩ kX11_news rfl ?_
                      refine fz_icmp_ne (tgt := 93) kX11_news rfl (by decide) (fun c50 => ?_) (fun c50 => ?_)
                      · refine fz_iload kX11_news rfl rfl ?_
                        refine fz_aload_n kX11_news rfl rfl ?_
                        refine fz_iload_n kX11_news rfl rfl ?_
                        refine fz_iload_n kX11_news rfl rfl ?_
                        refine fz_callV (d' := 2) (M' := mX11_heardAt) (As := [fz_i d, fz_i x22]) (st := [fz_i y45]) kX11_news rfl rfl vX11_heardAt rfl rfl rfl rfl (Nat.le_of_ble_eq_true rfl) (Nat.le_of_ble_eq_true rfl) (by decide) (sX11_heardAt H38 hI42 d x22 (by omega) (by omega)) (fun H51 r52 q53 o54 => ?_)
                        obtain ⟨hI55, hf56, y58, rfl, f57⟩ := q53
                        clear o54
                        have hf59 := fz_fr_tr hf46 hf56 (show fz_su [(86, 99999), (87, 99999)] [(86, 99999), (87, 99999)] = true from rfl)
                        refine fz_icmp_ge (tgt := 107) kX11_news rfl (by decide) (fun c60 => ?_) (fun c60 => ?_)
                        · refine fz_iincN (ls' := [(5, fz_i (x20 + 1)), (6, fz_i y45), (4, fz_i x21), (3, fz_i x22), (0, fz_r 53), (1, fz_i d), (2, fz_i hr)]) kX11_news rfl (by decide) rfl (by omega) rfl ?_
                          refine fz_goto (tgt := 31) kX11_news rfl (by decide) ?_
                          refine fz_sub (fz_pk_sub (ls' := [(5, fz_i (x20 + 1)), (4, fz_i x21), (3, fz_i x22), (0, fz_r 53), (1, fz_i d), (2, fz_i hr)]) [0, 2, 3, 4, 5, 6] rfl) ?_
                          exact ih28 (x20 + 1) x21 x22 H51 hI55 hf59 (by omega) (by omega) (by omega) (by omega) (by omega) (by omega)
                        · refine fz_iload kX11_news rfl rfl ?_
                          refine fz_istore_n (ls' := [(3, fz_i x20), (6, fz_i y45), (5, fz_i x20), (4, fz_i x21), (0, fz_r 53), (1, fz_i d), (2, fz_i hr)]) kX11_news rfl (by decide) rfl ?_
                          refine fz_iincN (ls' := [(5, fz_i (x20 + 1)), (3, fz_i x20), (6, fz_i y45), (4, fz_i x21), (0, fz_r 53), (1, fz_i d), (2, fz_i hr)]) kX11_news rfl (by decide) rfl (by omega) rfl ?_
                          refine fz_goto (tgt := 31) kX11_news rfl (by decide) ?_
                          refine fz_sub (fz_pk_sub (ls' := [(5, fz_i (x20 + 1)), (4, fz_i x21), (3, fz_i x20), (0, fz_r 53), (1, fz_i d), (2, fz_i hr)]) [0, 3, 1, 4, 5, 6] rfl) ?_
                          exact ih28 (x20 + 1) x21 x20 H51 hI55 hf59 (by omega) (by omega) (by omega) (by omega) (by omega) (by omega)
                      · refine fz_iload kX11_news rfl rfl ?_
                        refine fz_aload_n kX11_news rfl rfl ?_
                        refine fz_iload_n kX11_news rfl rfl ?_
                        refine fz_iload_n kX11_news rfl rfl ?_
                        refine fz_callV (d' := 2) (M' := mX11_heardAt) (As := [fz_i d, fz_i x22]) (st := [fz_i y45]) kX11_news rfl rfl vX11_heardAt rfl rfl rfl rfl (Nat.le_of_ble_eq_true rfl) (Nat.le_of_ble_eq_true rfl) (by decide) (sX11_heardAt H38 hI42 d x22 (by omega) (by omega)) (fun H61 r62 q63 o64 => ?_)
                        obtain ⟨hI65, hf66, y68, rfl, f67⟩ := q63
                        clear o64
                        have hf69 := fz_fr_tr hf46 hf66 (show fz_su [(86, 99999), (87, 99999)] [(86, 99999), (87, 99999)] = true from rfl)
                        refine fz_icmp_le (tgt := 107) kX11_news rfl (by decide) (fun c70 => ?_) (fun c70 => ?_)
                        · refine fz_iincN (ls' := [(5, fz_i (x20 + 1)), (6, fz_i y45), (4, fz_i x21), (3, fz_i x22), (0, fz_r 53), (1, fz_i d), (2, fz_i hr)]) kX11_news rfl (by decide) rfl (by omega) rfl ?_
                          refine fz_goto (tgt := 31) kX11_news rfl (by decide) ?_
                          refine fz_sub (fz_pk_sub (ls' := [(5, fz_i (x20 + 1)), (4, fz_i x21), (3, fz_i x22), (0, fz_r 53), (1, fz_i d), (2, fz_i hr)]) [0, 2, 3, 4, 5, 6] rfl) ?_
                          exact ih28 (x20 + 1) x21 x22 H61 hI65 hf69 (by omega) (by omega) (by omega) (by omega) (by omega) (by omega)
                        · refine fz_goto (tgt := 104) kX11_news rfl (by decide) ?_
                          refine fz_iload kX11_news rfl rfl ?_
                          refine fz_istore_n (ls' := [(3, fz_i x20), (6, fz_i y45), (5, fz_i x20), (4, fz_i x21), (0, fz_r 53), (1, fz_i d), (2, fz_i hr)]) kX11_news rfl (by decide) rfl ?_
                          refine fz_iincN (ls' := [(5, fz_i (x20 + 1)), (3, fz_i x20), (6, fz_i y45), (4, fz_i x21), (0, fz_r 53), (1, fz_i d), (2, fz_i hr)]) kX11_news rfl (by decide) rfl (by omega) rfl ?_
                          refine fz_goto (tgt := 31) kX11_news rfl (by decide) ?_
                          refine fz_sub (fz_pk_sub (ls' := [(5, fz_i (x20 + 1)), (4, fz_i x21), (3, fz_i x20), (0, fz_r 53), (1, fz_i d), (2, fz_i hr)]) [0, 3, 1, 4, 5, 6] rfl) ?_
                          exact ih28 (x20 + 1) x21 x20 H61 hI65 hf69 (by omega) (by omega) (by omega) (by omega) (by omega) (by omega)
                  · refine fz_iincN (ls' := [(4, fz_i (x21 + 1)), (6, fz_i y45), (5, fz_i x20), (3, fz_i x22), (0, fz_r 53), (1, fz_i d), (2, fz_i hr)]) kX11_news rfl (by decide) rfl (by omega) rfl ?_
                    refine fz_iload_n kX11_news rfl rfl ?_
                    refine fz_bipush ⟨by decide, by decide⟩ kX11_news rfl ?_
                    refine fz_icmp_eq (tgt := 104) kX11_news rfl (by decide) (fun c71 => ?_) (fun c71 => ?_)
                    · refine fz_iload kX11_news rfl rfl ?_
                      refine fz_istore_n (ls' := [(3, fz_i x20), (4, fz_i (x21 + 1)), (6, fz_i y45), (5, fz_i x20), (0, fz_r 53), (1, fz_i d), (2, fz_i hr)]) kX11_news rfl (by decide) rfl ?_
                      refine fz_iincN (ls' := [(5, fz_i (x20 + 1)), (3, fz_i x20), (4, fz_i (x21 + 1)), (6, fz_i y45), (0, fz_r 53), (1, fz_i d), (2, fz_i hr)]) kX11_news rfl (by decide) rfl (by omega) rfl ?_
                      refine fz_goto (tgt := 31) kX11_news rfl (by decide) ?_
                      refine fz_sub (fz_pk_sub (ls' := [(5, fz_i (x20 + 1)), (4, fz_i (x21 + 1)), (3, fz_i x20), (0, fz_r 53), (1, fz_i d), (2, fz_i hr)]) [0, 2, 1, 4, 5, 6] rfl) ?_
                      exact ih28 (x20 + 1) (x21 + 1) x20 H38 hI42 hf46 (by omega) (by omega) (by omega) (by omega) (by omega) (by omega)
                    · refine fz_iload_n kX11_news rfl rfl ?_
                      refine fz_iconst ⟨by decide, by decide⟩ kX11_news rfl ?_
                      refine fz_icmp_ne (tgt := 93) kX11_news rfl (by decide) (fun c72 => ?_) (fun c72 => ?_)
                      · refine fz_iload kX11_news rfl rfl ?_
                        refine fz_aload_n kX11_news rfl rfl ?_
                        refine fz_iload_n kX11_news rfl rfl ?_
                        refine fz_iload_n kX11_news rfl rfl ?_
                        refine fz_callV (d' := 2) (M' := mX11_heardAt) (As := [fz_i d, fz_i x22]) (st := [fz_i y45]) kX11_news rfl rfl vX11_heardAt rfl rfl rfl rfl (Nat.le_of_ble_eq_true rfl) (Nat.le_of_ble_eq_true rfl) (by decide) (sX11_heardAt H38 hI42 d x22 (by omega) (by omega)) (fun H73 r74 q75 o76 => ?_)
                        obtain ⟨hI77, hf78, y80, rfl, f79⟩ := q75
                        clear o76
                        have hf81 := fz_fr_tr hf46 hf78 (show fz_su [(86, 99999), (87, 99999)] [(86, 99999), (87, 99999)] = true from rfl)
                        refine fz_icmp_ge (tgt := 107) kX11_news rfl (by decide) (fun c82 => ?_) (fun c82 => ?_)
                        · refine fz_iincN (ls' := [(5, fz_i (x20 + 1)), (4, fz_i (x21 + 1)), (6, fz_i y45), (3, fz_i x22), (0, fz_r 53), (1, fz_i d), (2, fz_i hr)]) kX11_news rfl (by decide) rfl (by omega) rfl ?_
                          refine fz_goto (tgt := 31) kX11_news rfl (by decide) ?_
                          refine fz_sub (fz_pk_sub (ls' := [(5, fz_i (x20 + 1)), (4, fz_i (x21 + 1)), (3, fz_i x22), (0, fz_r 53), (1, fz_i d), (2, fz_i hr)]) [0, 1, 3, 4, 5, 6] rfl) ?_
                          exact ih28 (x20 + 1) (x21 + 1) x22 H73 hI77 hf81 (by omega) (by omega) (by omega) (by omega) (by omega) (by omega)
                        · refine fz_iload kX11_news rfl rfl ?_
                          refine fz_istore_n (ls' := [(3, fz_i x20), (4, fz_i (x21 + 1)), (6, fz_i y45), (5, fz_i x20), (0, fz_r 53), (1, fz_i d), (2, fz_i hr)]) kX11_news rfl (by decide) rfl ?_
                          refine fz_iincN (ls' := [(5, fz_i (x20 + 1)), (3, fz_i x20), (4, fz_i (x21 + 1)), (6, fz_i y45), (0, fz_r 53), (1, fz_i d), (2, fz_i hr)]) kX11_news rfl (by decide) rfl (by omega) rfl ?_
                          refine fz_goto (tgt := 31) kX11_news rfl (by decide) ?_
                          refine fz_sub (fz_pk_sub (ls' := [(5, fz_i (x20 + 1)), (4, fz_i (x21 + 1)), (3, fz_i x20), (0, fz_r 53), (1, fz_i d), (2, fz_i hr)]) [0, 2, 1, 4, 5, 6] rfl) ?_
                          exact ih28 (x20 + 1) (x21 + 1) x20 H73 hI77 hf81 (by omega) (by omega) (by omega) (by omega) (by omega) (by omega)
                      · refine fz_iload kX11_news rfl rfl ?_
                        refine fz_aload_n kX11_news rfl rfl ?_
                        refine fz_iload_n kX11_news rfl rfl ?_
                        refine fz_iload_n kX11_news rfl rfl ?_
                        refine fz_callV (d' := 2) (M' := mX11_heardAt) (As := [fz_i d, fz_i x22]) (st := [fz_i y45]) kX11_news rfl rfl vX11_heardAt rfl rfl rfl rfl (Nat.le_of_ble_eq_true rfl) (Nat.le_of_ble_eq_true rfl) (by decide) (sX11_heardAt H38 hI42 d x22 (by omega) (by omega)) (fun H83 r84 q85 o86 => ?_)
                        obtain ⟨hI87, hf88, y90, rfl, f89⟩ := q85
                        clear o86
                        have hf91 := fz_fr_tr hf46 hf88 (show fz_su [(86, 99999), (87, 99999)] [(86, 99999), (87, 99999)] = true from rfl)
                        refine fz_icmp_le (tgt := 107) kX11_news rfl (by decide) (fun c92 => ?_) (fun c92 => ?_)
                        · refine fz_iincN (ls' := [(5, fz_i (x20 + 1)), (4, fz_i (x21 + 1)), (6, fz_i y45), (3, fz_i x22), (0, fz_r 53), (1, fz_i d), (2, fz_i hr)]) kX11_news rfl (by decide) rfl (by omega) rfl ?_
                          refine fz_goto (tgt := 31) kX11_news rfl (by decide) ?_
                          refine fz_sub (fz_pk_sub (ls' := [(5, fz_i (x20 + 1)), (4, fz_i (x21 + 1)), (3, fz_i x22), (0, fz_r 53), (1, fz_i d), (2, fz_i hr)]) [0, 1, 3, 4, 5, 6] rfl) ?_
                          exact ih28 (x20 + 1) (x21 + 1) x22 H83 hI87 hf91 (by omega) (by omega) (by omega) (by omega) (by omega) (by omega)
                        · refine fz_goto (tgt := 104) kX11_news rfl (by decide) ?_
                          refine fz_iload kX11_news rfl rfl ?_
                          refine fz_istore_n (ls' := [(3, fz_i x20), (4, fz_i (x21 + 1)), (6, fz_i y45), (5, fz_i x20), (0, fz_r 53), (1, fz_i d), (2, fz_i hr)]) kX11_news rfl (by decide) rfl ?_
                          refine fz_iincN (ls' := [(5, fz_i (x20 + 1)), (3, fz_i x20), (4, fz_i (x21 + 1)), (6, fz_i y45), (0, fz_r 53), (1, fz_i d), (2, fz_i hr)]) kX11_news rfl (by decide) rfl (by omega) rfl ?_
                          refine fz_goto (tgt := 31) kX11_news rfl (by decide) ?_
                          refine fz_sub (fz_pk_sub (ls' := [(5, fz_i (x20 + 1)), (4, fz_i (x21 + 1)), (3, fz_i x20), (0, fz_r 53), (1, fz_i d), (2, fz_i hr)]) [0, 2, 1, 4, 5, 6] rfl) ?_
                          exact ih28 (x20 + 1) (x21 + 1) x20 H83 hI87 hf91 (by omega) (by omega) (by omega) (by omega) (by omega) (by omega)
                · refine fz_goto (tgt := 107) kX11_news rfl (by decide) ?_
                  refine fz_iincN (ls' := [(5, fz_i (x20 + 1)), (6, fz_i y45), (4, fz_i x21), (3, fz_i x22), (0, fz_r 53), (1, fz_i d), (2, fz_i hr)]) kX11_news rfl (by decide) rfl (by omega) rfl ?_
                  refine fz_goto (tgt := 31) kX11_news rfl (by decide) ?_
                  refine fz_sub (fz_pk_sub (ls' := [(5, fz_i (x20 + 1)), (4, fz_i x21), (3, fz_i x22), (0, fz_r 53), (1, fz_i d), (2, fz_i hr)]) [0, 2, 3, 4, 5, 6] rfl) ?_
                  exact ih28 (x20 + 1) x21 x22 H38 hI42 hf46 (by omega) (by omega) (by omega) (by omega) (by omega) (by omega)
          exact lp27 _ 0 0 (-2) h hI hf (by omega) (by omega) (by omega) (by omega) (by omega) (Nat.lt_succ_self _)
        · exfalso; omega
      · refine fz_if_ne (tgt := 22) kX11_news rfl (by decide) (fun c93 => ?_) (fun c93 => ?_)
        · exfalso; omega
        · refine fz_iconst ⟨by decide, by decide⟩ kX11_news rfl ?_
          exact fz_iret kX11_news rfl rfl (fun _ => ⟨hI, hf, _, rfl, (by omega)⟩)
  · refine fz_if_eq (tgt := 20) kX11_news rfl (by decide) (fun c94 => ?_) (fun c94 => ?_)
    · refine fz_iconst ⟨by decide, by decide⟩ kX11_news rfl ?_
      exact fz_iret kX11_news rfl rfl (fun _ => ⟨hI, hf, _, rfl, (by omega)⟩)
    · exfalso; omega

abbrev qX11_roadsTo (h : fz_H) (d t : Int) : fz_H → Option fz_V → Prop := fun h' r0 => fz_Iv h' ∧ fz_fr [(86, 99999), (87, 99999)] h h' ∧ ∃ r : Int, r0 = some (fz_i r) ∧ ((-2147483648) ≤ r ∧ r ≤ 2147483647)
set_option maxHeartbeats 1000000 in
set_option maxRecDepth 100000 in
theorem sX11_roadsTo (h : fz_H) (hI : fz_Iv h) (d t : Int) (hp0 : 0 ≤ d ∧ d ≤ 10) (hp1 : 0 ≤ t ∧ t ≤ 7) : fz_R 2 mX11_roadsTo 0 [(0, fz_r 53), (1, fz_i d), (2, fz_i t)] [] h (qX11_roadsTo h d t) := by
  refine fz_knowl (fun hk => ?_)
  have hr_d : -2147483648 ≤ d ∧ d < 2147483648 := hk _ (List.Mem.tail _ (List.Mem.head _))
  have hr_t : -2147483648 ≤ t ∧ t < 2147483648 := hk _ (List.Mem.tail _ (List.Mem.tail _ (List.Mem.head _)))
  clear hk
  have hf : fz_fr [(86, 99999), (87, 99999)] h h := fz_fr_rf
  refine fz_aload_n kX11_roadsTo rfl rfl ?_
  refine fz_aload_n kX11_roadsTo rfl rfl ?_
  refine fz_getR (t := 61) kX11_roadsTo rfl rfl ?_
  refine fz_iload_n kX11_roadsTo rfl rfl ?_
  refine fz_ialdV (n := 11) (v := h 61 (d.toNat)) kX11_roadsTo rfl rfl (by omega) (by omega) rfl ?_
  have b1 : 0 ≤ h 61 (d.toNat) ∧ h 61 (d.toNat) ≤ 7 := hI.1 61 _
  refine fz_iconst ⟨by decide, by decide⟩ kX11_roadsTo rfl ?_
  refine fz_callV (d' := 1) (M' := mX11_goesFrom) (As := [fz_i (h 61 (d.toNat)), fz_i 1]) (st := []) kX11_roadsTo rfl rfl vX11_goesFrom rfl rfl rfl rfl (Nat.le_of_ble_eq_true rfl) (Nat.le_of_ble_eq_true rfl) (by decide) (sX11_goesFrom h hI (h 61 (d.toNat)) 1 (by omega) (by omega)) (fun H2 r3 q4 o5 => ?_)
  obtain ⟨hI6, hf7, rfl⟩ := q4
  clear o5
  have hf8 := fz_fr_tr hf hf7 (show fz_su [(86, 99999), (87, 99999)] [(86, 99999), (87, 99999)] = true from rfl)
  refine fz_aload_n kX11_roadsTo rfl rfl ?_
  refine fz_getR (t := 86) kX11_roadsTo rfl rfl ?_
  refine fz_iload_n kX11_roadsTo rfl rfl ?_
  obtain ⟨v9, e10⟩ : ∃ z, H2 86 (t.toNat) = z := ⟨_, rfl⟩
  refine fz_ialdV (n := 8) (v := v9) kX11_roadsTo rfl rfl (by omega) (by omega) e10 ?_
  have b11 : (-2147483648) ≤ v9 ∧ v9 ≤ 2147483647 := by rw [← e10]; exact hI6.1 86 _
  refine fz_bipush ⟨by decide, by decide⟩ kX11_roadsTo rfl ?_
  refine fz_icmp_ne (tgt := 27) kX11_roadsTo rfl (by decide) (fun c12 => ?_) (fun c12 => ?_)
  · refine fz_aload_n kX11_roadsTo rfl rfl ?_
    refine fz_getR (t := 87) kX11_roadsTo rfl rfl ?_
    refine fz_iload_n kX11_roadsTo rfl rfl ?_
    obtain ⟨v13, e14⟩ : ∃ z, H2 87 (t.toNat) = z := ⟨_, rfl⟩
    refine fz_ialdV (n := 8) (v := v13) kX11_roadsTo rfl rfl (by omega) (by omega) e14 ?_
    have b15 : (-2147483648) ≤ v13 ∧ v13 ≤ 2147483647 := by rw [← e14]; exact hI6.1 87 _
    exact fz_iret kX11_roadsTo rfl rfl (fun _ => ⟨hI6, hf8, _, rfl, (by omega)⟩)
  · refine fz_bipush ⟨by decide, by decide⟩ kX11_roadsTo rfl ?_
    refine fz_goto (tgt := 33) kX11_roadsTo rfl (by decide) ?_
    exact fz_iret kX11_roadsTo rfl rfl (fun _ => ⟨hI6, hf8, _, rfl, (by omega)⟩)

abbrev qX11_drawn (h : fz_H) (d t se nw : Int) : fz_H → Option fz_V → Prop := fun h' r0 => fz_Iv h' ∧ fz_fr [(86, 99999), (87, 99999)] h h' ∧ ∃ r : Int, r0 = some (fz_i r) ∧ ((-1) ≤ r ∧ r ≤ 200)
set_option maxHeartbeats 1000000 in
set_option maxRecDepth 100000 in
theorem sX11_drawn (h : fz_H) (hI : fz_Iv h) (d t se nw : Int) : fz_R 3 mX11_drawn 0 [(0, fz_r 53), (1, fz_i d), (2, fz_i t), (3, fz_i se), (4, fz_i nw)] [] h (qX11_drawn h d t se nw) := by
  refine fz_knowl (fun hk => ?_)
  have hr_d : -2147483648 ≤ d ∧ d < 2147483648 := hk _ (List.Mem.tail _ (List.Mem.head _))
  have hr_t : -2147483648 ≤ t ∧ t < 2147483648 := hk _ (List.Mem.tail _ (List.Mem.tail _ (List.Mem.head _)))
  have hr_se : -2147483648 ≤ se ∧ se < 2147483648 := hk _ (List.Mem.tail _ (List.Mem.tail _ (List.Mem.tail _ (List.Mem.head _))))
  have hr_nw : -2147483648 ≤ nw ∧ nw < 2147483648 := hk _ (List.Mem.tail _ (List.Mem.tail _ (List.Mem.tail _ (List.Mem.tail _ (List.Mem.head _)))))
  clear hk
  have hf : fz_fr [(86, 99999), (87, 99999)] h h := fz_fr_rf
  refine fz_aload_n kX11_drawn rfl rfl ?_
  refine fz_iload_n kX11_drawn rfl rfl ?_
  have b1 : 0 ≤ h 53 10 ∧ h 53 10 ≤ 11 := hI.1 53 _
  refine fz_callV (d' := 1) (M' := mX11_isDeed) (As := [fz_i d]) (st := []) kX11_drawn rfl rfl vX11_isDeed rfl rfl rfl rfl (Nat.le_of_ble_eq_true rfl) (Nat.le_of_ble_eq_true rfl) (by decide) (sX11_isDeed h hI d ) (fun H2 r3 q4 o5 => ?_)
  obtain ⟨e6, y7, rfl, p8⟩ := q4
  subst H2
  clear o5
  rcases p8 with ⟨rfl, c9⟩ | ⟨rfl, c9⟩
  · refine fz_if_eq (tgt := 44) kX11_drawn rfl (by decide) (fun c10 => ?_) (fun c10 => ?_)
    · exfalso; omega
    · refine fz_aload_n kX11_drawn rfl rfl ?_
      refine fz_iload_n kX11_drawn rfl rfl ?_
      have b11 : 0 ≤ h 53 0 ∧ h 53 0 ≤ 8 := hI.1 53 _
      refine fz_callV (d' := 1) (M' := mX11_isTown) (As := [fz_i t]) (st := []) kX11_drawn rfl rfl vX11_isTown rfl rfl rfl rfl (Nat.le_of_ble_eq_true rfl) (Nat.le_of_ble_eq_true rfl) (by decide) (sX11_isTown h hI t ) (fun H12 r13 q14 o15 => ?_)
      obtain ⟨e16, y17, rfl, p18⟩ := q14
      subst H12
      clear o15
      rcases p18 with ⟨rfl, c19⟩ | ⟨rfl, c19⟩
      · refine fz_if_eq (tgt := 44) kX11_drawn rfl (by decide) (fun c20 => ?_) (fun c20 => ?_)
        · exfalso; omega
        · refine fz_iload kX11_drawn rfl rfl ?_
          refine fz_if_lt (tgt := 44) kX11_drawn rfl (by decide) (fun c21 => ?_) (fun c21 => ?_)
          · refine fz_iconst ⟨by decide, by decide⟩ kX11_drawn rfl ?_
            exact fz_iret kX11_drawn rfl rfl (fun _ => ⟨hI, hf, _, rfl, (by omega)⟩)
          · refine fz_iload kX11_drawn rfl rfl ?_
            refine fz_bipush ⟨by decide, by decide⟩ kX11_drawn rfl ?_
            refine fz_idivN kX11_drawn rfl (by omega) (by omega) (by omega) ?_
            refine fz_iconst ⟨by decide, by decide⟩ kX11_drawn rfl ?_
            refine fz_bipush ⟨by decide, by decide⟩ kX11_drawn rfl ?_
            refine fz_callS (d' := 0) (M' := mX11_within) (As := [fz_i (nw / 10), fz_i 1, fz_i 50]) (st := []) kX11_drawn rfl rfl vX11_within rfl rfl (Nat.le_of_ble_eq_true rfl) (Nat.le_of_ble_eq_true rfl) (by decide) (sX11_within h hI (nw / 10) 1 50 ) (fun H22 r23 q24 o25 => ?_)
            obtain ⟨e26, y27, rfl, p28⟩ := q24
            subst H22
            clear o25
            rcases p28 with ⟨rfl, c29⟩ | ⟨rfl, c29⟩
            · refine fz_if_eq (tgt := 44) kX11_drawn rfl (by decide) (fun c30 => ?_) (fun c30 => ?_)
              · exfalso; omega
              · refine fz_iload kX11_drawn rfl rfl ?_
                refine fz_bipush ⟨by decide, by decide⟩ kX11_drawn rfl ?_
                refine fz_iremN kX11_drawn rfl (by omega) (by omega) (by omega) ?_
                refine fz_iconst ⟨by decide, by decide⟩ kX11_drawn rfl ?_
                refine fz_icmp_le (tgt := 46) kX11_drawn rfl (by decide) (fun c31 => ?_) (fun c31 => ?_)
                · refine fz_aload_n kX11_drawn rfl rfl ?_
                  refine fz_iload_n kX11_drawn rfl rfl ?_
                  refine fz_iload_n kX11_drawn rfl rfl ?_
                  refine fz_callV (d' := 2) (M' := mX11_roadsTo) (As := [fz_i d, fz_i t]) (st := []) kX11_drawn rfl rfl vX11_roadsTo rfl rfl rfl rfl (Nat.le_of_ble_eq_true rfl) (Nat.le_of_ble_eq_true rfl) (by decide) (sX11_roadsTo h hI d t (by omega) (by omega)) (fun H32 r33 q34 o35 => ?_)
                  obtain ⟨hI36, hf37, y39, rfl, f38⟩ := q34
                  clear o35
                  have hf40 := fz_fr_tr hf hf37 (show fz_su [(86, 99999), (87, 99999)] [(86, 99999), (87, 99999)] = true from rfl)
                  refine fz_istore (ls' := [(5, fz_i y39), (0, fz_r 53), (1, fz_i d), (2, fz_i t), (3, fz_i se), (4, fz_i nw)]) kX11_drawn rfl (by decide) rfl ?_
                  refine fz_iload kX11_drawn rfl rfl ?_
                  refine fz_bipush ⟨by decide, by decide⟩ kX11_drawn rfl ?_
                  refine fz_icmp_ne (tgt := 63) kX11_drawn rfl (by decide) (fun c41 => ?_) (fun c41 => ?_)
                  · refine fz_iload_n kX11_drawn rfl rfl ?_
                    refine fz_istore (ls' := [(6, fz_i se), (5, fz_i y39), (0, fz_r 53), (1, fz_i d), (2, fz_i t), (3, fz_i se), (4, fz_i nw)]) kX11_drawn rfl (by decide) rfl ?_
                    refine fz_iconst ⟨by decide, by decide⟩ kX11_drawn rfl ?_
                    refine fz_istore (ls' := [(7, fz_i 0), (6, fz_i se), (5, fz_i y39), (0, fz_r 53), (1, fz_i d), (2, fz_i t), (3, fz_i se), (4, fz_i nw)]) kX11_drawn rfl (by decide) rfl ?_
                    refine fz_iconst ⟨by decide, by decide⟩ kX11_drawn rfl ?_
                    refine fz_istore (ls' := [(8, fz_i 0), (7, fz_i 0), (6, fz_i se), (5, fz_i y39), (0, fz_r 53), (1, fz_i d), (2, fz_i t), (3, fz_i se), (4, fz_i nw)]) kX11_drawn rfl (by decide) rfl ?_
                    refine fz_iconst ⟨by decide, by decide⟩ kX11_drawn rfl ?_
                    refine fz_istore (ls' := [(9, fz_i 0), (8, fz_i 0), (7, fz_i 0), (6, fz_i se), (5, fz_i y39), (0, fz_r 53), (1, fz_i d), (2, fz_i t), (3, fz_i se), (4, fz_i nw)]) kX11_drawn rfl (by decide) rfl ?_
                    have lp47 : ∀ (n46 : Nat) (x42 : Int) (x43 : Int) (x44 : Int) (x45 : Int), (0 ≤ x42 ∧ x42 ≤ 2147483647) → (0 ≤ x43 ∧ x43 ≤ 200) → (0 ≤ x44 ∧ x44 ≤ 50) → ((-2147483648) ≤ x45 ∧ x45 ≤ 2147483647) → (x44 ≤ x42) → (x43 ≤ 4 * x42) → ((nw / 10) - x42).toNat < n46 → fz_R 3 mX11_drawn 75 [(9, fz_i x42), (8, fz_i x43), (7, fz_i x44), (6, fz_i x45), (5, fz_i y39), (0, fz_r 53), (1, fz_i d), (2, fz_i t), (3, fz_i se), (4, fz_i nw)] [] H32 (qX11_drawn h d t se nw) := by
                      intro n46
                      induction n46 with
                      | zero => intro x42 x43 x44 x45 hv50 hv51 hv52 hv53 hv54 hv55 hm49; exact absurd hm49 (by omega)
                      | succ n46 ih48 =>
                        intro x42 x43 x44 x45 hv50 hv51 hv52 hv53 hv54 hv55 hm49
                        refine fz_iload kX11_drawn rfl rfl ?_
                        refine fz_iload kX11_drawn rfl rfl ?_
                        refine fz_bipush ⟨by decide, by decide⟩ kX11_drawn rfl ?_
                        refine fz_idivN kX11_drawn rfl (by omega) (by omega) (by omega) ?_
                        refine fz_icmp_ge (tgt := 171) kX11_drawn rfl (by decide) (fun c56 => ?_) (fun c56 => ?_)
                        · refine fz_iload kX11_drawn rfl rfl ?_
                          refine fz_bipush ⟨by decide, by decide⟩ kX11_drawn rfl ?_
                          refine fz_iremN kX11_drawn rfl (by omega) (by omega) (by omega) ?_
                          refine fz_if_ne (tgt := 184) kX11_drawn rfl (by decide) (fun c57 => ?_) (fun c57 => ?_)
                          · refine fz_iload kX11_drawn rfl rfl ?_
                            exact fz_iret kX11_drawn rfl rfl (fun _ => ⟨hI36, hf40, _, rfl, (by omega)⟩)
                          · refine fz_iload kX11_drawn rfl rfl ?_
                            refine fz_goto (tgt := 186) kX11_drawn rfl (by decide) ?_
                            exact fz_iret kX11_drawn rfl rfl (fun _ => ⟨hI36, hf40, _, rfl, (by omega)⟩)
                        · refine fz_aload_n kX11_drawn rfl rfl ?_
                          refine fz_getR (t := 63) kX11_drawn rfl rfl ?_
                          refine fz_iload_n kX11_drawn rfl rfl ?_
                          refine fz_ialdV (n := 11) (v := h 63 (d.toNat)) kX11_drawn rfl rfl (by omega) (by omega) (hf40 63 _ rfl) ?_
                          have b58 : 0 ≤ h 63 (d.toNat) ∧ h 63 (d.toNat) ≤ 4 := hI.1 63 _
                          refine fz_istore (ls' := [(10, fz_i (h 63 (d.toNat))), (9, fz_i x42), (8, fz_i x43), (7, fz_i x44), (6, fz_i x45), (5, fz_i y39), (0, fz_r 53), (1, fz_i d), (2, fz_i t), (3, fz_i se), (4, fz_i nw)]) kX11_drawn rfl (by decide) rfl ?_
                          refine fz_iconst ⟨by decide, by decide⟩ kX11_drawn rfl ?_
                          refine fz_istore (ls' := [(11, fz_i 0), (10, fz_i (h 63 (d.toNat))), (9, fz_i x42), (8, fz_i x43), (7, fz_i x44), (6, fz_i x45), (5, fz_i y39), (0, fz_r 53), (1, fz_i d), (2, fz_i t), (3, fz_i se), (4, fz_i nw)]) kX11_drawn rfl (by decide) rfl ?_
                          have lp63 : ∀ (n62 : Nat) (x59 : Int) (x60 : Int) (x61 : Int), (0 ≤ x59 ∧ x59 ≤ 2147483647) → (0 ≤ x60 ∧ x60 ≤ 4) → ((-2147483648) ≤ x61 ∧ x61 ≤ 2147483647) → (y39 - x59).toNat < n62 → fz_R 3 mX11_drawn 96 [(11, fz_i x59), (10, fz_i x60), (9, fz_i x42), (8, fz_i x43), (7, fz_i x44), (6, fz_i x61), (5, fz_i y39), (0, fz_r 53), (1, fz_i d), (2, fz_i t), (3, fz_i se), (4, fz_i nw)] [] H32 (qX11_drawn h d t se nw) := by
                            intro n62
                            induction n62 with
                            | zero => intro x59 x60 x61 hv66 hv67 hv68 hm65; exact absurd hm65 (by omega)
                            | succ n62 ih64 =>
                              intro x59 x60 x61 hv66 hv67 hv68 hm65
                              refine fz_iload kX11_drawn rfl rfl ?_
                              refine fz_iload kX11_drawn rfl rfl ?_
                              refine fz_icmp_ge (tgt := 144) kX11_drawn rfl (by decide) (fun c69 => ?_) (fun c69 => ?_)
                              · refine fz_iload kX11_drawn rfl rfl ?_
                                refine fz_aload_n kX11_drawn rfl rfl ?_
                                refine fz_getR (t := 63) kX11_drawn rfl rfl ?_
                                refine fz_iload_n kX11_drawn rfl rfl ?_
                                refine fz_ialdV (n := 11) (v := h 63 (d.toNat)) kX11_drawn rfl rfl (by omega) (by omega) (hf40 63 _ rfl) ?_
                                refine fz_icmp_ne (tgt := 158) kX11_drawn rfl (by decide) (fun c70 => ?_) (fun c70 => ?_)
                                · refine fz_iload kX11_drawn rfl rfl ?_
                                  refine fz_iload kX11_drawn rfl rfl ?_
                                  refine fz_iaddN kX11_drawn rfl (by omega) ?_
                                  refine fz_istore (ls' := [(8, fz_i (x43 + x60)), (11, fz_i x59), (10, fz_i x60), (9, fz_i x42), (7, fz_i x44), (6, fz_i x61), (5, fz_i y39), (0, fz_r 53), (1, fz_i d), (2, fz_i t), (3, fz_i se), (4, fz_i nw)]) kX11_drawn rfl (by decide) rfl ?_
                                  refine fz_iincN (ls' := [(9, fz_i (x42 + 1)), (8, fz_i (x43 + x60)), (11, fz_i x59), (10, fz_i x60), (7, fz_i x44), (6, fz_i x61), (5, fz_i y39), (0, fz_r 53), (1, fz_i d), (2, fz_i t), (3, fz_i se), (4, fz_i nw)]) kX11_drawn rfl (by decide) rfl (by omega) rfl ?_
                                  refine fz_goto (tgt := 75) kX11_drawn rfl (by decide) ?_
                                  refine fz_sub (fz_pk_sub (ls' := [(9, fz_i (x42 + 1)), (8, fz_i (x43 + x60)), (7, fz_i x44), (6, fz_i x61), (5, fz_i y39), (0, fz_r 53), (1, fz_i d), (2, fz_i t), (3, fz_i se), (4, fz_i nw)]) [0, 1, 4, 5, 6, 7, 8, 9, 10, 11] rfl) ?_
                                  exact ih48 (x42 + 1) (x43 + x60) x44 x61 (by omega) (by omega) (by omega) (by omega) (by omega) (by omega) (by omega)
                                · refine fz_iincN (ls' := [(7, fz_i (x44 + 1)), (11, fz_i x59), (10, fz_i x60), (9, fz_i x42), (8, fz_i x43), (6, fz_i x61), (5, fz_i y39), (0, fz_r 53), (1, fz_i d), (2, fz_i t), (3, fz_i se), (4, fz_i nw)]) kX11_drawn rfl (by decide) rfl (by omega) rfl ?_
                                  refine fz_iload kX11_drawn rfl rfl ?_
                                  refine fz_iload kX11_drawn rfl rfl ?_
                                  refine fz_iaddN kX11_drawn rfl (by omega) ?_
                                  refine fz_istore (ls' := [(8, fz_i (x43 + x60)), (7, fz_i (x44 + 1)), (11, fz_i x59), (10, fz_i x60), (9, fz_i x42), (6, fz_i x61), (5, fz_i y39), (0, fz_r 53), (1, fz_i d), (2, fz_i t), (3, fz_i se), (4, fz_i nw)]) kX11_drawn rfl (by decide) rfl ?_
                                  refine fz_iincN (ls' := [(9, fz_i (x42 + 1)), (8, fz_i (x43 + x60)), (7, fz_i (x44 + 1)), (11, fz_i x59), (10, fz_i x60), (6, fz_i x61), (5, fz_i y39), (0, fz_r 53), (1, fz_i d), (2, fz_i t), (3, fz_i se), (4, fz_i nw)]) kX11_drawn rfl (by decide) rfl (by omega) rfl ?_
                                  refine fz_goto (tgt := 75) kX11_drawn rfl (by decide) ?_
                                  refine fz_sub (fz_pk_sub (ls' := [(9, fz_i (x42 + 1)), (8, fz_i (x43 + x60)), (7, fz_i (x44 + 1)), (6, fz_i x61), (5, fz_i y39), (0, fz_r 53), (1, fz_i d), (2, fz_i t), (3, fz_i se), (4, fz_i nw)]) [0, 1, 2, 5, 6, 7, 8, 9, 10, 11] rfl) ?_
                                  exact ih48 (x42 + 1) (x43 + x60) (x44 + 1) x61 (by omega) (by omega) (by omega) (by omega) (by omega) (by omega) (by omega)
                              · refine fz_iload kX11_drawn rfl rfl ?_
                                refine fz_ldcw (x := 1103515245) kX11_drawn rfl rfl rfl ?_
                                refine fz_imul kX11_drawn rfl ?_
                                refine fz_nmw (fun z71 e72 => ?_)
                                refine fz_sipush ⟨by decide, by decide⟩ kX11_drawn rfl ?_
                                refine fz_iadd kX11_drawn rfl ?_
                                refine fz_nmw (fun z73 e74 => ?_)
                                refine fz_istore (ls' := [(6, fz_i z73), (11, fz_i x59), (10, fz_i x60), (9, fz_i x42), (8, fz_i x43), (7, fz_i x44), (5, fz_i y39), (0, fz_r 53), (1, fz_i d), (2, fz_i t), (3, fz_i se), (4, fz_i nw)]) kX11_drawn rfl (by decide) rfl ?_
                                refine fz_iload kX11_drawn rfl rfl ?_
                                refine fz_bipush ⟨by decide, by decide⟩ kX11_drawn rfl ?_
                                refine fz_iushr kX11_drawn rfl ?_
                                have b75 : -2147483648 ≤ (fz_ush z73 8) ∧ (fz_ush z73 8) < 2147483648 := fz_b32 _
                                refine fz_bipush ⟨by decide, by decide⟩ kX11_drawn rfl ?_
                                refine fz_iremT kX11_drawn rfl (by decide) (by decide) (fun z76 r77 e78 e79 e80 e81 e82 e83 => ?_)
                                refine fz_aload_n kX11_drawn rfl rfl ?_
                                refine fz_getV (v := h 53 9) kX11_drawn rfl rfl (hf40 53 9 rfl) ?_
                                have b85 : 0 ≤ h 53 9 ∧ h 53 9 ≤ 12 := hI.1 53 _
                                refine fz_icmp_ge (tgt := 138) kX11_drawn rfl (by decide) (fun c86 => ?_) (fun c86 => ?_)
                                · refine fz_iincN (ls' := [(11, fz_i (x59 + 1)), (6, fz_i z73), (10, fz_i x60), (9, fz_i x42), (8, fz_i x43), (7, fz_i x44), (5, fz_i y39), (0, fz_r 53), (1, fz_i d), (2, fz_i t), (3, fz_i se), (4, fz_i nw)]) kX11_drawn rfl (by decide) rfl (by omega) rfl ?_
                                  refine fz_goto (tgt := 96) kX11_drawn rfl (by decide) ?_
                                  refine fz_sub (fz_pk_sub (ls' := [(11, fz_i (x59 + 1)), (10, fz_i x60), (9, fz_i x42), (8, fz_i x43), (7, fz_i x44), (6, fz_i z73), (5, fz_i y39), (0, fz_r 53), (1, fz_i d), (2, fz_i t), (3, fz_i se), (4, fz_i nw)]) [0, 2, 3, 4, 5, 1, 6, 7, 8, 9, 10, 11] rfl) ?_
                                  exact ih64 (x59 + 1) x60 z73 (by omega) (by omega) (by omega) (by omega)
                                · refine fz_iload kX11_drawn rfl rfl ?_
                                  refine fz_iconst ⟨by decide, by decide⟩ kX11_drawn rfl ?_
                                  refine fz_iaddN kX11_drawn rfl (by omega) ?_
                                  refine fz_iconst ⟨by decide, by decide⟩ kX11_drawn rfl ?_
                                  refine fz_iremN kX11_drawn rfl (by omega) (by omega) (by omega) ?_
                                  refine fz_istore (ls' := [(10, fz_i ((x60 + 1) % 5)), (6, fz_i z73), (11, fz_i x59), (9, fz_i x42), (8, fz_i x43), (7, fz_i x44), (5, fz_i y39), (0, fz_r 53), (1, fz_i d), (2, fz_i t), (3, fz_i se), (4, fz_i nw)]) kX11_drawn rfl (by decide) rfl ?_
                                  refine fz_iincN (ls' := [(11, fz_i (x59 + 1)), (10, fz_i ((x60 + 1) % 5)), (6, fz_i z73), (9, fz_i x42), (8, fz_i x43), (7, fz_i x44), (5, fz_i y39), (0, fz_r 53), (1, fz_i d), (2, fz_i t), (3, fz_i se), (4, fz_i nw)]) kX11_drawn rfl (by decide) rfl (by omega) rfl ?_
                                  refine fz_goto (tgt := 96) kX11_drawn rfl (by decide) ?_
                                  refine fz_sub (fz_pk_sub (ls' := [(11, fz_i (x59 + 1)), (10, fz_i ((x60 + 1) % 5)), (9, fz_i x42), (8, fz_i x43), (7, fz_i x44), (6, fz_i z73), (5, fz_i y39), (0, fz_r 53), (1, fz_i d), (2, fz_i t), (3, fz_i se), (4, fz_i nw)]) [0, 1, 3, 4, 5, 2, 6, 7, 8, 9, 10, 11] rfl) ?_
                                  exact ih64 (x59 + 1) ((x60 + 1) % 5) z73 (by omega) (by omega) (by omega) (by omega)
                          exact lp63 _ 0 (h 63 (d.toNat)) x45 (by omega) (by omega) (by omega) (Nat.lt_succ_self _)
                    exact lp47 _ 0 0 0 se (by omega) (by omega) (by omega) (by omega) (by omega) (by omega) (Nat.lt_succ_self _)
                  · refine fz_iconst ⟨by decide, by decide⟩ kX11_drawn rfl ?_
                    exact fz_iret kX11_drawn rfl rfl (fun _ => ⟨hI36, hf40, _, rfl, (by omega)⟩)
                · refine fz_iconst ⟨by decide, by decide⟩ kX11_drawn rfl ?_
                  exact fz_iret kX11_drawn rfl rfl (fun _ => ⟨hI, hf, _, rfl, (by omega)⟩)
            · refine fz_if_eq (tgt := 44) kX11_drawn rfl (by decide) (fun c87 => ?_) (fun c87 => ?_)
              · refine fz_iconst ⟨by decide, by decide⟩ kX11_drawn rfl ?_
                exact fz_iret kX11_drawn rfl rfl (fun _ => ⟨hI, hf, _, rfl, (by omega)⟩)
              · exfalso; omega
      · refine fz_if_eq (tgt := 44) kX11_drawn rfl (by decide) (fun c88 => ?_) (fun c88 => ?_)
        · refine fz_iconst ⟨by decide, by decide⟩ kX11_drawn rfl ?_
          exact fz_iret kX11_drawn rfl rfl (fun _ => ⟨hI, hf, _, rfl, (by omega)⟩)
        · exfalso; omega
  · refine fz_if_eq (tgt := 44) kX11_drawn rfl (by decide) (fun c89 => ?_) (fun c89 => ?_)
    · refine fz_iconst ⟨by decide, by decide⟩ kX11_drawn rfl ?_
      exact fz_iret kX11_drawn rfl rfl (fun _ => ⟨hI, hf, _, rfl, (by omega)⟩)
    · exfalso; omega

abbrev qX11_walk (h : fz_H) (on rd : Int) : fz_H → Option fz_V → Prop := fun h' r0 => fz_Iv h' ∧ fz_fr [(53, 34), (74, 99999), (75, 99999), (76, 99999), (77, 99999), (86, 99999), (87, 99999), (88, 99999)] h h' ∧ fz_Xw h' ∧ ∃ r : Int, r0 = some (fz_i r) ∧ ((-5) ≤ r ∧ r ≤ 7)
set_option maxHeartbeats 1000000 in
set_option maxRecDepth 100000 in
theorem sX11_walk (h : fz_H) (hI : fz_Iv h) (on rd : Int) (hXw : fz_Xw h) : fz_R 5 mX11_walk 0 [(0, fz_r 53), (1, fz_i on), (2, fz_i rd)] [] h (qX11_walk h on rd) := by
  refine fz_knowl (fun hk => ?_)
  have hr_on : -2147483648 ≤ on ∧ on < 2147483648 := hk _ (List.Mem.tail _ (List.Mem.head _))
  have hr_rd : -2147483648 ≤ rd ∧ rd < 2147483648 := hk _ (List.Mem.tail _ (List.Mem.tail _ (List.Mem.head _)))
  clear hk
  have hf : fz_fr [(53, 34), (74, 99999), (75, 99999), (76, 99999), (77, 99999), (86, 99999), (87, 99999), (88, 99999)] h h := fz_fr_rf
  refine fz_iload_n kX11_walk rfl rfl ?_
  refine fz_callS (d' := 1) (M' := mX11_isPerson) (As := [fz_i on]) (st := []) kX11_walk rfl rfl vX11_isPerson rfl rfl (Nat.le_of_ble_eq_true rfl) (Nat.le_of_ble_eq_true rfl) (by decide) (sX11_isPerson h hI on ) (fun H1 r2 q3 o4 => ?_)
  obtain ⟨e5, y6, rfl, p7⟩ := q3
  subst H1
  clear o4
  rcases p7 with ⟨rfl, c8⟩ | ⟨rfl, c8⟩
  · refine fz_if_eq (tgt := 15) kX11_walk rfl (by decide) (fun c9 => ?_) (fun c9 => ?_)
    · exfalso; omega
    · refine fz_aload_n kX11_walk rfl rfl ?_
      refine fz_iload_n kX11_walk rfl rfl ?_
      have b10 : 0 ≤ h 53 2 ∧ h 53 2 ≤ 12 := hI.1 53 _
      refine fz_callV (d' := 1) (M' := mX11_isRoad) (As := [fz_i rd]) (st := []) kX11_walk rfl rfl vX11_isRoad rfl rfl rfl rfl (Nat.le_of_ble_eq_true rfl) (Nat.le_of_ble_eq_true rfl) (by decide) (sX11_isRoad h hI rd ) (fun H11 r12 q13 o14 => ?_)
      obtain ⟨e15, y16, rfl, p17⟩ := q13
      subst H11
      clear o14
      rcases p17 with ⟨rfl, c18⟩ | ⟨rfl, c18⟩
      · refine fz_if_ne (tgt := 17) kX11_walk rfl (by decide) (fun c19 => ?_) (fun c19 => ?_)
        · refine fz_aload_n kX11_walk rfl rfl ?_
          refine fz_getR (t := 76) kX11_walk rfl rfl ?_
          refine fz_iload_n kX11_walk rfl rfl ?_
          refine fz_ialdV (n := 4) (v := h 76 (on.toNat)) kX11_walk rfl rfl (by omega) (by omega) rfl ?_
          have b20 : 0 ≤ h 76 (on.toNat) ∧ h 76 (on.toNat) ≤ 7 := hI.1 76 _
          refine fz_istore_n (ls' := [(3, fz_i (h 76 (on.toNat))), (0, fz_r 53), (1, fz_i on), (2, fz_i rd)]) kX11_walk rfl (by decide) rfl ?_
          refine fz_aload_n kX11_walk rfl rfl ?_
          refine fz_getR (t := 55) kX11_walk rfl rfl ?_
          refine fz_iload_n kX11_walk rfl rfl ?_
          refine fz_ialdV (n := 12) (v := h 55 (rd.toNat)) kX11_walk rfl rfl (by omega) (by omega) rfl ?_
          have b21 : 0 ≤ h 55 (rd.toNat) ∧ h 55 (rd.toNat) ≤ 7 := hI.1 55 _
          refine fz_iload_n kX11_walk rfl rfl ?_
          refine fz_icmp_eq (tgt := 47) kX11_walk rfl (by decide) (fun c22 => ?_) (fun c22 => ?_)
          · refine fz_aload_n kX11_walk rfl rfl ?_
            refine fz_getV (v := h 53 34) kX11_walk rfl rfl rfl ?_
            have b23 : 0 ≤ h 53 34 ∧ h 53 34 ≤ 999 := hI.1 53 _
            refine fz_aload_n kX11_walk rfl rfl ?_
            refine fz_getR (t := 57) kX11_walk rfl rfl ?_
            refine fz_iload_n kX11_walk rfl rfl ?_
            refine fz_ialdV (n := 12) (v := h 57 (rd.toNat)) kX11_walk rfl rfl (by omega) (by omega) rfl ?_
            have b24 : 0 ≤ h 57 (rd.toNat) ∧ h 57 (rd.toNat) ≤ 24 := hI.1 57 _
            refine fz_iaddN kX11_walk rfl (by omega) ?_
            refine fz_sipush ⟨by decide, by decide⟩ kX11_walk rfl ?_
            refine fz_icmp_le (tgt := 67) kX11_walk rfl (by decide) (fun c25 => ?_) (fun c25 => ?_)
            · refine fz_aload_n kX11_walk rfl rfl ?_
              refine fz_dup rfl kX11_walk rfl ?_
              refine fz_getV (v := h 53 34) kX11_walk rfl rfl rfl ?_
              refine fz_aload_n kX11_walk rfl rfl ?_
              refine fz_getR (t := 57) kX11_walk rfl rfl ?_
              refine fz_iload_n kX11_walk rfl rfl ?_
              refine fz_ialdV (n := 12) (v := h 57 (rd.toNat)) kX11_walk rfl rfl (by omega) (by omega) rfl ?_
              refine fz_iaddN kX11_walk rfl (by omega) ?_
              refine fz_putI kX11_walk rfl rfl rfl ?_
              refine fz_nmu (S := [(53, 34), (74, 99999), (75, 99999), (76, 99999), (77, 99999), (86, 99999), (87, 99999), (88, 99999)]) (h0 := h) (fz_Iv_up hI (by decide) (show 0 ≤ ((h 53 34) + (h 57 (rd.toNat))) by omega) (show ((h 53 34) + (h 57 (rd.toNat))) ≤ 999 by omega)) (fz_fr_up hf rfl) (fun H26 hI27 hf28 e29 => ?_)
              have k30 : H26 53 34 = ((h 53 34) + (h 57 (rd.toNat))) := by rw [e29]; exact fz_up_e
              have hXw31 : fz_Xw H26 := fz_Xw_eq (by rw [e29]; exact fz_up_s (by decide)) (by rw [e29]; exact fz_up_ne (by decide)) (by rw [e29]; exact fz_up_ne (by decide)) (by rw [e29]; exact fz_up_ne (by decide)) (by rw [e29]; exact fz_up_ne (by decide)) hXw
              clear e29
              refine fz_aload_n kX11_walk rfl rfl ?_
              refine fz_getR (t := 76) kX11_walk rfl rfl ?_
              refine fz_iload_n kX11_walk rfl rfl ?_
              refine fz_aload_n kX11_walk rfl rfl ?_
              refine fz_getR (t := 55) kX11_walk rfl rfl ?_
              refine fz_iload_n kX11_walk rfl rfl ?_
              refine fz_ialdV (n := 12) (v := h 55 (rd.toNat)) kX11_walk rfl rfl (by omega) (by omega) (hf28 55 _ rfl) ?_
              refine fz_iload_n kX11_walk rfl rfl ?_
              refine fz_icmp_ne (tgt := 106) kX11_walk rfl (by decide) (fun c32 => ?_) (fun c32 => ?_)
              · refine fz_aload_n kX11_walk rfl rfl ?_
                refine fz_getR (t := 55) kX11_walk rfl rfl ?_
                refine fz_iload_n kX11_walk rfl rfl ?_
                refine fz_ialdV (n := 12) (v := h 55 (rd.toNat)) kX11_walk rfl rfl (by omega) (by omega) (hf28 55 _ rfl) ?_
                refine fz_iast (n := 4) kX11_walk rfl rfl (by omega) (by omega) ?_
                refine fz_nmu (S := [(53, 34), (74, 99999), (75, 99999), (76, 99999), (77, 99999), (86, 99999), (87, 99999), (88, 99999)]) (h0 := h) (fz_Iv_up hI27 (by decide) (show 0 ≤ (h 55 (rd.toNat)) by omega) (show (h 55 (rd.toNat)) ≤ 7 by omega)) (fz_fr_up hf28 rfl) (fun H33 hI34 hf35 e36 => ?_)
                have k37 : H33 53 34 = ((h 53 34) + (h 57 (rd.toNat))) := by rw [e36]; exact (fz_up_o (by decide)).trans k30
                have hXw38 : fz_Xw H33 := fz_Xw_eq (by rw [e36]; exact fz_up_o (by decide)) (by rw [e36]; exact fz_up_ne (by decide)) (by rw [e36]; exact fz_up_ne (by decide)) (by rw [e36]; exact fz_up_ne (by decide)) (by rw [e36]; exact fz_up_ne (by decide)) hXw31
                clear e36
                refine fz_aload_n kX11_walk rfl rfl ?_
                refine fz_getR (t := 77) kX11_walk rfl rfl ?_
                refine fz_iconst ⟨by decide, by decide⟩ kX11_walk rfl ?_
                refine fz_dup2 rfl rfl kX11_walk rfl ?_
                obtain ⟨v39, e40⟩ : ∃ z, H33 77 (0) = z := ⟨_, rfl⟩
                refine fz_ialdV (n := 4) (v := v39) kX11_walk rfl rfl (by omega) (by omega) e40 ?_
                have b41 : (-2147483648) ≤ v39 ∧ v39 ≤ 2147483647 := by rw [← e40]; exact hI34.1 77 _
                refine fz_iconst ⟨by decide, by decide⟩ kX11_walk rfl ?_
                refine fz_iadd kX11_walk rfl ?_
                refine fz_nmw (fun z42 e43 => ?_)
                refine fz_iast (n := 4) kX11_walk rfl rfl (by omega) (by omega) ?_
                refine fz_nmu (S := [(53, 34), (74, 99999), (75, 99999), (76, 99999), (77, 99999), (86, 99999), (87, 99999), (88, 99999)]) (h0 := h) (fz_Iv_up hI34 (by decide) (show (-2147483648) ≤ z42 by omega) (show z42 ≤ 2147483647 by omega)) (fz_fr_up hf35 rfl) (fun H44 hI45 hf46 e47 => ?_)
                have k48 : H44 53 34 = ((h 53 34) + (h 57 (rd.toNat))) := by rw [e47]; exact (fz_up_o (by decide)).trans k37
                have hXw49 : fz_Xw H44 := fz_Xw_eq (by rw [e47]; exact fz_up_o (by decide)) (by rw [e47]; exact fz_up_ne (by decide)) (by rw [e47]; exact fz_up_ne (by decide)) (by rw [e47]; exact fz_up_ne (by decide)) (by rw [e47]; exact fz_up_ne (by decide)) hXw38
                clear e47
                refine fz_aload_n kX11_walk rfl rfl ?_
                refine fz_getR (t := 77) kX11_walk rfl rfl ?_
                refine fz_iconst ⟨by decide, by decide⟩ kX11_walk rfl ?_
                refine fz_dup2 rfl rfl kX11_walk rfl ?_
                obtain ⟨v50, e51⟩ : ∃ z, H44 77 (1) = z := ⟨_, rfl⟩
                refine fz_ialdV (n := 4) (v := v50) kX11_walk rfl rfl (by omega) (by omega) e51 ?_
                have b52 : (-2147483648) ≤ v50 ∧ v50 ≤ 2147483647 := by rw [← e51]; exact hI45.1 77 _
                refine fz_aload_n kX11_walk rfl rfl ?_
                refine fz_getR (t := 57) kX11_walk rfl rfl ?_
                refine fz_iload_n kX11_walk rfl rfl ?_
                refine fz_ialdV (n := 12) (v := h 57 (rd.toNat)) kX11_walk rfl rfl (by omega) (by omega) (hf46 57 _ rfl) ?_
                refine fz_iadd kX11_walk rfl ?_
                refine fz_nmw (fun z53 e54 => ?_)
                refine fz_iast (n := 4) kX11_walk rfl rfl (by omega) (by omega) ?_
                refine fz_nmu (S := [(53, 34), (74, 99999), (75, 99999), (76, 99999), (77, 99999), (86, 99999), (87, 99999), (88, 99999)]) (h0 := h) (fz_Iv_up hI45 (by decide) (show (-2147483648) ≤ z53 by omega) (show z53 ≤ 2147483647 by omega)) (fz_fr_up hf46 rfl) (fun H55 hI56 hf57 e58 => ?_)
                have k59 : H55 53 34 = ((h 53 34) + (h 57 (rd.toNat))) := by rw [e58]; exact (fz_up_o (by decide)).trans k48
                have hXw60 : fz_Xw H55 := fz_Xw_eq (by rw [e58]; exact fz_up_o (by decide)) (by rw [e58]; exact fz_up_ne (by decide)) (by rw [e58]; exact fz_up_ne (by decide)) (by rw [e58]; exact fz_up_ne (by decide)) (by rw [e58]; exact fz_up_ne (by decide)) hXw49
                clear e58
                refine fz_aload_n kX11_walk rfl rfl ?_
                refine fz_callV (d' := 3) (M' := mX11_allHear) (As := []) (st := []) kX11_walk rfl rfl vX11_allHear rfl rfl rfl rfl (Nat.le_of_ble_eq_true rfl) (Nat.le_of_ble_eq_true rfl) (by decide) (sX11_allHear H55 hI56  ) (fun H61 r62 q63 o64 => ?_)
                obtain ⟨hI65, hf66, rfl⟩ := q63
                clear o64
                have hf67 := fz_fr_tr hf57 hf66 (show fz_su [(86, 99999), (87, 99999), (88, 99999)] [(53, 34), (74, 99999), (75, 99999), (76, 99999), (77, 99999), (86, 99999), (87, 99999), (88, 99999)] = true from rfl)
                have k68 : H61 53 34 = ((h 53 34) + (h 57 (rd.toNat))) := (hf66 53 34 rfl).trans k59
                have hXw69 : fz_Xw H61 := fz_Xw_eq (hf66 53 19 rfl) (funext fun s => hf66 66 s rfl) (funext fun s => hf66 67 s rfl) (funext fun s => hf66 68 s rfl) (funext fun s => hf66 69 s rfl) hXw60
                refine fz_aload_n kX11_walk rfl rfl ?_
                refine fz_iload_n kX11_walk rfl rfl ?_
                refine fz_aload_n kX11_walk rfl rfl ?_
                refine fz_getR (t := 76) kX11_walk rfl rfl ?_
                refine fz_iload_n kX11_walk rfl rfl ?_
                obtain ⟨v70, e71⟩ : ∃ z, H61 76 (on.toNat) = z := ⟨_, rfl⟩
                refine fz_ialdV (n := 4) (v := v70) kX11_walk rfl rfl (by omega) (by omega) e71 ?_
                have b72 : 0 ≤ v70 ∧ v70 ≤ 7 := by rw [← e71]; exact hI65.1 76 _
                refine fz_aload_n kX11_walk rfl rfl ?_
                refine fz_getV (v := ((h 53 34) + (h 57 (rd.toNat)))) kX11_walk rfl rfl k68 ?_
                refine fz_callV (d' := 4) (M' := mX11_isArrested) (As := [fz_i on, fz_i v70, fz_i ((h 53 34) + (h 57 (rd.toNat)))]) (st := []) kX11_walk rfl rfl vX11_isArrested rfl rfl rfl rfl (Nat.le_of_ble_eq_true rfl) (Nat.le_of_ble_eq_true rfl) (by decide) (sX11_isArrested H61 hI65 on v70 ((h 53 34) + (h 57 (rd.toNat))) hXw69 (by omega)) (fun H73 r74 q75 o76 => ?_)
                obtain ⟨hI77, hf78, hXw79, y80, rfl, p81⟩ := q75
                clear o76
                have hf82 := fz_fr_tr hf67 hf78 (show fz_su [(74, 99999), (75, 99999)] [(53, 34), (74, 99999), (75, 99999), (76, 99999), (77, 99999), (86, 99999), (87, 99999), (88, 99999)] = true from rfl)
                have k83 : H73 53 34 = ((h 53 34) + (h 57 (rd.toNat))) := (hf78 53 34 rfl).trans k68
                refine fz_if_eq (tgt := 170) kX11_walk rfl (by decide) (fun c84 => ?_) (fun c84 => ?_)
                · refine fz_aload_n kX11_walk rfl rfl ?_
                  refine fz_getR (t := 76) kX11_walk rfl rfl ?_
                  refine fz_iload_n kX11_walk rfl rfl ?_
                  obtain ⟨v85, e86⟩ : ∃ z, H73 76 (on.toNat) = z := ⟨_, rfl⟩
                  refine fz_ialdV (n := 4) (v := v85) kX11_walk rfl rfl (by omega) (by omega) e86 ?_
                  have b87 : 0 ≤ v85 ∧ v85 ≤ 7 := by rw [← e86]; exact hI77.1 76 _
                  exact fz_iret kX11_walk rfl rfl (fun _ => ⟨hI77, hf82, hXw79, _, rfl, (by omega)⟩)
                · refine fz_aload_n kX11_walk rfl rfl ?_
                  refine fz_getR (t := 77) kX11_walk rfl rfl ?_
                  refine fz_iconst ⟨by decide, by decide⟩ kX11_walk rfl ?_
                  refine fz_dup2 rfl rfl kX11_walk rfl ?_
                  obtain ⟨v88, e89⟩ : ∃ z, H73 77 (2) = z := ⟨_, rfl⟩
                  refine fz_ialdV (n := 4) (v := v88) kX11_walk rfl rfl (by omega) (by omega) e89 ?_
                  have b90 : (-2147483648) ≤ v88 ∧ v88 ≤ 2147483647 := by rw [← e89]; exact hI77.1 77 _
                  refine fz_iconst ⟨by decide, by decide⟩ kX11_walk rfl ?_
                  refine fz_iadd kX11_walk rfl ?_
                  refine fz_nmw (fun z91 e92 => ?_)
                  refine fz_iast (n := 4) kX11_walk rfl rfl (by omega) (by omega) ?_
                  refine fz_nmu (S := [(53, 34), (74, 99999), (75, 99999), (76, 99999), (77, 99999), (86, 99999), (87, 99999), (88, 99999)]) (h0 := h) (fz_Iv_up hI77 (by decide) (show (-2147483648) ≤ z91 by omega) (show z91 ≤ 2147483647 by omega)) (fz_fr_up hf82 rfl) (fun H93 hI94 hf95 e96 => ?_)
                  have k97 : H93 53 34 = ((h 53 34) + (h 57 (rd.toNat))) := by rw [e96]; exact (fz_up_o (by decide)).trans k83
                  have hXw98 : fz_Xw H93 := fz_Xw_eq (by rw [e96]; exact fz_up_o (by decide)) (by rw [e96]; exact fz_up_ne (by decide)) (by rw [e96]; exact fz_up_ne (by decide)) (by rw [e96]; exact fz_up_ne (by decide)) (by rw [e96]; exact fz_up_ne (by decide)) hXw79
                  clear e96
                  refine fz_aload_n kX11_walk rfl rfl ?_
                  refine fz_getR (t := 76) kX11_walk rfl rfl ?_
                  refine fz_iload_n kX11_walk rfl rfl ?_
                  obtain ⟨v99, e100⟩ : ∃ z, H93 76 (on.toNat) = z := ⟨_, rfl⟩
                  refine fz_ialdV (n := 4) (v := v99) kX11_walk rfl rfl (by omega) (by omega) e100 ?_
                  have b101 : 0 ≤ v99 ∧ v99 ≤ 7 := by rw [← e100]; exact hI94.1 76 _
                  exact fz_iret kX11_walk rfl rfl (fun _ => ⟨hI94, hf95, hXw98, _, rfl, (by omega)⟩)
              · refine fz_aload_n kX11_walk rfl rfl ?_
                refine fz_getR (t := 56) kX11_walk rfl rfl ?_
                refine fz_iload_n kX11_walk rfl rfl ?_
                refine fz_ialdV (n := 12) (v := h 56 (rd.toNat)) kX11_walk rfl rfl (by omega) (by omega) (hf28 56 _ rfl) ?_
                have b102 : 0 ≤ h 56 (rd.toNat) ∧ h 56 (rd.toNat) ≤ 7 := hI.1 56 _
                refine fz_goto (tgt := 112) kX11_walk rfl (by decide) ?_
                refine fz_iast (n := 4) kX11_walk rfl rfl (by omega) (by omega) ?_
                refine fz_nmu (S := [(53, 34), (74, 99999), (75, 99999), (76, 99999), (77, 99999), (86, 99999), (87, 99999), (88, 99999)]) (h0 := h) (fz_Iv_up hI27 (by decide) (show 0 ≤ (h 56 (rd.toNat)) by omega) (show (h 56 (rd.toNat)) ≤ 7 by omega)) (fz_fr_up hf28 rfl) (fun H103 hI104 hf105 e106 => ?_)
                have k107 : H103 53 34 = ((h 53 34) + (h 57 (rd.toNat))) := by rw [e106]; exact (fz_up_o (by decide)).trans k30
                have hXw108 : fz_Xw H103 := fz_Xw_eq (by rw [e106]; exact fz_up_o (by decide)) (by rw [e106]; exact fz_up_ne (by decide)) (by rw [e106]; exact fz_up_ne (by decide)) (by rw [e106]; exact fz_up_ne (by decide)) (by rw [e106]; exact fz_up_ne (by decide)) hXw31
                clear e106
                refine fz_aload_n kX11_walk rfl rfl ?_
                refine fz_getR (t := 77) kX11_walk rfl rfl ?_
                refine fz_iconst ⟨by decide, by decide⟩ kX11_walk rfl ?_
                refine fz_dup2 rfl rfl kX11_walk rfl ?_
                obtain ⟨v109, e110⟩ : ∃ z, H103 77 (0) = z := ⟨_, rfl⟩
                refine fz_ialdV (n := 4) (v := v109) kX11_walk rfl rfl (by omega) (by omega) e110 ?_
                have b111 : (-2147483648) ≤ v109 ∧ v109 ≤ 2147483647 := by rw [← e110]; exact hI104.1 77 _
                refine fz_iconst ⟨by decide, by decide⟩ kX11_walk rfl ?_
                refine fz_iadd kX11_walk rfl ?_
                refine fz_nmw (fun z112 e113 => ?_)
                refine fz_iast (n := 4) kX11_walk rfl rfl (by omega) (by omega) ?_
                refine fz_nmu (S := [(53, 34), (74, 99999), (75, 99999), (76, 99999), (77, 99999), (86, 99999), (87, 99999), (88, 99999)]) (h0 := h) (fz_Iv_up hI104 (by decide) (show (-2147483648) ≤ z112 by omega) (show z112 ≤ 2147483647 by omega)) (fz_fr_up hf105 rfl) (fun H114 hI115 hf116 e117 => ?_)
                have k118 : H114 53 34 = ((h 53 34) + (h 57 (rd.toNat))) := by rw [e117]; exact (fz_up_o (by decide)).trans k107
                have hXw119 : fz_Xw H114 := fz_Xw_eq (by rw [e117]; exact fz_up_o (by decide)) (by rw [e117]; exact fz_up_ne (by decide)) (by rw [e117]; exact fz_up_ne (by decide)) (by rw [e117]; exact fz_up_ne (by decide)) (by rw [e117]; exact fz_up_ne (by decide)) hXw108
                clear e117
                refine fz_aload_n kX11_walk rfl rfl ?_
                refine fz_getR (t := 77) kX11_walk rfl rfl ?_
                refine fz_iconst ⟨by decide, by decide⟩ kX11_walk rfl ?_
                refine fz_dup2 rfl rfl kX11_walk rfl ?_
                obtain ⟨v120, e121⟩ : ∃ z, H114 77 (1) = z := ⟨_, rfl⟩
                refine fz_ialdV (n := 4) (v := v120) kX11_walk rfl rfl (by omega) (by omega) e121 ?_
                have b122 : (-2147483648) ≤ v120 ∧ v120 ≤ 2147483647 := by rw [← e121]; exact hI115.1 77 _
                refine fz_aload_n kX11_walk rfl rfl ?_
                refine fz_getR (t := 57) kX11_walk rfl rfl ?_
                refine fz_iload_n kX11_walk rfl rfl ?_
                refine fz_ialdV (n := 12) (v := h 57 (rd.toNat)) kX11_walk rfl rfl (by omega) (by omega) (hf116 57 _ rfl) ?_
                refine fz_iadd kX11_walk rfl ?_
                refine fz_nmw (fun z123 e124 => ?_)
                refine fz_iast (n := 4) kX11_walk rfl rfl (by omega) (by omega) ?_
                refine fz_nmu (S := [(53, 34), (74, 99999), (75, 99999), (76, 99999), (77, 99999), (86, 99999), (87, 99999), (88, 99999)]) (h0 := h) (fz_Iv_up hI115 (by decide) (show (-2147483648) ≤ z123 by omega) (show z123 ≤ 2147483647 by omega)) (fz_fr_up hf116 rfl) (fun H125 hI126 hf127 e128 => ?_)
                have k129 : H125 53 34 = ((h 53 34) + (h 57 (rd.toNat))) := by rw [e128]; exact (fz_up_o (by decide)).trans k118
                have hXw130 : fz_Xw H125 := fz_Xw_eq (by rw [e128]; exact fz_up_o (by decide)) (by rw [e128]; exact fz_up_ne (by decide)) (by rw [e128]; exact fz_up_ne (by decide)) (by rw [e128]; exact fz_up_ne (by decide)) (by rw [e128]; exact fz_up_ne (by decide)) hXw119
                clear e128
                refine fz_aload_n kX11_walk rfl rfl ?_
                refine fz_callV (d' := 3) (M' := mX11_allHear) (As := []) (st := []) kX11_walk rfl rfl vX11_allHear rfl rfl rfl rfl (Nat.le_of_ble_eq_true rfl) (Nat.le_of_ble_eq_true rfl) (by decide) (sX11_allHear H125 hI126  ) (fun H131 r132 q133 o134 => ?_)
                obtain ⟨hI135, hf136, rfl⟩ := q133
                clear o134
                have hf137 := fz_fr_tr hf127 hf136 (show fz_su [(86, 99999), (87, 99999), (88, 99999)] [(53, 34), (74, 99999), (75, 99999), (76, 99999), (77, 99999), (86, 99999), (87, 99999), (88, 99999)] = true from rfl)
                have k138 : H131 53 34 = ((h 53 34) + (h 57 (rd.toNat))) := (hf136 53 34 rfl).trans k129
                have hXw139 : fz_Xw H131 := fz_Xw_eq (hf136 53 19 rfl) (funext fun s => hf136 66 s rfl) (funext fun s => hf136 67 s rfl) (funext fun s => hf136 68 s rfl) (funext fun s => hf136 69 s rfl) hXw130
                refine fz_aload_n kX11_walk rfl rfl ?_
                refine fz_iload_n kX11_walk rfl rfl ?_
                refine fz_aload_n kX11_walk rfl rfl ?_
                refine fz_getR (t := 76) kX11_walk rfl rfl ?_
                refine fz_iload_n kX11_walk rfl rfl ?_
                obtain ⟨v140, e141⟩ : ∃ z, H131 76 (on.toNat) = z := ⟨_, rfl⟩
                refine fz_ialdV (n := 4) (v := v140) kX11_walk rfl rfl (by omega) (by omega) e141 ?_
                have b142 : 0 ≤ v140 ∧ v140 ≤ 7 := by rw [← e141]; exact hI135.1 76 _
                refine fz_aload_n kX11_walk rfl rfl ?_
                refine fz_getV (v := ((h 53 34) + (h 57 (rd.toNat)))) kX11_walk rfl rfl k138 ?_
                refine fz_callV (d' := 4) (M' := mX11_isArrested) (As := [fz_i on, fz_i v140, fz_i ((h 53 34) + (h 57 (rd.toNat)))]) (st := []) kX11_walk rfl rfl vX11_isArrested rfl rfl rfl rfl (Nat.le_of_ble_eq_true rfl) (Nat.le_of_ble_eq_true rfl) (by decide) (sX11_isArrested H131 hI135 on v140 ((h 53 34) + (h 57 (rd.toNat))) hXw139 (by omega)) (fun H143 r144 q145 o146 => ?_)
                obtain ⟨hI147, hf148, hXw149, y150, rfl, p151⟩ := q145
                clear o146
                have hf152 := fz_fr_tr hf137 hf148 (show fz_su [(74, 99999), (75, 99999)] [(53, 34), (74, 99999), (75, 99999), (76, 99999), (77, 99999), (86, 99999), (87, 99999), (88, 99999)] = true from rfl)
                have k153 : H143 53 34 = ((h 53 34) + (h 57 (rd.toNat))) := (hf148 53 34 rfl).trans k138
                refine fz_if_eq (tgt := 170) kX11_walk rfl (by decide) (fun c154 => ?_) (fun c154 => ?_)
                · refine fz_aload_n kX11_walk rfl rfl ?_
                  refine fz_getR (t := 76) kX11_walk rfl rfl ?_
                  refine fz_iload_n kX11_walk rfl rfl ?_
                  obtain ⟨v155, e156⟩ : ∃ z, H143 76 (on.toNat) = z := ⟨_, rfl⟩
                  refine fz_ialdV (n := 4) (v := v155) kX11_walk rfl rfl (by omega) (by omega) e156 ?_
                  have b157 : 0 ≤ v155 ∧ v155 ≤ 7 := by rw [← e156]; exact hI147.1 76 _
                  exact fz_iret kX11_walk rfl rfl (fun _ => ⟨hI147, hf152, hXw149, _, rfl, (by omega)⟩)
                · refine fz_aload_n kX11_walk rfl rfl ?_
                  refine fz_getR (t := 77) kX11_walk rfl rfl ?_
                  refine fz_iconst ⟨by decide, by decide⟩ kX11_walk rfl ?_
                  refine fz_dup2 rfl rfl kX11_walk rfl ?_
                  obtain ⟨v158, e159⟩ : ∃ z, H143 77 (2) = z := ⟨_, rfl⟩
                  refine fz_ialdV (n := 4) (v := v158) kX11_walk rfl rfl (by omega) (by omega) e159 ?_
                  have b160 : (-2147483648) ≤ v158 ∧ v158 ≤ 2147483647 := by rw [← e159]; exact hI147.1 77 _
                  refine fz_iconst ⟨by decide, by decide⟩ kX11_walk rfl ?_
                  refine fz_iadd kX11_walk rfl ?_
                  refine fz_nmw (fun z161 e162 => ?_)
                  refine fz_iast (n := 4) kX11_walk rfl rfl (by omega) (by omega) ?_
                  refine fz_nmu (S := [(53, 34), (74, 99999), (75, 99999), (76, 99999), (77, 99999), (86, 99999), (87, 99999), (88, 99999)]) (h0 := h) (fz_Iv_up hI147 (by decide) (show (-2147483648) ≤ z161 by omega) (show z161 ≤ 2147483647 by omega)) (fz_fr_up hf152 rfl) (fun H163 hI164 hf165 e166 => ?_)
                  have k167 : H163 53 34 = ((h 53 34) + (h 57 (rd.toNat))) := by rw [e166]; exact (fz_up_o (by decide)).trans k153
                  have hXw168 : fz_Xw H163 := fz_Xw_eq (by rw [e166]; exact fz_up_o (by decide)) (by rw [e166]; exact fz_up_ne (by decide)) (by rw [e166]; exact fz_up_ne (by decide)) (by rw [e166]; exact fz_up_ne (by decide)) (by rw [e166]; exact fz_up_ne (by decide)) hXw149
                  clear e166
                  refine fz_aload_n kX11_walk rfl rfl ?_
                  refine fz_getR (t := 76) kX11_walk rfl rfl ?_
                  refine fz_iload_n kX11_walk rfl rfl ?_
                  obtain ⟨v169, e170⟩ : ∃ z, H163 76 (on.toNat) = z := ⟨_, rfl⟩
                  refine fz_ialdV (n := 4) (v := v169) kX11_walk rfl rfl (by omega) (by omega) e170 ?_
                  have b171 : 0 ≤ v169 ∧ v169 ≤ 7 := by rw [← e170]; exact hI164.1 76 _
                  exact fz_iret kX11_walk rfl rfl (fun _ => ⟨hI164, hf165, hXw168, _, rfl, (by omega)⟩)
            · refine fz_bipush ⟨by decide, by decide⟩ kX11_walk rfl ?_
              exact fz_iret kX11_walk rfl rfl (fun _ => ⟨hI, hf, hXw, _, rfl, (by omega)⟩)
          · refine fz_aload_n kX11_walk rfl rfl ?_
            refine fz_getR (t := 56) kX11_walk rfl rfl ?_
            refine fz_iload_n kX11_walk rfl rfl ?_
            refine fz_ialdV (n := 12) (v := h 56 (rd.toNat)) kX11_walk rfl rfl (by omega) (by omega) rfl ?_
            have b172 : 0 ≤ h 56 (rd.toNat) ∧ h 56 (rd.toNat) ≤ 7 := hI.1 56 _
            refine fz_iload_n kX11_walk rfl rfl ?_
            refine fz_icmp_eq (tgt := 47) kX11_walk rfl (by decide) (fun c173 => ?_) (fun c173 => ?_)
            · refine fz_aload_n kX11_walk rfl rfl ?_
              refine fz_getV (v := h 53 34) kX11_walk rfl rfl rfl ?_
              have b174 : 0 ≤ h 53 34 ∧ h 53 34 ≤ 999 := hI.1 53 _
              refine fz_aload_n kX11_walk rfl rfl ?_
              refine fz_getR (t := 57) kX11_walk rfl rfl ?_
              refine fz_iload_n kX11_walk rfl rfl ?_
              refine fz_ialdV (n := 12) (v := h 57 (rd.toNat)) kX11_walk rfl rfl (by omega) (by omega) rfl ?_
              have b175 : 0 ≤ h 57 (rd.toNat) ∧ h 57 (rd.toNat) ≤ 24 := hI.1 57 _
              refine fz_iaddN kX11_walk rfl (by omega) ?_
              refine fz_sipush ⟨by decide, by decide⟩ kX11_walk rfl ?_
              refine fz_icmp_le (tgt := 67) kX11_walk rfl (by decide) (fun c176 => ?_) (fun c176 => ?_)
              · refine fz_aload_n kX11_walk rfl rfl ?_
                refine fz_dup rfl kX11_walk rfl ?_
                refine fz_getV (v := h 53 34) kX11_walk rfl rfl rfl ?_
                refine fz_aload_n kX11_walk rfl rfl ?_
                refine fz_getR (t := 57) kX11_walk rfl rfl ?_
                refine fz_iload_n kX11_walk rfl rfl ?_
                refine fz_ialdV (n := 12) (v := h 57 (rd.toNat)) kX11_walk rfl rfl (by omega) (by omega) rfl ?_
                refine fz_iaddN kX11_walk rfl (by omega) ?_
                refine fz_putI kX11_walk rfl rfl rfl ?_
                refine fz_nmu (S := [(53, 34), (74, 99999), (75, 99999), (76, 99999), (77, 99999), (86, 99999), (87, 99999), (88, 99999)]) (h0 := h) (fz_Iv_up hI (by decide) (show 0 ≤ ((h 53 34) + (h 57 (rd.toNat))) by omega) (show ((h 53 34) + (h 57 (rd.toNat))) ≤ 999 by omega)) (fz_fr_up hf rfl) (fun H177 hI178 hf179 e180 => ?_)
                have k181 : H177 53 34 = ((h 53 34) + (h 57 (rd.toNat))) := by rw [e180]; exact fz_up_e
                have hXw182 : fz_Xw H177 := fz_Xw_eq (by rw [e180]; exact fz_up_s (by decide)) (by rw [e180]; exact fz_up_ne (by decide)) (by rw [e180]; exact fz_up_ne (by decide)) (by rw [e180]; exact fz_up_ne (by decide)) (by rw [e180]; exact fz_up_ne (by decide)) hXw
                clear e180
                refine fz_aload_n kX11_walk rfl rfl ?_
                refine fz_getR (t := 76) kX11_walk rfl rfl ?_
                refine fz_iload_n kX11_walk rfl rfl ?_
                refine fz_aload_n kX11_walk rfl rfl ?_
                refine fz_getR (t := 55) kX11_walk rfl rfl ?_
                refine fz_iload_n kX11_walk rfl rfl ?_
                refine fz_ialdV (n := 12) (v := h 55 (rd.toNat)) kX11_walk rfl rfl (by omega) (by omega) (hf179 55 _ rfl) ?_
                refine fz_iload_n kX11_walk rfl rfl ?_
                refine fz_icmp_ne (tgt := 106) kX11_walk rfl (by decide) (fun c183 => ?_) (fun c183 => ?_)
                · refine fz_aload_n kX11_walk rfl rfl ?_
                  refine fz_getR (t := 55) kX11_walk rfl rfl ?_
                  refine fz_iload_n kX11_walk rfl rfl ?_
                  refine fz_ialdV (n := 12) (v := h 55 (rd.toNat)) kX11_walk rfl rfl (by omega) (by omega) (hf179 55 _ rfl) ?_
                  refine fz_iast (n := 4) kX11_walk rfl rfl (by omega) (by omega) ?_
                  refine fz_nmu (S := [(53, 34), (74, 99999), (75, 99999), (76, 99999), (77, 99999), (86, 99999), (87, 99999), (88, 99999)]) (h0 := h) (fz_Iv_up hI178 (by decide) (show 0 ≤ (h 55 (rd.toNat)) by omega) (show (h 55 (rd.toNat)) ≤ 7 by omega)) (fz_fr_up hf179 rfl) (fun H184 hI185 hf186 e187 => ?_)
                  have k188 : H184 53 34 = ((h 53 34) + (h 57 (rd.toNat))) := by rw [e187]; exact (fz_up_o (by decide)).trans k181
                  have hXw189 : fz_Xw H184 := fz_Xw_eq (by rw [e187]; exact fz_up_o (by decide)) (by rw [e187]; exact fz_up_ne (by decide)) (by rw [e187]; exact fz_up_ne (by decide)) (by rw [e187]; exact fz_up_ne (by decide)) (by rw [e187]; exact fz_up_ne (by decide)) hXw182
                  clear e187
                  refine fz_aload_n kX11_walk rfl rfl ?_
                  refine fz_getR (t := 77) kX11_walk rfl rfl ?_
                  refine fz_iconst ⟨by decide, by decide⟩ kX11_walk rfl ?_
                  refine fz_dup2 rfl rfl kX11_walk rfl ?_
                  obtain ⟨v190, e191⟩ : ∃ z, H184 77 (0) = z := ⟨_, rfl⟩
                  refine fz_ialdV (n := 4) (v := v190) kX11_walk rfl rfl (by omega) (by omega) e191 ?_
                  have b192 : (-2147483648) ≤ v190 ∧ v190 ≤ 2147483647 := by rw [← e191]; exact hI185.1 77 _
                  refine fz_iconst ⟨by decide, by decide⟩ kX11_walk rfl ?_
                  refine fz_iadd kX11_walk rfl ?_
                  refine fz_nmw (fun z193 e194 => ?_)
                  refine fz_iast (n := 4) kX11_walk rfl rfl (by omega) (by omega) ?_
                  refine fz_nmu (S := [(53, 34), (74, 99999), (75, 99999), (76, 99999), (77, 99999), (86, 99999), (87, 99999), (88, 99999)]) (h0 := h) (fz_Iv_up hI185 (by decide) (show (-2147483648) ≤ z193 by omega) (show z193 ≤ 2147483647 by omega)) (fz_fr_up hf186 rfl) (fun H195 hI196 hf197 e198 => ?_)
                  have k199 : H195 53 34 = ((h 53 34) + (h 57 (rd.toNat))) := by rw [e198]; exact (fz_up_o (by decide)).trans k188
                  have hXw200 : fz_Xw H195 := fz_Xw_eq (by rw [e198]; exact fz_up_o (by decide)) (by rw [e198]; exact fz_up_ne (by decide)) (by rw [e198]; exact fz_up_ne (by decide)) (by rw [e198]; exact fz_up_ne (by decide)) (by rw [e198]; exact fz_up_ne (by decide)) hXw189
                  clear e198
                  refine fz_aload_n kX11_walk rfl rfl ?_
                  refine fz_getR (t := 77) kX11_walk rfl rfl ?_
                  refine fz_iconst ⟨by decide, by decide⟩ kX11_walk rfl ?_
                  refine fz_dup2 rfl rfl kX11_walk rfl ?_
                  obtain ⟨v201, e202⟩ : ∃ z, H195 77 (1) = z := ⟨_, rfl⟩
                  refine fz_ialdV (n := 4) (v := v201) kX11_walk rfl rfl (by omega) (by omega) e202 ?_
                  have b203 : (-2147483648) ≤ v201 ∧ v201 ≤ 2147483647 := by rw [← e202]; exact hI196.1 77 _
                  refine fz_aload_n kX11_walk rfl rfl ?_
                  refine fz_getR (t := 57) kX11_walk rfl rfl ?_
                  refine fz_iload_n kX11_walk rfl rfl ?_
                  refine fz_ialdV (n := 12) (v := h 57 (rd.toNat)) kX11_walk rfl rfl (by omega) (by omega) (hf197 57 _ rfl) ?_
                  refine fz_iadd kX11_walk rfl ?_
                  refine fz_nmw (fun z204 e205 => ?_)
                  refine fz_iast (n := 4) kX11_walk rfl rfl (by omega) (by omega) ?_
                  refine fz_nmu (S := [(53, 34), (74, 99999), (75, 99999), (76, 99999), (77, 99999), (86, 99999), (87, 99999), (88, 99999)]) (h0 := h) (fz_Iv_up hI196 (by decide) (show (-2147483648) ≤ z204 by omega) (show z204 ≤ 2147483647 by omega)) (fz_fr_up hf197 rfl) (fun H206 hI207 hf208 e209 => ?_)
                  have k210 : H206 53 34 = ((h 53 34) + (h 57 (rd.toNat))) := by rw [e209]; exact (fz_up_o (by decide)).trans k199
                  have hXw211 : fz_Xw H206 := fz_Xw_eq (by rw [e209]; exact fz_up_o (by decide)) (by rw [e209]; exact fz_up_ne (by decide)) (by rw [e209]; exact fz_up_ne (by decide)) (by rw [e209]; exact fz_up_ne (by decide)) (by rw [e209]; exact fz_up_ne (by decide)) hXw200
                  clear e209
                  refine fz_aload_n kX11_walk rfl rfl ?_
                  refine fz_callV (d' := 3) (M' := mX11_allHear) (As := []) (st := []) kX11_walk rfl rfl vX11_allHear rfl rfl rfl rfl (Nat.le_of_ble_eq_true rfl) (Nat.le_of_ble_eq_true rfl) (by decide) (sX11_allHear H206 hI207  ) (fun H212 r213 q214 o215 => ?_)
                  obtain ⟨hI216, hf217, rfl⟩ := q214
                  clear o215
                  have hf218 := fz_fr_tr hf208 hf217 (show fz_su [(86, 99999), (87, 99999), (88, 99999)] [(53, 34), (74, 99999), (75, 99999), (76, 99999), (77, 99999), (86, 99999), (87, 99999), (88, 99999)] = true from rfl)
                  have k219 : H212 53 34 = ((h 53 34) + (h 57 (rd.toNat))) := (hf217 53 34 rfl).trans k210
                  have hXw220 : fz_Xw H212 := fz_Xw_eq (hf217 53 19 rfl) (funext fun s => hf217 66 s rfl) (funext fun s => hf217 67 s rfl) (funext fun s => hf217 68 s rfl) (funext fun s => hf217 69 s rfl) hXw211
                  refine fz_aload_n kX11_walk rfl rfl ?_
                  refine fz_iload_n kX11_walk rfl rfl ?_
                  refine fz_aload_n kX11_walk rfl rfl ?_
                  refine fz_getR (t := 76) kX11_walk rfl rfl ?_
                  refine fz_iload_n kX11_walk rfl rfl ?_
                  obtain ⟨v221, e222⟩ : ∃ z, H212 76 (on.toNat) = z := ⟨_, rfl⟩
                  refine fz_ialdV (n := 4) (v := v221) kX11_walk rfl rfl (by omega) (by omega) e222 ?_
                  have b223 : 0 ≤ v221 ∧ v221 ≤ 7 := by rw [← e222]; exact hI216.1 76 _
                  refine fz_aload_n kX11_walk rfl rfl ?_
                  refine fz_getV (v := ((h 53 34) + (h 57 (rd.toNat)))) kX11_walk rfl rfl k219 ?_
                  refine fz_callV (d' := 4) (M' := mX11_isArrested) (As := [fz_i on, fz_i v221, fz_i ((h 53 34) + (h 57 (rd.toNat)))]) (st := []) kX11_walk rfl rfl vX11_isArrested rfl rfl rfl rfl (Nat.le_of_ble_eq_true rfl) (Nat.le_of_ble_eq_true rfl) (by decide) (sX11_isArrested H212 hI216 on v221 ((h 53 34) + (h 57 (rd.toNat))) hXw220 (by omega)) (fun H224 r225 q226 o227 => ?_)
                  obtain ⟨hI228, hf229, hXw230, y231, rfl, p232⟩ := q226
                  clear o227
                  have hf233 := fz_fr_tr hf218 hf229 (show fz_su [(74, 99999), (75, 99999)] [(53, 34), (74, 99999), (75, 99999), (76, 99999), (77, 99999), (86, 99999), (87, 99999), (88, 99999)] = true from rfl)
                  have k234 : H224 53 34 = ((h 53 34) + (h 57 (rd.toNat))) := (hf229 53 34 rfl).trans k219
                  refine fz_if_eq (tgt := 170) kX11_walk rfl (by decide) (fun c235 => ?_) (fun c235 => ?_)
                  · refine fz_aload_n kX11_walk rfl rfl ?_
                    refine fz_getR (t := 76) kX11_walk rfl rfl ?_
                    refine fz_iload_n kX11_walk rfl rfl ?_
                    obtain ⟨v236, e237⟩ : ∃ z, H224 76 (on.toNat) = z := ⟨_, rfl⟩
                    refine fz_ialdV (n := 4) (v := v236) kX11_walk rfl rfl (by omega) (by omega) e237 ?_
                    have b238 : 0 ≤ v236 ∧ v236 ≤ 7 := by rw [← e237]; exact hI228.1 76 _
                    exact fz_iret kX11_walk rfl rfl (fun _ => ⟨hI228, hf233, hXw230, _, rfl, (by omega)⟩)
                  · refine fz_aload_n kX11_walk rfl rfl ?_
                    refine fz_getR (t := 77) kX11_walk rfl rfl ?_
                    refine fz_iconst ⟨by decide, by decide⟩ kX11_walk rfl ?_
                    refine fz_dup2 rfl rfl kX11_walk rfl ?_
                    obtain ⟨v239, e240⟩ : ∃ z, H224 77 (2) = z := ⟨_, rfl⟩
                    refine fz_ialdV (n := 4) (v := v239) kX11_walk rfl rfl (by omega) (by omega) e240 ?_
                    have b241 : (-2147483648) ≤ v239 ∧ v239 ≤ 2147483647 := by rw [← e240]; exact hI228.1 77 _
                    refine fz_iconst ⟨by decide, by decide⟩ kX11_walk rfl ?_
                    refine fz_iadd kX11_walk rfl ?_
                    refine fz_nmw (fun z242 e243 => ?_)
                    refine fz_iast (n := 4) kX11_walk rfl rfl (by omega) (by omega) ?_
                    refine fz_nmu (S := [(53, 34), (74, 99999), (75, 99999), (76, 99999), (77, 99999), (86, 99999), (87, 99999), (88, 99999)]) (h0 := h) (fz_Iv_up hI228 (by decide) (show (-2147483648) ≤ z242 by omega) (show z242 ≤ 2147483647 by omega)) (fz_fr_up hf233 rfl) (fun H244 hI245 hf246 e247 => ?_)
                    have k248 : H244 53 34 = ((h 53 34) + (h 57 (rd.toNat))) := by rw [e247]; exact (fz_up_o (by decide)).trans k234
                    have hXw249 : fz_Xw H244 := fz_Xw_eq (by rw [e247]; exact fz_up_o (by decide)) (by rw [e247]; exact fz_up_ne (by decide)) (by rw [e247]; exact fz_up_ne (by decide)) (by rw [e247]; exact fz_up_ne (by decide)) (by rw [e247]; exact fz_up_ne (by decide)) hXw230
                    clear e247
                    refine fz_aload_n kX11_walk rfl rfl ?_
                    refine fz_getR (t := 76) kX11_walk rfl rfl ?_
                    refine fz_iload_n kX11_walk rfl rfl ?_
                    obtain ⟨v250, e251⟩ : ∃ z, H244 76 (on.toNat) = z := ⟨_, rfl⟩
                    refine fz_ialdV (n := 4) (v := v250) kX11_walk rfl rfl (by omega) (by omega) e251 ?_
                    have b252 : 0 ≤ v250 ∧ v250 ≤ 7 := by rw [← e251]; exact hI245.1 76 _
                    exact fz_iret kX11_walk rfl rfl (fun _ => ⟨hI245, hf246, hXw249, _, rfl, (by omega)⟩)
                · refine fz_aload_n kX11_walk rfl rfl ?_
                  refine fz_getR (t := 56) kX11_walk rfl rfl ?_
                  refine fz_iload_n kX11_walk rfl rfl ?_
                  refine fz_ialdV (n := 12) (v := h 56 (rd.toNat)) kX11_walk rfl rfl (by omega) (by omega) (hf179 56 _ rfl) ?_
                  refine fz_goto (tgt := 112) kX11_walk rfl (by decide) ?_
                  refine fz_iast (n := 4) kX11_walk rfl rfl (by omega) (by omega) ?_
                  refine fz_nmu (S := [(53, 34), (74, 99999), (75, 99999), (76, 99999), (77, 99999), (86, 99999), (87, 99999), (88, 99999)]) (h0 := h) (fz_Iv_up hI178 (by decide) (show 0 ≤ (h 56 (rd.toNat)) by omega) (show (h 56 (rd.toNat)) ≤ 7 by omega)) (fz_fr_up hf179 rfl) (fun H253 hI254 hf255 e256 => ?_)
                  have k257 : H253 53 34 = ((h 53 34) + (h 57 (rd.toNat))) := by rw [e256]; exact (fz_up_o (by decide)).trans k181
                  have hXw258 : fz_Xw H253 := fz_Xw_eq (by rw [e256]; exact fz_up_o (by decide)) (by rw [e256]; exact fz_up_ne (by decide)) (by rw [e256]; exact fz_up_ne (by decide)) (by rw [e256]; exact fz_up_ne (by decide)) (by rw [e256]; exact fz_up_ne (by decide)) hXw182
                  clear e256
                  refine fz_aload_n kX11_walk rfl rfl ?_
                  refine fz_getR (t := 77) kX11_walk rfl rfl ?_
                  refine fz_iconst ⟨by decide, by decide⟩ kX11_walk rfl ?_
                  refine fz_dup2 rfl rfl kX11_walk rfl ?_
                  obtain ⟨v259, e260⟩ : ∃ z, H253 77 (0) = z := ⟨_, rfl⟩
                  refine fz_ialdV (n := 4) (v := v259) kX11_walk rfl rfl (by omega) (by omega) e260 ?_
                  have b261 : (-2147483648) ≤ v259 ∧ v259 ≤ 2147483647 := by rw [← e260]; exact hI254.1 77 _
                  refine fz_iconst ⟨by decide, by decide⟩ kX11_walk rfl ?_
                  refine fz_iadd kX11_walk rfl ?_
                  refine fz_nmw (fun z262 e263 => ?_)
                  refine fz_iast (n := 4) kX11_walk rfl rfl (by omega) (by omega) ?_
                  refine fz_nmu (S := [(53, 34), (74, 99999), (75, 99999), (76, 99999), (77, 99999), (86, 99999), (87, 99999), (88, 99999)]) (h0 := h) (fz_Iv_up hI254 (by decide) (show (-2147483648) ≤ z262 by omega) (show z262 ≤ 2147483647 by omega)) (fz_fr_up hf255 rfl) (fun H264 hI265 hf266 e267 => ?_)
                  have k268 : H264 53 34 = ((h 53 34) + (h 57 (rd.toNat))) := by rw [e267]; exact (fz_up_o (by decide)).trans k257
                  have hXw269 : fz_Xw H264 := fz_Xw_eq (by rw [e267]; exact fz_up_o (by decide)) (by rw [e267]; exact fz_up_ne (by decide)) (by rw [e267]; exact fz_up_ne (by decide)) (by rw [e267]; exact fz_up_ne (by decide)) (by rw [e267]; exact fz_up_ne (by decide)) hXw258
                  clear e267
                  refine fz_aload_n kX11_walk rfl rfl ?_
                  refine fz_getR (t := 77) kX11_walk rfl rfl ?_
                  refine fz_iconst ⟨by decide, by decide⟩ kX11_walk rfl ?_
                  refine fz_dup2 rfl rfl kX11_walk rfl ?_
                  obtain ⟨v270, e271⟩ : ∃ z, H264 77 (1) = z := ⟨_, rfl⟩
                  refine fz_ialdV (n := 4) (v := v270) kX11_walk rfl rfl (by omega) (by omega) e271 ?_
                  have b272 : (-2147483648) ≤ v270 ∧ v270 ≤ 2147483647 := by rw [← e271]; exact hI265.1 77 _
                  refine fz_aload_n kX11_walk rfl rfl ?_
                  refine fz_getR (t := 57) kX11_walk rfl rfl ?_
                  refine fz_iload_n kX11_walk rfl rfl ?_
                  refine fz_ialdV (n := 12) (v := h 57 (rd.toNat)) kX11_walk rfl rfl (by omega) (by omega) (hf266 57 _ rfl) ?_
                  refine fz_iadd kX11_walk rfl ?_
                  refine fz_nmw (fun z273 e274 => ?_)
                  refine fz_iast (n := 4) kX11_walk rfl rfl (by omega) (by omega) ?_
                  refine fz_nmu (S := [(53, 34), (74, 99999), (75, 99999), (76, 99999), (77, 99999), (86, 99999), (87, 99999), (88, 99999)]) (h0 := h) (fz_Iv_up hI265 (by decide) (show (-2147483648) ≤ z273 by omega) (show z273 ≤ 2147483647 by omega)) (fz_fr_up hf266 rfl) (fun H275 hI276 hf277 e278 => ?_)
                  have k279 : H275 53 34 = ((h 53 34) + (h 57 (rd.toNat))) := by rw [e278]; exact (fz_up_o (by decide)).trans k268
                  have hXw280 : fz_Xw H275 := fz_Xw_eq (by rw [e278]; exact fz_up_o (by decide)) (by rw [e278]; exact fz_up_ne (by decide)) (by rw [e278]; exact fz_up_ne (by decide)) (by rw [e278]; exact fz_up_ne (by decide)) (by rw [e278]; exact fz_up_ne (by decide)) hXw269
                  clear e278
                  refine fz_aload_n kX11_walk rfl rfl ?_
                  refine fz_callV (d' := 3) (M' := mX11_allHear) (As := []) (st := []) kX11_walk rfl rfl vX11_allHear rfl rfl rfl rfl (Nat.le_of_ble_eq_true rfl) (Nat.le_of_ble_eq_true rfl) (by decide) (sX11_allHear H275 hI276  ) (fun H281 r282 q283 o284 => ?_)
                  obtain ⟨hI285, hf286, rfl⟩ := q283
                  clear o284
                  have hf287 := fz_fr_tr hf277 hf286 (show fz_su [(86, 99999), (87, 99999), (88, 99999)] [(53, 34), (74, 99999), (75, 99999), (76, 99999), (77, 99999), (86, 99999), (87, 99999), (88, 99999)] = true from rfl)
                  have k288 : H281 53 34 = ((h 53 34) + (h 57 (rd.toNat))) := (hf286 53 34 rfl).trans k279
                  have hXw289 : fz_Xw H281 := fz_Xw_eq (hf286 53 19 rfl) (funext fun s => hf286 66 s rfl) (funext fun s => hf286 67 s rfl) (funext fun s => hf286 68 s rfl) (funext fun s => hf286 69 s rfl) hXw280
                  refine fz_aload_n kX11_walk rfl rfl ?_
                  refine fz_iload_n kX11_walk rfl rfl ?_
                  refine fz_aload_n kX11_walk rfl rfl ?_
                  refine fz_getR (t := 76) kX11_walk rfl rfl ?_
                  refine fz_iload_n kX11_walk rfl rfl ?_
                  obtain ⟨v290, e291⟩ : ∃ z, H281 76 (on.toNat) = z := ⟨_, rfl⟩
                  refine fz_ialdV (n := 4) (v := v290) kX11_walk rfl rfl (by omega) (by omega) e291 ?_
                  have b292 : 0 ≤ v290 ∧ v290 ≤ 7 := by rw [← e291]; exact hI285.1 76 _
                  refine fz_aload_n kX11_walk rfl rfl ?_
                  refine fz_getV (v := ((h 53 34) + (h 57 (rd.toNat)))) kX11_walk rfl rfl k288 ?_
                  refine fz_callV (d' := 4) (M' := mX11_isArrested) (As := [fz_i on, fz_i v290, fz_i ((h 53 34) + (h 57 (rd.toNat)))]) (st := []) kX11_walk rfl rfl vX11_isArrested rfl rfl rfl rfl (Nat.le_of_ble_eq_true rfl) (Nat.le_of_ble_eq_true rfl) (by decide) (sX11_isArrested H281 hI285 on v290 ((h 53 34) + (h 57 (rd.toNat))) hXw289 (by omega)) (fun H293 r294 q295 o296 => ?_)
                  obtain ⟨hI297, hf298, hXw299, y300, rfl, p301⟩ := q295
                  clear o296
                  have hf302 := fz_fr_tr hf287 hf298 (show fz_su [(74, 99999), (75, 99999)] [(53, 34), (74, 99999), (75, 99999), (76, 99999), (77, 99999), (86, 99999), (87, 99999), (88, 99999)] = true from rfl)
                  have k303 : H293 53 34 = ((h 53 34) + (h 57 (rd.toNat))) := (hf298 53 34 rfl).trans k288
                  refine fz_if_eq (tgt := 170) kX11_walk rfl (by decide) (fun c304 => ?_) (fun c304 => ?_)
                  · refine fz_aload_n kX11_walk rfl rfl ?_
                    refine fz_getR (t := 76) kX11_walk rfl rfl ?_
                    refine fz_iload_n kX11_walk rfl rfl ?_
                    obtain ⟨v305, e306⟩ : ∃ z, H293 76 (on.toNat) = z := ⟨_, rfl⟩
                    refine fz_ialdV (n := 4) (v := v305) kX11_walk rfl rfl (by omega) (by omega) e306 ?_
                    have b307 : 0 ≤ v305 ∧ v305 ≤ 7 := by rw [← e306]; exact hI297.1 76 _
                    exact fz_iret kX11_walk rfl rfl (fun _ => ⟨hI297, hf302, hXw299, _, rfl, (by omega)⟩)
                  · refine fz_aload_n kX11_walk rfl rfl ?_
                    refine fz_getR (t := 77) kX11_walk rfl rfl ?_
                    refine fz_iconst ⟨by decide, by decide⟩ kX11_walk rfl ?_
                    refine fz_dup2 rfl rfl kX11_walk rfl ?_
                    obtain ⟨v308, e309⟩ : ∃ z, H293 77 (2) = z := ⟨_, rfl⟩
                    refine fz_ialdV (n := 4) (v := v308) kX11_walk rfl rfl (by omega) (by omega) e309 ?_
                    have b310 : (-2147483648) ≤ v308 ∧ v308 ≤ 2147483647 := by rw [← e309]; exact hI297.1 77 _
                    refine fz_iconst ⟨by decide, by decide⟩ kX11_walk rfl ?_
                    refine fz_iadd kX11_walk rfl ?_
                    refine fz_nmw (fun z311 e312 => ?_)
                    refine fz_iast (n := 4) kX11_walk rfl rfl (by omega) (by omega) ?_
                    refine fz_nmu (S := [(53, 34), (74, 99999), (75, 99999), (76, 99999), (77, 99999), (86, 99999), (87, 99999), (88, 99999)]) (h0 := h) (fz_Iv_up hI297 (by decide) (show (-2147483648) ≤ z311 by omega) (show z311 ≤ 2147483647 by omega)) (fz_fr_up hf302 rfl) (fun H313 hI314 hf315 e316 => ?_)
                    have k317 : H313 53 34 = ((h 53 34) + (h 57 (rd.toNat))) := by rw [e316]; exact (fz_up_o (by decide)).trans k303
                    have hXw318 : fz_Xw H313 := fz_Xw_eq (by rw [e316]; exact fz_up_o (by decide)) (by rw [e316]; exact fz_up_ne (by decide)) (by rw [e316]; exact fz_up_ne (by decide)) (by rw [e316]; exact fz_up_ne (by decide)) (by rw [e316]; exact fz_up_ne (by decide)) hXw299
                    clear e316
                    refine fz_aload_n kX11_walk rfl rfl ?_
                    refine fz_getR (t := 76) kX11_walk rfl rfl ?_
                    refine fz_iload_n kX11_walk rfl rfl ?_
                    obtain ⟨v319, e320⟩ : ∃ z, H313 76 (on.toNat) = z := ⟨_, rfl⟩
                    refine fz_ialdV (n := 4) (v := v319) kX11_walk rfl rfl (by omega) (by omega) e320 ?_
                    have b321 : 0 ≤ v319 ∧ v319 ≤ 7 := by rw [← e320]; exact hI314.1 76 _
                    exact fz_iret kX11_walk rfl rfl (fun _ => ⟨hI314, hf315, hXw318, _, rfl, (by omega)⟩)
              · refine fz_bipush ⟨by decide, by decide⟩ kX11_walk rfl ?_
                exact fz_iret kX11_walk rfl rfl (fun _ => ⟨hI, hf, hXw, _, rfl, (by omega)⟩)
            · refine fz_bipush ⟨by decide, by decide⟩ kX11_walk rfl ?_
              exact fz_iret kX11_walk rfl rfl (fun _ => ⟨hI, hf, hXw, _, rfl, (by omega)⟩)
        · exfalso; omega
      · refine fz_if_ne (tgt := 17) kX11_walk rfl (by decide) (fun c322 => ?_) (fun c322 => ?_)
        · exfalso; omega
        · refine fz_iconst ⟨by decide, by decide⟩ kX11_walk rfl ?_
          exact fz_iret kX11_walk rfl rfl (fun _ => ⟨hI, hf, hXw, _, rfl, (by omega)⟩)
  · refine fz_if_eq (tgt := 15) kX11_walk rfl (by decide) (fun c323 => ?_) (fun c323 => ?_)
    · refine fz_iconst ⟨by decide, by decide⟩ kX11_walk rfl ?_
      exact fz_iret kX11_walk rfl rfl (fun _ => ⟨hI, hf, hXw, _, rfl, (by omega)⟩)
    · exfalso; omega

abbrev qX11_does (h : fz_H) (pm wt : Int) : fz_H → Option fz_V → Prop := fun h' r0 => fz_Iv h' ∧ fz_fr [(53, 10), (60, 99999), (61, 99999), (62, 99999), (63, 99999), (64, 99999), (77, 99999)] h h' ∧ ∃ r : Int, r0 = some (fz_i r) ∧ ((-3) ≤ r ∧ r ≤ 10) ∧ (h' 53 10 ≤ 10)
set_option maxHeartbeats 1000000 in
set_option maxRecDepth 100000 in
theorem sX11_does (h : fz_H) (hI : fz_Iv h) (pm wt : Int) (hp0 : h 53 10 ≤ 10) : fz_R 3 mX11_does 0 [(0, fz_r 53), (1, fz_i pm), (2, fz_i wt)] [] h (qX11_does h pm wt) := by
  refine fz_knowl (fun hk => ?_)
  have hr_pm : -2147483648 ≤ pm ∧ pm < 2147483648 := hk _ (List.Mem.tail _ (List.Mem.head _))
  have hr_wt : -2147483648 ≤ wt ∧ wt < 2147483648 := hk _ (List.Mem.tail _ (List.Mem.tail _ (List.Mem.head _)))
  clear hk
  have hf : fz_fr [(53, 10), (60, 99999), (61, 99999), (62, 99999), (63, 99999), (64, 99999), (77, 99999)] h h := fz_fr_rf
  have b1 : 0 ≤ h 53 10 ∧ h 53 10 ≤ 11 := hI.1 53 _
  refine fz_iload_n kX11_does rfl rfl ?_
  refine fz_callS (d' := 2) (M' := mX11_isMarked) (As := [fz_i pm]) (st := []) kX11_does rfl rfl vX11_isMarked rfl rfl (Nat.le_of_ble_eq_true rfl) (Nat.le_of_ble_eq_true rfl) (by decide) (sX11_isMarked h hI pm ) (fun H2 r3 q4 o5 => ?_)
  obtain ⟨e6, y7, rfl, p8⟩ := q4
  subst H2
  clear o5
  rcases p8 with ⟨rfl, c9⟩ | ⟨rfl, c9⟩
  · refine fz_if_eq (tgt := 24) kX11_does rfl (by decide) (fun c10 => ?_) (fun c10 => ?_)
    · exfalso; omega
    · refine fz_iload_n kX11_does rfl rfl ?_
      refine fz_iconst ⟨by decide, by decide⟩ kX11_does rfl ?_
      refine fz_bipush ⟨by decide, by decide⟩ kX11_does rfl ?_
      refine fz_callS (d' := 0) (M' := mX11_within) (As := [fz_i wt, fz_i 1, fz_i 9]) (st := []) kX11_does rfl rfl vX11_within rfl rfl (Nat.le_of_ble_eq_true rfl) (Nat.le_of_ble_eq_true rfl) (by decide) (sX11_within h hI wt 1 9 ) (fun H11 r12 q13 o14 => ?_)
      obtain ⟨e15, y16, rfl, p17⟩ := q13
      subst H11
      clear o14
      rcases p17 with ⟨rfl, c18⟩ | ⟨rfl, c18⟩
      · refine fz_if_eq (tgt := 24) kX11_does rfl (by decide) (fun c19 => ?_) (fun c19 => ?_)
        · exfalso; omega
        · refine fz_aload_n kX11_does rfl rfl ?_
          refine fz_getV (v := h 53 0) kX11_does rfl rfl rfl ?_
          have b20 : 0 ≤ h 53 0 ∧ h 53 0 ≤ 8 := hI.1 53 _
          refine fz_if_ne (tgt := 26) kX11_does rfl (by decide) (fun c21 => ?_) (fun c21 => ?_)
          · refine fz_aload_n kX11_does rfl rfl ?_
            refine fz_getV (v := h 53 10) kX11_does rfl rfl rfl ?_
            have b22 : 0 ≤ h 53 10 ∧ h 53 10 ≤ 11 := hI.1 53 _
            refine fz_bipush ⟨by decide, by decide⟩ kX11_does rfl ?_
            refine fz_icmp_ne (tgt := 38) kX11_does rfl (by decide) (fun c23 => ?_) (fun c23 => ?_)
            · refine fz_aload_n kX11_does rfl rfl ?_
              refine fz_getR (t := 77) kX11_does rfl rfl ?_
              refine fz_iconst ⟨by decide, by decide⟩ kX11_does rfl ?_
              refine fz_dup2 rfl rfl kX11_does rfl ?_
              refine fz_ialdV (n := 4) (v := h 77 3) kX11_does rfl rfl (by omega) (by omega) rfl ?_
              have b24 : (-2147483648) ≤ h 77 3 ∧ h 77 3 ≤ 2147483647 := hI.1 77 _
              refine fz_iconst ⟨by decide, by decide⟩ kX11_does rfl ?_
              refine fz_iadd kX11_does rfl ?_
              refine fz_nmw (fun z25 e26 => ?_)
              refine fz_iast (n := 4) kX11_does rfl rfl (by omega) (by omega) ?_
              refine fz_nmu (S := [(53, 10), (60, 99999), (61, 99999), (62, 99999), (63, 99999), (64, 99999), (77, 99999)]) (h0 := h) (fz_Iv_up hI (by decide) (show (-2147483648) ≤ z25 by omega) (show z25 ≤ 2147483647 by omega)) (fz_fr_up hf rfl) (fun H27 hI28 hf29 e30 => ?_)
              have k31 : H27 53 10 = (h 53 10) := by rw [e30]; exact (fz_up_o (by decide)).trans rfl
              clear e30
              refine fz_aload_n kX11_does rfl rfl ?_
              refine fz_iload_n kX11_does rfl rfl ?_
              refine fz_bipush ⟨by decide, by decide⟩ kX11_does rfl ?_
              refine fz_idivN kX11_does rfl (by omega) (by omega) (by omega) ?_
              refine fz_aload_n kX11_does rfl rfl ?_
              refine fz_getR (t := 76) kX11_does rfl rfl ?_
              refine fz_iload_n kX11_does rfl rfl ?_
              refine fz_bipush ⟨by decide, by decide⟩ kX11_does rfl ?_
              refine fz_idivN kX11_does rfl (by omega) (by omega) (by omega) ?_
              refine fz_ialdV (n := 4) (v := h 76 ((pm / 10).toNat)) kX11_does rfl rfl (by omega) (by omega) (hf29 76 _ rfl) ?_
              have b32 : 0 ≤ h 76 ((pm / 10).toNat) ∧ h 76 ((pm / 10).toNat) ≤ 7 := hI.1 76 _
              refine fz_aload_n kX11_does rfl rfl ?_
              refine fz_getV (v := h 53 34) kX11_does rfl rfl (hf29 53 34 rfl) ?_
              have b33 : 0 ≤ h 53 34 ∧ h 53 34 ≤ 999 := hI.1 53 _
              refine fz_iload_n kX11_does rfl rfl ?_
              refine fz_bipush ⟨by decide, by decide⟩ kX11_does rfl ?_
              refine fz_iremN kX11_does rfl (by omega) (by omega) (by omega) ?_
              refine fz_iload_n kX11_does rfl rfl ?_
              have b34 : 0 ≤ H27 53 10 ∧ H27 53 10 ≤ 11 := hI28.1 53 _
              refine fz_callV (d' := 0) (M' := mX11_newDeed) (As := [fz_i (pm / 10), fz_i (h 76 ((pm / 10).toNat)), fz_i (h 53 34), fz_i (pm % 10), fz_i wt]) (st := []) kX11_does rfl rfl vX11_newDeed rfl rfl rfl rfl (Nat.le_of_ble_eq_true rfl) (Nat.le_of_ble_eq_true rfl) (by decide) (sX11_newDeed H27 hI28 (pm / 10) (h 76 ((pm / 10).toNat)) (h 53 34) (pm % 10) wt (by omega) (by omega) (by omega) (by omega) (by omega)) (fun H35 r36 q37 o38 => ?_)
              obtain ⟨hI39, hf40, y43, rfl, f41, f42⟩ := q37
              clear o38
              have hf44 := fz_fr_tr hf29 hf40 (show fz_su [(53, 10), (60, 99999), (61, 99999), (62, 99999), (63, 99999), (64, 99999)] [(53, 10), (60, 99999), (61, 99999), (62, 99999), (63, 99999), (64, 99999), (77, 99999)] = true from rfl)
              exact fz_iret kX11_does rfl rfl (fun _ => ⟨hI39, hf44, _, rfl, (by omega), (by omega)⟩)
            · refine fz_bipush ⟨by decide, by decide⟩ kX11_does rfl ?_
              exact fz_iret kX11_does rfl rfl (fun _ => ⟨hI, hf, _, rfl, (by omega), (by omega)⟩)
          · refine fz_iconst ⟨by decide, by decide⟩ kX11_does rfl ?_
            exact fz_iret kX11_does rfl rfl (fun _ => ⟨hI, hf, _, rfl, (by omega), (by omega)⟩)
      · refine fz_if_eq (tgt := 24) kX11_does rfl (by decide) (fun c45 => ?_) (fun c45 => ?_)
        · refine fz_iconst ⟨by decide, by decide⟩ kX11_does rfl ?_
          exact fz_iret kX11_does rfl rfl (fun _ => ⟨hI, hf, _, rfl, (by omega), (by omega)⟩)
        · exfalso; omega
  · refine fz_if_eq (tgt := 24) kX11_does rfl (by decide) (fun c46 => ?_) (fun c46 => ?_)
    · refine fz_iconst ⟨by decide, by decide⟩ kX11_does rfl ?_
      exact fz_iret kX11_does rfl rfl (fun _ => ⟨hI, hf, _, rfl, (by omega), (by omega)⟩)
    · exfalso; omega
