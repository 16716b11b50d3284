/-! ===== what the methods keep ===== -/
abbrev qX11_isEnough (h : fz_H) (pm t hr wt to x : Int) : fz_H → Option fz_V → Prop := fun h' r0 => fz_Iv h' ∧ fz_fr [(53, 10), (60, 99999), (61, 99999), (62, 99999), (63, 99999), (64, 99999), (74, 99999), (75, 99999), (86, 99999), (87, 99999), (88, 99999)] h h' ∧ ∃ r : Int, r0 = some (fz_i r) ∧ (r = 0 ∨ r = 1) ∧ (h' 53 10 ≤ 10)
set_option maxHeartbeats 1000000 in
set_option maxRecDepth 100000 in
theorem sX11_isEnough (h : fz_H) (hI : fz_Iv h) (pm t hr wt to x : Int) (hp0 : 0 ≤ pm ∧ pm ≤ 39) (hp1 : pm % 10 ≤ 4) (hp2 : 0 ≤ t ∧ t ≤ 7) (hp3 : 0 ≤ hr ∧ hr ≤ 999) (hp4 : 1 ≤ wt ∧ wt ≤ 9) (hp5 : 0 ≤ to ∧ to / 1000 ≤ 7) (hp6 : h 53 10 ≤ 10) : fz_R 4 mX11_isEnough 0 [(0, fz_r 53), (1, fz_i pm), (2, fz_i t), (3, fz_i hr), (4, fz_i wt), (5, fz_i to), (6, fz_i x)] [] h (qX11_isEnough h pm t hr wt to x) := by
  refine fz_knowl (fun hk => ?_)
  have hr_pm : -2147483648 ≤ pm ∧ pm < 2147483648 := hk _ (List.Mem.tail _ (List.Mem.head _))
  have hr_t : -2147483648 ≤ t ∧ t < 2147483648 := hk _ (List.Mem.tail _ (List.Mem.tail _ (List.Mem.head _)))
  have hr_hr : -2147483648 ≤ hr ∧ hr < 2147483648 := hk _ (List.Mem.tail _ (List.Mem.tail _ (List.Mem.tail _ (List.Mem.head _))))
  have hr_wt : -2147483648 ≤ wt ∧ wt < 2147483648 := hk _ (List.Mem.tail _ (List.Mem.tail _ (List.Mem.tail _ (List.Mem.tail _ (List.Mem.head _)))))
  have hr_to : -2147483648 ≤ to ∧ to < 2147483648 := hk _ (List.Mem.tail _ (List.Mem.tail _ (List.Mem.tail _ (List.Mem.tail _ (List.Mem.tail _ (List.Mem.head _))))))
  have hr_x : -2147483648 ≤ x ∧ x < 2147483648 := hk _ (List.Mem.tail _ (List.Mem.tail _ (List.Mem.tail _ (List.Mem.tail _ (List.Mem.tail _ (List.Mem.tail _ (List.Mem.head _)))))))
  clear hk
  have hf : fz_fr [(53, 10), (60, 99999), (61, 99999), (62, 99999), (63, 99999), (64, 99999), (74, 99999), (75, 99999), (86, 99999), (87, 99999), (88, 99999)] h h := fz_fr_rf
  have b1 : 0 ≤ h 53 10 ∧ h 53 10 ≤ 11 := hI.1 53 _
  refine fz_aload_n kX11_isEnough rfl rfl ?_
  refine fz_iload_n kX11_isEnough rfl rfl ?_
  refine fz_bipush ⟨by decide, by decide⟩ kX11_isEnough rfl ?_
  refine fz_idivN kX11_isEnough rfl (by omega) (by omega) (by omega) ?_
  refine fz_iload_n kX11_isEnough rfl rfl ?_
  refine fz_iload_n kX11_isEnough rfl rfl ?_
  refine fz_iload_n kX11_isEnough rfl rfl ?_
  refine fz_bipush ⟨by decide, by decide⟩ kX11_isEnough rfl ?_
  refine fz_iremN kX11_isEnough rfl (by omega) (by omega) (by omega) ?_
  refine fz_iload kX11_isEnough rfl rfl ?_
  refine fz_callV (d' := 0) (M' := mX11_newDeed) (As := [fz_i (pm / 10), fz_i t, fz_i hr, fz_i (pm % 10), fz_i wt]) (st := []) kX11_isEnough rfl rfl vX11_newDeed rfl rfl rfl rfl (Nat.le_of_ble_eq_true rfl) (Nat.le_of_ble_eq_true rfl) (by decide) (sX11_newDeed h hI (pm / 10) t hr (pm % 10) wt (by omega) (by omega) (by omega) (by omega) (by omega)) (fun H2 r3 q4 o5 => ?_)
  obtain ⟨hI6, hf7, y10, rfl, f8, f9⟩ := q4
  clear o5
  have hf11 := fz_fr_tr hf hf7 (show fz_su [(53, 10), (60, 99999), (61, 99999), (62, 99999), (63, 99999), (64, 99999)] [(53, 10), (60, 99999), (61, 99999), (62, 99999), (63, 99999), (64, 99999), (74, 99999), (75, 99999), (86, 99999), (87, 99999), (88, 99999)] = true from rfl)
  refine fz_pop rfl kX11_isEnough rfl ?_
  refine fz_aload_n kX11_isEnough rfl rfl ?_
  refine fz_aload_n kX11_isEnough rfl rfl ?_
  obtain ⟨v12, e13⟩ : ∃ z, H2 53 (10) = z := ⟨_, rfl⟩
  refine fz_getV (v := v12) kX11_isEnough rfl rfl e13 ?_
  have b14 : 0 ≤ v12 ∧ v12 ≤ 11 := by rw [← e13]; exact hI6.1 53 _
  refine fz_iconst ⟨by decide, by decide⟩ kX11_isEnough rfl ?_
  refine fz_isubN kX11_isEnough rfl (by omega) ?_
  refine fz_callV (d' := 2) (M' := mX11_hears) (As := [fz_i (v12 - 1)]) (st := []) kX11_isEnough rfl rfl vX11_hears rfl rfl rfl rfl (Nat.le_of_ble_eq_true rfl) (Nat.le_of_ble_eq_true rfl) (by decide) (sX11_hears H2 hI6 (v12 - 1) (by omega)) (fun H15 r16 q17 o18 => ?_)
  obtain ⟨hI19, hf20, rfl⟩ := q17
  clear o18
  have hf21 := fz_fr_tr hf11 hf20 (show fz_su [(86, 99999), (87, 99999), (88, 99999)] [(53, 10), (60, 99999), (61, 99999), (62, 99999), (63, 99999), (64, 99999), (74, 99999), (75, 99999), (86, 99999), (87, 99999), (88, 99999)] = true from rfl)
  have k22 : H15 53 10 = v12 := (hf20 53 10 rfl).trans e13
  refine fz_aload_n kX11_isEnough rfl rfl ?_
  refine fz_iload_n kX11_isEnough rfl rfl ?_
  refine fz_bipush ⟨by decide, by decide⟩ kX11_isEnough rfl ?_
  refine fz_idivN kX11_isEnough rfl (by omega) (by omega) (by omega) ?_
  refine fz_iload_n kX11_isEnough rfl rfl ?_
  refine fz_bipush ⟨by decide, by decide⟩ kX11_isEnough rfl ?_
  refine fz_iremN kX11_isEnough rfl (by omega) (by omega) (by omega) ?_
  refine fz_iload kX11_isEnough rfl rfl ?_
  refine fz_sipush ⟨by decide, by decide⟩ kX11_isEnough rfl ?_
  refine fz_idivN kX11_isEnough rfl (by omega) (by omega) (by omega) ?_
  refine fz_iload kX11_isEnough rfl rfl ?_
  refine fz_sipush ⟨by decide, by decide⟩ kX11_isEnough rfl ?_
  refine fz_iremN kX11_isEnough rfl (by omega) (by omega) (by omega) ?_
  refine fz_callV (d' := 3) (M' := mX11_saidOf) (As := [fz_i (pm / 10), fz_i (pm % 10), fz_i (to / 1000), fz_i (to % 1000)]) (st := []) kX11_isEnough rfl rfl vX11_saidOf rfl rfl rfl rfl (Nat.le_of_ble_eq_true rfl) (Nat.le_of_ble_eq_true rfl) (by decide) (sX11_saidOf H15 hI19 (pm / 10) (pm % 10) (to / 1000) (to % 1000) (by omega)) (fun H23 r24 q25 o26 => ?_)
  obtain ⟨hI27, hf28, y30, rfl, f29⟩ := q25
  clear o26
  have hf31 := fz_fr_tr hf21 hf28 (show fz_su [(74, 99999), (75, 99999)] [(53, 10), (60, 99999), (61, 99999), (62, 99999), (63, 99999), (64, 99999), (74, 99999), (75, 99999), (86, 99999), (87, 99999), (88, 99999)] = true from rfl)
  have k32 : H23 53 10 = v12 := (hf28 53 10 rfl).trans k22
  refine fz_iload kX11_isEnough rfl rfl ?_
  refine fz_icmp_lt (tgt := 60) kX11_isEnough rfl (by decide) (fun c33 => ?_) (fun c33 => ?_)
  · refine fz_iconst ⟨by decide, by decide⟩ kX11_isEnough rfl ?_
    refine fz_istore (ls' := [(7, fz_i 0), (0, fz_r 53), (1, fz_i pm), (2, fz_i t), (3, fz_i hr), (4, fz_i wt), (5, fz_i to), (6, fz_i x)]) kX11_isEnough rfl (by decide) rfl ?_
    refine fz_aload_n kX11_isEnough rfl rfl ?_
    refine fz_dup rfl kX11_isEnough rfl ?_
    refine fz_getV (v := v12) kX11_isEnough rfl rfl k32 ?_
    refine fz_iconst ⟨by decide, by decide⟩ kX11_isEnough rfl ?_
    refine fz_isubN kX11_isEnough rfl (by omega) ?_
    refine fz_putI kX11_isEnough rfl rfl rfl ?_
    refine fz_nmu (S := [(53, 10), (60, 99999), (61, 99999), (62, 99999), (63, 99999), (64, 99999), (74, 99999), (75, 99999), (86, 99999), (87, 99999), (88, 99999)]) (h0 := h) (fz_Iv_up hI27 (by decide) (show 0 ≤ (v12 - 1) by omega) (show (v12 - 1) ≤ 11 by omega)) (fz_fr_up hf31 rfl) (fun H34 hI35 hf36 e37 => ?_)
    have k38 : H34 53 10 = (v12 - 1) := by rw [e37]; exact fz_up_e
    clear e37
    refine fz_iload kX11_isEnough rfl rfl ?_
    exact fz_zret kX11_isEnough rfl rfl (by omega) ⟨hI35, hf36, _, rfl, (by omega), (by omega)⟩
  · refine fz_iconst ⟨by decide, by decide⟩ kX11_isEnough rfl ?_
    refine fz_goto (tgt := 61) kX11_isEnough rfl (by decide) ?_
    refine fz_istore (ls' := [(7, fz_i 1), (0, fz_r 53), (1, fz_i pm), (2, fz_i t), (3, fz_i hr), (4, fz_i wt), (5, fz_i to), (6, fz_i x)]) kX11_isEnough rfl (by decide) rfl ?_
    refine fz_aload_n kX11_isEnough rfl rfl ?_
    refine fz_dup rfl kX11_isEnough rfl ?_
    refine fz_getV (v := v12) kX11_isEnough rfl rfl k32 ?_
    refine fz_iconst ⟨by decide, by decide⟩ kX11_isEnough rfl ?_
    refine fz_isubN kX11_isEnough rfl (by omega) ?_
    refine fz_putI kX11_isEnough rfl rfl rfl ?_
    refine fz_nmu (S := [(53, 10), (60, 99999), (61, 99999), (62, 99999), (63, 99999), (64, 99999), (74, 99999), (75, 99999), (86, 99999), (87, 99999), (88, 99999)]) (h0 := h) (fz_Iv_up hI27 (by decide) (show 0 ≤ (v12 - 1) by omega) (show (v12 - 1) ≤ 11 by omega)) (fz_fr_up hf31 rfl) (fun H39 hI40 hf41 e42 => ?_)
    have k43 : H39 53 10 = (v12 - 1) := by rw [e42]; exact fz_up_e
    clear e42
    refine fz_iload kX11_isEnough rfl rfl ?_
    exact fz_zret kX11_isEnough rfl rfl (by omega) ⟨hI40, hf41, _, rfl, (by omega), (by omega)⟩

abbrev qX11_needs (h : fz_H) (pm th to x : Int) : fz_H → Option fz_V → Prop := fun h' r0 => fz_Iv h' ∧ fz_fr [(53, 10), (60, 99999), (61, 99999), (62, 99999), (63, 99999), (64, 99999), (74, 99999), (75, 99999), (86, 99999), (87, 99999), (88, 99999)] h h' ∧ ∃ r : Int, r0 = some (fz_i r) ∧ ((-2) ≤ r ∧ r ≤ 9) ∧ (h' 53 10 ≤ 10)
set_option maxHeartbeats 1000000 in
set_option maxRecDepth 100000 in
theorem sX11_needs (h : fz_H) (hI : fz_Iv h) (pm th to x : Int) (hp0 : h 53 10 ≤ 10) : fz_R 5 mX11_needs 0 [(0, fz_r 53), (1, fz_i pm), (2, fz_i th), (3, fz_i to), (4, fz_i x)] [] h (qX11_needs h pm th to x) := by
  refine fz_knowl (fun hk => ?_)
  have hr_pm : -2147483648 ≤ pm ∧ pm < 2147483648 := hk _ (List.Mem.tail _ (List.Mem.head _))
  have hr_th : -2147483648 ≤ th ∧ th < 2147483648 := hk _ (List.Mem.tail _ (List.Mem.tail _ (List.Mem.head _)))
  have hr_to : -2147483648 ≤ to ∧ to < 2147483648 := hk _ (List.Mem.tail _ (List.Mem.tail _ (List.Mem.tail _ (List.Mem.head _))))
  have hr_x : -2147483648 ≤ x ∧ x < 2147483648 := hk _ (List.Mem.tail _ (List.Mem.tail _ (List.Mem.tail _ (List.Mem.tail _ (List.Mem.head _)))))
  clear hk
  have hf : fz_fr [(53, 10), (60, 99999), (61, 99999), (62, 99999), (63, 99999), (64, 99999), (74, 99999), (75, 99999), (86, 99999), (87, 99999), (88, 99999)] h h := fz_fr_rf
  have b1 : 0 ≤ h 53 10 ∧ h 53 10 ≤ 11 := hI.1 53 _
  refine fz_iload_n kX11_needs rfl rfl ?_
  refine fz_callS (d' := 2) (M' := mX11_isMarked) (As := [fz_i pm]) (st := []) kX11_needs rfl rfl vX11_isMarked rfl rfl (Nat.le_of_ble_eq_true rfl) (Nat.le_of_ble_eq_true rfl) (by decide) (sX11_isMarked h hI pm ) (fun H2 r3 q4 o5 => ?_)
  obtain ⟨e6, y7, rfl, p8⟩ := q4
  subst H2
  clear o5
  rcases p8 with ⟨rfl, c9⟩ | ⟨rfl, c9⟩
  · refine fz_if_eq (tgt := 34) kX11_needs rfl (by decide) (fun c10 => ?_) (fun c10 => ?_)
    · exfalso; omega
    · refine fz_aload_n kX11_needs rfl rfl ?_
      refine fz_iload_n kX11_needs rfl rfl ?_
      have b11 : 0 ≤ h 53 0 ∧ h 53 0 ≤ 8 := hI.1 53 _
      refine fz_callV (d' := 2) (M' := mX11_isWhen) (As := [fz_i th]) (st := []) kX11_needs rfl rfl vX11_isWhen rfl rfl rfl rfl (Nat.le_of_ble_eq_true rfl) (Nat.le_of_ble_eq_true rfl) (by decide) (sX11_isWhen h hI th ) (fun H12 r13 q14 o15 => ?_)
      obtain ⟨e16, y17, rfl, p18⟩ := q14
      subst H12
      clear o15
      rcases p18 with ⟨rfl, c19⟩ | ⟨rfl, c19⟩
      · refine fz_if_eq (tgt := 34) kX11_needs rfl (by decide) (fun c20 => ?_) (fun c20 => ?_)
        · exfalso; omega
        · refine fz_aload_n kX11_needs rfl rfl ?_
          refine fz_iload_n kX11_needs rfl rfl ?_
          refine fz_callV (d' := 2) (M' := mX11_isWhen) (As := [fz_i to]) (st := []) kX11_needs rfl rfl vX11_isWhen rfl rfl rfl rfl (Nat.le_of_ble_eq_true rfl) (Nat.le_of_ble_eq_true rfl) (by decide) (sX11_isWhen h hI to ) (fun H21 r22 q23 o24 => ?_)
          obtain ⟨e25, y26, rfl, p27⟩ := q23
          subst H21
          clear o24
          rcases p27 with ⟨rfl, c28⟩ | ⟨rfl, c28⟩
          · refine fz_if_eq (tgt := 34) kX11_needs rfl (by decide) (fun c29 => ?_) (fun c29 => ?_)
            · exfalso; omega
            · refine fz_iload kX11_needs rfl rfl ?_
              refine fz_iconst ⟨by decide, by decide⟩ kX11_needs rfl ?_
              refine fz_bipush ⟨by decide, by decide⟩ kX11_needs rfl ?_
              refine fz_callS (d' := 0) (M' := mX11_within) (As := [fz_i x, fz_i 1, fz_i 99]) (st := []) kX11_needs rfl rfl vX11_within rfl rfl (Nat.le_of_ble_eq_true rfl) (Nat.le_of_ble_eq_true rfl) (by decide) (sX11_within h hI x 1 99 ) (fun H30 r31 q32 o33 => ?_)
              obtain ⟨e34, y35, rfl, p36⟩ := q32
              subst H30
              clear o33
              rcases p36 with ⟨rfl, c37⟩ | ⟨rfl, c37⟩
              · refine fz_if_ne (tgt := 36) kX11_needs rfl (by decide) (fun c38 => ?_) (fun c38 => ?_)
                · refine fz_aload_n kX11_needs rfl rfl ?_
                  refine fz_callV (d' := 3) (M' := mX11_allHear) (As := []) (st := []) kX11_needs rfl rfl vX11_allHear rfl rfl rfl rfl (Nat.le_of_ble_eq_true rfl) (Nat.le_of_ble_eq_true rfl) (by decide) (sX11_allHear h hI  ) (fun H39 r40 q41 o42 => ?_)
                  obtain ⟨hI43, hf44, rfl⟩ := q41
                  clear o42
                  have hf45 := fz_fr_tr hf hf44 (show fz_su [(86, 99999), (87, 99999), (88, 99999)] [(53, 10), (60, 99999), (61, 99999), (62, 99999), (63, 99999), (64, 99999), (74, 99999), (75, 99999), (86, 99999), (87, 99999), (88, 99999)] = true from rfl)
                  have k46 : H39 53 10 = (h 53 10) := (hf44 53 10 rfl).trans rfl
                  refine fz_iconst ⟨by decide, by decide⟩ kX11_needs rfl ?_
                  refine fz_istore (ls' := [(5, fz_i 1), (0, fz_r 53), (1, fz_i pm), (2, fz_i th), (3, fz_i to), (4, fz_i x)]) kX11_needs rfl (by decide) rfl ?_
                  have lp52 : ∀ (n51 : Nat) (x47 : Int) (H48 : fz_H), fz_Iv H48 → fz_fr [(53, 10), (60, 99999), (61, 99999), (62, 99999), (63, 99999), (64, 99999), (74, 99999), (75, 99999), (86, 99999), (87, 99999), (88, 99999)] h H48 → (1 ≤ x47 ∧ x47 ≤ 2147483647) → (H48 53 10 ≤ 10) → (10 - x47).toNat < n51 → fz_R 5 mX11_needs 43 [(5, fz_i x47), (0, fz_r 53), (1, fz_i pm), (2, fz_i th), (3, fz_i to), (4, fz_i x)] [] H48 (qX11_needs h pm th to x) := by
                    intro n51
                    induction n51 with
                    | zero => intro x47 H48 hI49 hf50 hv55 hv56 hm54; exact absurd hm54 (by omega)
                    | succ n51 ih53 =>
                      intro x47 H48 hI49 hf50 hv55 hv56 hm54
                      refine fz_iload kX11_needs rfl rfl ?_
                      refine fz_bipush ⟨by decide, by decide⟩ kX11_needs rfl ?_
                      refine fz_icmp_ge (tgt := 82) kX11_needs rfl (by decide) (fun c57 => ?_) (fun c57 => ?_)
                      · refine fz_bipush ⟨by decide, by decide⟩ kX11_needs rfl ?_
                        exact fz_iret kX11_needs rfl rfl (fun _ => ⟨hI49, hf50, _, rfl, (by omega), (by omega)⟩)
                      · refine fz_aload_n kX11_needs rfl rfl ?_
                        refine fz_iload_n kX11_needs rfl rfl ?_
                        refine fz_iload_n kX11_needs rfl rfl ?_
                        refine fz_sipush ⟨by decide, by decide⟩ kX11_needs rfl ?_
                        refine fz_idivN kX11_needs rfl (by omega) (by omega) (by omega) ?_
                        refine fz_iload_n kX11_needs rfl rfl ?_
                        refine fz_sipush ⟨by decide, by decide⟩ kX11_needs rfl ?_
                        refine fz_iremN kX11_needs rfl (by omega) (by omega) (by omega) ?_
                        refine fz_iload kX11_needs rfl rfl ?_
                        refine fz_iload_n kX11_needs rfl rfl ?_
                        refine fz_iload kX11_needs rfl rfl ?_
                        have b58 : 0 ≤ H48 53 10 ∧ H48 53 10 ≤ 11 := hI49.1 53 _
                        refine fz_callV (d' := 4) (M' := mX11_isEnough) (As := [fz_i pm, fz_i (th / 1000), fz_i (th % 1000), fz_i x47, fz_i to, fz_i x]) (st := []) kX11_needs rfl rfl vX11_isEnough rfl rfl rfl rfl (Nat.le_of_ble_eq_true rfl) (Nat.le_of_ble_eq_true rfl) (by decide) (sX11_isEnough H48 hI49 pm (th / 1000) (th % 1000) x47 to x (by omega) (by omega) (by omega) (by omega) (by omega) (by omega) (by omega)) (fun H59 r60 q61 o62 => ?_)
                        obtain ⟨hI63, hf64, y66, rfl, p67, f65⟩ := q61
                        clear o62
                        have hf68 := fz_fr_tr hf50 hf64 (show fz_su [(53, 10), (60, 99999), (61, 99999), (62, 99999), (63, 99999), (64, 99999), (74, 99999), (75, 99999), (86, 99999), (87, 99999), (88, 99999)] [(53, 10), (60, 99999), (61, 99999), (62, 99999), (63, 99999), (64, 99999), (74, 99999), (75, 99999), (86, 99999), (87, 99999), (88, 99999)] = true from rfl)
                        refine fz_if_eq (tgt := 76) kX11_needs rfl (by decide) (fun c69 => ?_) (fun c69 => ?_)
                        · refine fz_iincN (ls' := [(5, fz_i (x47 + 1)), (0, fz_r 53), (1, fz_i pm), (2, fz_i th), (3, fz_i to), (4, fz_i x)]) kX11_needs rfl (by decide) rfl (by omega) rfl ?_
                          refine fz_goto (tgt := 43) kX11_needs rfl (by decide) ?_
                          exact ih53 (x47 + 1) H59 hI63 hf68 (by omega) (by omega) (by omega)
                        · refine fz_iload kX11_needs rfl rfl ?_
                          exact fz_iret kX11_needs rfl rfl (fun _ => ⟨hI63, hf68, _, rfl, (by omega), (by omega)⟩)
                  exact lp52 _ 1 H39 hI43 hf45 (by omega) (by omega) (Nat.lt_succ_self _)
                · exfalso; omega
              · refine fz_if_ne (tgt := 36) kX11_needs rfl (by decide) (fun c70 => ?_) (fun c70 => ?_)
                · exfalso; omega
                · refine fz_iconst ⟨by decide, by decide⟩ kX11_needs rfl ?_
                  exact fz_iret kX11_needs rfl rfl (fun _ => ⟨hI, hf, _, rfl, (by omega), (by omega)⟩)
          · refine fz_if_eq (tgt := 34) kX11_needs rfl (by decide) (fun c71 => ?_) (fun c71 => ?_)
            · refine fz_iconst ⟨by decide, by decide⟩ kX11_needs rfl ?_
              exact fz_iret kX11_needs rfl rfl (fun _ => ⟨hI, hf, _, rfl, (by omega), (by omega)⟩)
            · exfalso; omega
      · refine fz_if_eq (tgt := 34) kX11_needs rfl (by decide) (fun c72 => ?_) (fun c72 => ?_)
        · refine fz_iconst ⟨by decide, by decide⟩ kX11_needs rfl ?_
          exact fz_iret kX11_needs rfl rfl (fun _ => ⟨hI, hf, _, rfl, (by omega), (by omega)⟩)
        · exfalso; omega
  · refine fz_if_eq (tgt := 34) kX11_needs rfl (by decide) (fun c73 => ?_) (fun c73 => ?_)
    · refine fz_iconst ⟨by decide, by decide⟩ kX11_needs rfl ?_
      exact fz_iret kX11_needs rfl rfl (fun _ => ⟨hI, hf, _, rfl, (by omega), (by omega)⟩)
    · exfalso; omega

abbrev qX11_latest (h : fz_H) (pm t to wx : Int) : fz_H → Option fz_V → Prop := fun h' r0 => fz_Iv h' ∧ fz_fr [(53, 10), (60, 99999), (61, 99999), (62, 99999), (63, 99999), (64, 99999), (74, 99999), (75, 99999), (86, 99999), (87, 99999), (88, 99999)] h h' ∧ ∃ r : Int, r0 = some (fz_i r) ∧ ((-2) ≤ r ∧ r ≤ 999) ∧ (h' 53 10 ≤ 10)
set_option maxHeartbeats 1000000 in
set_option maxRecDepth 100000 in
theorem sX11_latest (h : fz_H) (hI : fz_Iv h) (pm t to wx : Int) (hp0 : h 53 10 ≤ 10) : fz_R 5 mX11_latest 0 [(0, fz_r 53), (1, fz_i pm), (2, fz_i t), (3, fz_i to), (4, fz_i wx)] [] h (qX11_latest h pm t to wx) := by
  refine fz_knowl (fun hk => ?_)
  have hr_pm : -2147483648 ≤ pm ∧ pm < 2147483648 := hk _ (List.Mem.tail _ (List.Mem.head _))
  have hr_t : -2147483648 ≤ t ∧ t < 2147483648 := hk _ (List.Mem.tail _ (List.Mem.tail _ (List.Mem.head _)))
  have hr_to : -2147483648 ≤ to ∧ to < 2147483648 := hk _ (List.Mem.tail _ (List.Mem.tail _ (List.Mem.tail _ (List.Mem.head _))))
  have hr_wx : -2147483648 ≤ wx ∧ wx < 2147483648 := hk _ (List.Mem.tail _ (List.Mem.tail _ (List.Mem.tail _ (List.Mem.tail _ (List.Mem.head _)))))
  clear hk
  have hf : fz_fr [(53, 10), (60, 99999), (61, 99999), (62, 99999), (63, 99999), (64, 99999), (74, 99999), (75, 99999), (86, 99999), (87, 99999), (88, 99999)] h h := fz_fr_rf
  have b1 : 0 ≤ h 53 10 ∧ h 53 10 ≤ 11 := hI.1 53 _
  refine fz_iload_n kX11_latest rfl rfl ?_
  refine fz_callS (d' := 2) (M' := mX11_isMarked) (As := [fz_i pm]) (st := []) kX11_latest rfl rfl vX11_isMarked rfl rfl (Nat.le_of_ble_eq_true rfl) (Nat.le_of_ble_eq_true rfl) (by decide) (sX11_isMarked h hI pm ) (fun H2 r3 q4 o5 => ?_)
  obtain ⟨e6, y7, rfl, p8⟩ := q4
  subst H2
  clear o5
  rcases p8 with ⟨rfl, c9⟩ | ⟨rfl, c9⟩
  · refine fz_if_eq (tgt := 50) kX11_latest rfl (by decide) (fun c10 => ?_) (fun c10 => ?_)
    · exfalso; omega
    · refine fz_aload_n kX11_latest rfl rfl ?_
      refine fz_iload_n kX11_latest rfl rfl ?_
      have b11 : 0 ≤ h 53 0 ∧ h 53 0 ≤ 8 := hI.1 53 _
      refine fz_callV (d' := 1) (M' := mX11_isTown) (As := [fz_i t]) (st := []) kX11_latest rfl rfl vX11_isTown rfl rfl rfl rfl (Nat.le_of_ble_eq_true rfl) (Nat.le_of_ble_eq_true rfl) (by decide) (sX11_isTown h hI t ) (fun H12 r13 q14 o15 => ?_)
      obtain ⟨e16, y17, rfl, p18⟩ := q14
      subst H12
      clear o15
      rcases p18 with ⟨rfl, c19⟩ | ⟨rfl, c19⟩
      · refine fz_if_eq (tgt := 50) kX11_latest rfl (by decide) (fun c20 => ?_) (fun c20 => ?_)
        · exfalso; omega
        · refine fz_aload_n kX11_latest rfl rfl ?_
          refine fz_iload_n kX11_latest rfl rfl ?_
          refine fz_callV (d' := 2) (M' := mX11_isWhen) (As := [fz_i to]) (st := []) kX11_latest rfl rfl vX11_isWhen rfl rfl rfl rfl (Nat.le_of_ble_eq_true rfl) (Nat.le_of_ble_eq_true rfl) (by decide) (sX11_isWhen h hI to ) (fun H21 r22 q23 o24 => ?_)
          obtain ⟨e25, y26, rfl, p27⟩ := q23
          subst H21
          clear o24
          rcases p27 with ⟨rfl, c28⟩ | ⟨rfl, c28⟩
          · refine fz_if_eq (tgt := 50) kX11_latest rfl (by decide) (fun c29 => ?_) (fun c29 => ?_)
            · exfalso; omega
            · refine fz_iload kX11_latest rfl rfl ?_
              refine fz_if_lt (tgt := 50) kX11_latest rfl (by decide) (fun c30 => ?_) (fun c30 => ?_)
              · refine fz_iconst ⟨by decide, by decide⟩ kX11_latest rfl ?_
                exact fz_iret kX11_latest rfl rfl (fun _ => ⟨hI, hf, _, rfl, (by omega), (by omega)⟩)
              · refine fz_iload kX11_latest rfl rfl ?_
                refine fz_bipush ⟨by decide, by decide⟩ kX11_latest rfl ?_
                refine fz_idivN kX11_latest rfl (by omega) (by omega) (by omega) ?_
                refine fz_iconst ⟨by decide, by decide⟩ kX11_latest rfl ?_
                refine fz_bipush ⟨by decide, by decide⟩ kX11_latest rfl ?_
                refine fz_callS (d' := 0) (M' := mX11_within) (As := [fz_i (wx / 100), fz_i 1, fz_i 9]) (st := []) kX11_latest rfl rfl vX11_within rfl rfl (Nat.le_of_ble_eq_true rfl) (Nat.le_of_ble_eq_true rfl) (by decide) (sX11_within h hI (wx / 100) 1 9 ) (fun H31 r32 q33 o34 => ?_)
                obtain ⟨e35, y36, rfl, p37⟩ := q33
                subst H31
                clear o34
                rcases p37 with ⟨rfl, c38⟩ | ⟨rfl, c38⟩
                · refine fz_if_eq (tgt := 50) kX11_latest rfl (by decide) (fun c39 => ?_) (fun c39 => ?_)
                  · exfalso; omega
                  · refine fz_iload kX11_latest rfl rfl ?_
                    refine fz_bipush ⟨by decide, by decide⟩ kX11_latest rfl ?_
                    refine fz_iremN kX11_latest rfl (by omega) (by omega) (by omega) ?_
                    refine fz_if_ne (tgt := 52) kX11_latest rfl (by decide) (fun c40 => ?_) (fun c40 => ?_)
                    · refine fz_aload_n kX11_latest rfl rfl ?_
                      refine fz_callV (d' := 3) (M' := mX11_allHear) (As := []) (st := []) kX11_latest rfl rfl vX11_allHear rfl rfl rfl rfl (Nat.le_of_ble_eq_true rfl) (Nat.le_of_ble_eq_true rfl) (by decide) (sX11_allHear h hI  ) (fun H41 r42 q43 o44 => ?_)
                      obtain ⟨hI45, hf46, rfl⟩ := q43
                      clear o44
                      have hf47 := fz_fr_tr hf hf46 (show fz_su [(86, 99999), (87, 99999), (88, 99999)] [(53, 10), (60, 99999), (61, 99999), (62, 99999), (63, 99999), (64, 99999), (74, 99999), (75, 99999), (86, 99999), (87, 99999), (88, 99999)] = true from rfl)
                      have k48 : H41 53 10 = (h 53 10) := (hf46 53 10 rfl).trans rfl
                      refine fz_sipush ⟨by decide, by decide⟩ kX11_latest rfl ?_
                      refine fz_istore (ls' := [(5, fz_i 999), (0, fz_r 53), (1, fz_i pm), (2, fz_i t), (3, fz_i to), (4, fz_i wx)]) kX11_latest rfl (by decide) rfl ?_
                      have lp54 : ∀ (n53 : Nat) (x49 : Int) (H50 : fz_H), fz_Iv H50 → fz_fr [(53, 10), (60, 99999), (61, 99999), (62, 99999), (63, 99999), (64, 99999), (74, 99999), (75, 99999), (86, 99999), (87, 99999), (88, 99999)] h H50 → ((-2147483648) ≤ x49 ∧ x49 ≤ 999) → (H50 53 10 ≤ 10) → (x49 + 1 - 0).toNat < n53 → fz_R 5 mX11_latest 61 [(5, fz_i x49), (0, fz_r 53), (1, fz_i pm), (2, fz_i t), (3, fz_i to), (4, fz_i wx)] [] H50 (qX11_latest h pm t to wx) := by
                        intro n53
                        induction n53 with
                        | zero => intro x49 H50 hI51 hf52 hv57 hv58 hm56; exact absurd hm56 (by omega)
                        | succ n53 ih55 =>
                          intro x49 H50 hI51 hf52 hv57 hv58 hm56
                          refine fz_iload kX11_latest rfl rfl ?_
                          refine fz_if_lt (tgt := 97) kX11_latest rfl (by decide) (fun c59 => ?_) (fun c59 => ?_)
                          · refine fz_bipush ⟨by decide, by decide⟩ kX11_latest rfl ?_
                            exact fz_iret kX11_latest rfl rfl (fun _ => ⟨hI51, hf52, _, rfl, (by omega), (by omega)⟩)
                          · refine fz_aload_n kX11_latest rfl rfl ?_
                            refine fz_iload_n kX11_latest rfl rfl ?_
                            refine fz_iload_n kX11_latest rfl rfl ?_
                            refine fz_iload kX11_latest rfl rfl ?_
                            refine fz_iload kX11_latest rfl rfl ?_
                            refine fz_bipush ⟨by decide, by decide⟩ kX11_latest rfl ?_
                            refine fz_idivN kX11_latest rfl (by omega) (by omega) (by omega) ?_
                            refine fz_iload_n kX11_latest rfl rfl ?_
                            refine fz_iload kX11_latest rfl rfl ?_
                            refine fz_bipush ⟨by decide, by decide⟩ kX11_latest rfl ?_
                            refine fz_iremN kX11_latest rfl (by omega) (by omega) (by omega) ?_
                            have b60 : 0 ≤ H50 53 10 ∧ H50 53 10 ≤ 11 := hI51.1 53 _
                            refine fz_callV (d' := 4) (M' := mX11_isEnough) (As := [fz_i pm, fz_i t, fz_i x49, fz_i (wx / 100), fz_i to, fz_i (wx % 100)]) (st := []) kX11_latest rfl rfl vX11_isEnough rfl rfl rfl rfl (Nat.le_of_ble_eq_true rfl) (Nat.le_of_ble_eq_true rfl) (by decide) (sX11_isEnough H50 hI51 pm t x49 (wx / 100) to (wx % 100) (by omega) (by omega) (by omega) (by omega) (by omega) (by omega) (by omega)) (fun H61 r62 q63 o64 => ?_)
                            obtain ⟨hI65, hf66, y68, rfl, p69, f67⟩ := q63
                            clear o64
                            have hf70 := fz_fr_tr hf52 hf66 (show fz_su [(53, 10), (60, 99999), (61, 99999), (62, 99999), (63, 99999), (64, 99999), (74, 99999), (75, 99999), (86, 99999), (87, 99999), (88, 99999)] [(53, 10), (60, 99999), (61, 99999), (62, 99999), (63, 99999), (64, 99999), (74, 99999), (75, 99999), (86, 99999), (87, 99999), (88, 99999)] = true from rfl)
                            refine fz_if_eq (tgt := 91) kX11_latest rfl (by decide) (fun c71 => ?_) (fun c71 => ?_)
                            · refine fz_iincN (ls' := [(5, fz_i (x49 + (-1))), (0, fz_r 53), (1, fz_i pm), (2, fz_i t), (3, fz_i to), (4, fz_i wx)]) kX11_latest rfl (by decide) rfl (by omega) rfl ?_
                              refine fz_goto (tgt := 61) kX11_latest rfl (by decide) ?_
                              exact ih55 (x49 + (-1)) H61 hI65 hf70 (by omega) (by omega) (by omega)
                            · refine fz_iload kX11_latest rfl rfl ?_
                              exact fz_iret kX11_latest rfl rfl (fun _ => ⟨hI65, hf70, _, rfl, (by omega), (by omega)⟩)
                      exact lp54 _ 999 H41 hI45 hf47 (by omega) (by omega) (Nat.lt_succ_self _)
                    · refine fz_iconst ⟨by decide, by decide⟩ kX11_latest rfl ?_
                      exact fz_iret kX11_latest rfl rfl (fun _ => ⟨hI, hf, _, rfl, (by omega), (by omega)⟩)
                · refine fz_if_eq (tgt := 50) kX11_latest rfl (by decide) (fun c72 => ?_) (fun c72 => ?_)
                  · refine fz_iconst ⟨by decide, by decide⟩ kX11_latest rfl ?_
                    exact fz_iret kX11_latest rfl rfl (fun _ => ⟨hI, hf, _, rfl, (by omega), (by omega)⟩)
                  · exfalso; omega
          · refine fz_if_eq (tgt := 50) kX11_latest rfl (by decide) (fun c73 => ?_) (fun c73 => ?_)
            · refine fz_iconst ⟨by decide, by decide⟩ kX11_latest rfl ?_
              exact fz_iret kX11_latest rfl rfl (fun _ => ⟨hI, hf, _, rfl, (by omega), (by omega)⟩)
            · exfalso; omega
      · refine fz_if_eq (tgt := 50) kX11_latest rfl (by decide) (fun c74 => ?_) (fun c74 => ?_)
        · refine fz_iconst ⟨by decide, by decide⟩ kX11_latest rfl ?_
          exact fz_iret kX11_latest rfl rfl (fun _ => ⟨hI, hf, _, rfl, (by omega), (by omega)⟩)
        · exfalso; omega
  · refine fz_if_eq (tgt := 50) kX11_latest rfl (by decide) (fun c75 => ?_) (fun c75 => ?_)
    · refine fz_iconst ⟨by decide, by decide⟩ kX11_latest rfl ?_
      exact fz_iret kX11_latest rfl rfl (fun _ => ⟨hI, hf, _, rfl, (by omega), (by omega)⟩)
    · exfalso; omega

abbrev qX11_cut (h : fz_H) (d t wh : Int) : fz_H → Option fz_V → Prop := fun h' r0 => fz_Iv h' ∧ fz_fr [(58, 99999), (86, 99999), (87, 99999)] h h' ∧ ∃ r : Int, r0 = some (fz_i r) ∧ ((-2147483648) ≤ r ∧ r ≤ 2147483647)
set_option maxHeartbeats 1000000 in
set_option maxRecDepth 100000 in
theorem sX11_cut (h : fz_H) (hI : fz_Iv h) (d t wh : Int) : fz_R 3 mX11_cut 0 [(0, fz_r 53), (1, fz_i d), (2, fz_i t), (3, fz_i wh)] [] h (qX11_cut h d t wh) := by
  refine fz_knowl (fun hk => ?_)
  have hr_d : -2147483648 ≤ d ∧ d < 2147483648 := hk _ (List.Mem.tail _ (List.Mem.head _))
  have hr_t : -2147483648 ≤ t ∧ t < 2147483648 := hk _ (List.Mem.tail _ (List.Mem.tail _ (List.Mem.head _)))
  have hr_wh : -2147483648 ≤ wh ∧ wh < 2147483648 := hk _ (List.Mem.tail _ (List.Mem.tail _ (List.Mem.tail _ (List.Mem.head _))))
  clear hk
  have hf : fz_fr [(58, 99999), (86, 99999), (87, 99999)] h h := fz_fr_rf
  refine fz_aload_n kX11_cut rfl rfl ?_
  refine fz_iload_n kX11_cut rfl rfl ?_
  have b1 : 0 ≤ h 53 10 ∧ h 53 10 ≤ 11 := hI.1 53 _
  refine fz_callV (d' := 1) (M' := mX11_isDeed) (As := [fz_i d]) (st := []) kX11_cut rfl rfl vX11_isDeed rfl rfl rfl rfl (Nat.le_of_ble_eq_true rfl) (Nat.le_of_ble_eq_true rfl) (by decide) (sX11_isDeed h hI d ) (fun H2 r3 q4 o5 => ?_)
  obtain ⟨e6, y7, rfl, p8⟩ := q4
  subst H2
  clear o5
  rcases p8 with ⟨rfl, c9⟩ | ⟨rfl, c9⟩
  · refine fz_if_eq (tgt := 25) kX11_cut rfl (by decide) (fun c10 => ?_) (fun c10 => ?_)
    · exfalso; omega
    · refine fz_aload_n kX11_cut rfl rfl ?_
      refine fz_iload_n kX11_cut rfl rfl ?_
      have b11 : 0 ≤ h 53 0 ∧ h 53 0 ≤ 8 := hI.1 53 _
      refine fz_callV (d' := 1) (M' := mX11_isTown) (As := [fz_i t]) (st := []) kX11_cut rfl rfl vX11_isTown rfl rfl rfl rfl (Nat.le_of_ble_eq_true rfl) (Nat.le_of_ble_eq_true rfl) (by decide) (sX11_isTown h hI t ) (fun H12 r13 q14 o15 => ?_)
      obtain ⟨e16, y17, rfl, p18⟩ := q14
      subst H12
      clear o15
      rcases p18 with ⟨rfl, c19⟩ | ⟨rfl, c19⟩
      · refine fz_if_eq (tgt := 25) kX11_cut rfl (by decide) (fun c20 => ?_) (fun c20 => ?_)
        · exfalso; omega
        · refine fz_iload_n kX11_cut rfl rfl ?_
          refine fz_iconst ⟨by decide, by decide⟩ kX11_cut rfl ?_
          refine fz_iconst ⟨by decide, by decide⟩ kX11_cut rfl ?_
          refine fz_callS (d' := 0) (M' := mX11_within) (As := [fz_i wh, fz_i 0, fz_i 1]) (st := []) kX11_cut rfl rfl vX11_within rfl rfl (Nat.le_of_ble_eq_true rfl) (Nat.le_of_ble_eq_true rfl) (by decide) (sX11_within h hI wh 0 1 ) (fun H21 r22 q23 o24 => ?_)
          obtain ⟨e25, y26, rfl, p27⟩ := q23
          subst H21
          clear o24
          rcases p27 with ⟨rfl, c28⟩ | ⟨rfl, c28⟩
          · refine fz_if_ne (tgt := 27) kX11_cut rfl (by decide) (fun c29 => ?_) (fun c29 => ?_)
            · refine fz_iconst ⟨by decide, by decide⟩ kX11_cut rfl ?_
              refine fz_istore (ls' := [(4, fz_i 0), (0, fz_r 53), (1, fz_i d), (2, fz_i t), (3, fz_i wh)]) kX11_cut rfl (by decide) rfl ?_
              refine fz_iconst ⟨by decide, by decide⟩ kX11_cut rfl ?_
              refine fz_istore (ls' := [(5, fz_i 0), (4, fz_i 0), (0, fz_r 53), (1, fz_i d), (2, fz_i t), (3, fz_i wh)]) kX11_cut rfl (by decide) rfl ?_
              have lp33 : ∀ (n32 : Nat) (x30 : Int) (x31 : Int), (0 ≤ x30 ∧ x30 ≤ 2147483647) → ((-2147483648) ≤ x31 ∧ x31 ≤ 2147483647) → ((h 53 2) - x30).toNat < n32 → fz_R 3 mX11_cut 33 [(5, fz_i x30), (4, fz_i x31), (0, fz_r 53), (1, fz_i d), (2, fz_i t), (3, fz_i wh)] [] h (qX11_cut h d t wh) := by
                intro n32
                induction n32 with
                | zero => intro x30 x31 hv36 hv37 hm35; exact absurd hm35 (by omega)
                | succ n32 ih34 =>
                  intro x30 x31 hv36 hv37 hm35
                  refine fz_iload kX11_cut rfl rfl ?_
                  refine fz_aload_n kX11_cut rfl rfl ?_
                  refine fz_getV (v := h 53 2) kX11_cut rfl rfl rfl ?_
                  have b38 : 0 ≤ h 53 2 ∧ h 53 2 ≤ 12 := hI.1 53 _
                  refine fz_icmp_ge (tgt := 68) kX11_cut rfl (by decide) (fun c39 => ?_) (fun c39 => ?_)
                  · refine fz_bipush ⟨by decide, by decide⟩ kX11_cut rfl ?_
                    refine fz_istore (ls' := [(5, fz_i (-2)), (4, fz_i x31), (0, fz_r 53), (1, fz_i d), (2, fz_i t), (3, fz_i wh)]) kX11_cut rfl (by decide) rfl ?_
                    refine fz_iconst ⟨by decide, by decide⟩ kX11_cut rfl ?_
                    refine fz_istore (ls' := [(6, fz_i 0), (5, fz_i (-2)), (4, fz_i x31), (0, fz_r 53), (1, fz_i d), (2, fz_i t), (3, fz_i wh)]) kX11_cut rfl (by decide) rfl ?_
                    have lp46 : ∀ (n45 : Nat) (x40 : Int) (x41 : Int) (H42 : fz_H), fz_Iv H42 → fz_fr [(58, 99999), (86, 99999), (87, 99999)] h H42 → (0 ≤ x40 ∧ x40 ≤ 2147483647) → ((-2147483648) ≤ x41 ∧ x41 ≤ 2147483647) → ((fz_shl 1 (h 53 2)) - x40).toNat < n45 → fz_R 3 mX11_cut 75 [(6, fz_i x40), (5, fz_i x41), (4, fz_i x31), (0, fz_r 53), (1, fz_i d), (2, fz_i t), (3, fz_i wh)] [] H42 (qX11_cut h d t wh) := by
                      intro n45
                      induction n45 with
                      | zero => intro x40 x41 H42 hI43 hf44 hv49 hv50 hm48; exact absurd hm48 (by omega)
                      | succ n45 ih47 =>
                        intro x40 x41 H42 hI43 hf44 hv49 hv50 hm48
                        refine fz_iload kX11_cut rfl rfl ?_
                        refine fz_iconst ⟨by decide, by decide⟩ kX11_cut rfl ?_
                        refine fz_aload_n kX11_cut rfl rfl ?_
                        refine fz_getV (v := h 53 2) kX11_cut rfl rfl (hf44 53 2 rfl) ?_
                        refine fz_ishl kX11_cut rfl ?_
                        have b51 : -2147483648 ≤ (fz_shl 1 (h 53 2)) ∧ (fz_shl 1 (h 53 2)) < 2147483648 := fz_b32 _
                        refine fz_icmp_ge (tgt := 177) kX11_cut rfl (by decide) (fun c53 => ?_) (fun c53 => ?_)
                        · refine fz_iconst ⟨by decide, by decide⟩ kX11_cut rfl ?_
                          refine fz_istore (ls' := [(6, fz_i 0), (5, fz_i x41), (4, fz_i x31), (0, fz_r 53), (1, fz_i d), (2, fz_i t), (3, fz_i wh)]) kX11_cut rfl (by decide) rfl ?_
                          have lp59 : ∀ (n58 : Nat) (x54 : Int) (H55 : fz_H), fz_Iv H55 → fz_fr [(58, 99999), (86, 99999), (87, 99999)] h H55 → (0 ≤ x54 ∧ x54 ≤ 2147483647) → ((h 53 2) - x54).toNat < n58 → fz_R 3 mX11_cut 180 [(6, fz_i x54), (5, fz_i x41), (4, fz_i x31), (0, fz_r 53), (1, fz_i d), (2, fz_i t), (3, fz_i wh)] [] H55 (qX11_cut h d t wh) := by
                            intro n58
                            induction n58 with
                            | zero => intro x54 H55 hI56 hf57 hv62 hm61; exact absurd hm61 (by omega)
                            | succ n58 ih60 =>
                              intro x54 H55 hI56 hf57 hv62 hm61
                              refine fz_iload kX11_cut rfl rfl ?_
                              refine fz_aload_n kX11_cut rfl rfl ?_
                              refine fz_getV (v := h 53 2) kX11_cut rfl rfl (hf57 53 2 rfl) ?_
                              refine fz_icmp_ge (tgt := 209) kX11_cut rfl (by decide) (fun c63 => ?_) (fun c63 => ?_)
                              · refine fz_iload kX11_cut rfl rfl ?_
                                refine fz_bipush ⟨by decide, by decide⟩ kX11_cut rfl ?_
                                refine fz_icmp_eq (tgt := 221) kX11_cut rfl (by decide) (fun c64 => ?_) (fun c64 => ?_)
                                · refine fz_iload kX11_cut rfl rfl ?_
                                  refine fz_goto (tgt := 231) kX11_cut rfl (by decide) ?_
                                  exact fz_iret kX11_cut rfl rfl (fun _ => ⟨hI56, hf57, _, rfl, (by omega)⟩)
                                · refine fz_iload_n kX11_cut rfl rfl ?_
                                  refine fz_iconst ⟨by decide, by decide⟩ kX11_cut rfl ?_
                                  refine fz_icmp_ne (tgt := 226) kX11_cut rfl (by decide) (fun c65 => ?_) (fun c65 => ?_)
                                  · refine fz_iload kX11_cut rfl rfl ?_
                                    refine fz_callS (d' := 0) (M' := mJ6_bitCount_0f7a4) (As := [fz_i x41]) (st := []) kX11_cut rfl rfl vJ6_bitCount_0f7a4 rfl rfl (Nat.le_of_ble_eq_true rfl) (Nat.le_of_ble_eq_true rfl) (by decide) (sJ6_bitCount_0f7a4 H55 hI56 x41 ) (fun H66 r67 q68 o69 => ?_)
                                    obtain ⟨e70, y72, rfl, f71⟩ := q68
                                    subst H66
                                    clear o69
                                    exact fz_iret kX11_cut rfl rfl (fun _ => ⟨hI56, hf57, _, rfl, (by omega)⟩)
                                  · refine fz_iload kX11_cut rfl rfl ?_
                                    refine fz_goto (tgt := 231) kX11_cut rfl (by decide) ?_
                                    exact fz_iret kX11_cut rfl rfl (fun _ => ⟨hI56, hf57, _, rfl, (by omega)⟩)
                              · refine fz_aload_n kX11_cut rfl rfl ?_
                                refine fz_getR (t := 58) kX11_cut rfl rfl ?_
                                refine fz_iload kX11_cut rfl rfl ?_
                                refine fz_iload kX11_cut rfl rfl ?_
                                refine fz_iload kX11_cut rfl rfl ?_
                                refine fz_ishr kX11_cut rfl ?_
                                have b73 : -2147483648 ≤ (fz_shr x31 x54) ∧ (fz_shr x31 x54) < 2147483648 := fz_b32 _
                                refine fz_iconst ⟨by decide, by decide⟩ kX11_cut rfl ?_
                                refine fz_iand kX11_cut rfl ?_
                                have b75 : -2147483648 ≤ (fz_and (fz_shr x31 x54) 1) ∧ (fz_and (fz_shr x31 x54) 1) < 2147483648 := fz_b32 _
                                have b76 : 0 ≤ (fz_and (fz_shr x31 x54) 1) ∧ (fz_and (fz_shr x31 x54) 1) ≤ 1 := fz_and_m (by omega) (by omega)
                                refine fz_iast (n := 12) kX11_cut rfl rfl (by omega) (by omega) ?_
                                refine fz_nmu (S := [(58, 99999), (86, 99999), (87, 99999)]) (h0 := h) (fz_Iv_up hI56 (by decide) (show 0 ≤ (fz_and (fz_shr x31 x54) 1) by omega) (show (fz_and (fz_shr x31 x54) 1) ≤ 1 by omega)) (fz_fr_up hf57 rfl) (fun H77 hI78 hf79 e80 => ?_)
                                clear e80
                                refine fz_iincN (ls' := [(6, fz_i (x54 + 1)), (5, fz_i x41), (4, fz_i x31), (0, fz_r 53), (1, fz_i d), (2, fz_i t), (3, fz_i wh)]) kX11_cut rfl (by decide) rfl (by omega) rfl ?_
                                refine fz_goto (tgt := 180) kX11_cut rfl (by decide) ?_
                                exact ih60 (x54 + 1) H77 hI78 hf79 (by omega) (by omega)
                          exact lp59 _ 0 H42 hI43 hf44 (by omega) (Nat.lt_succ_self _)
                        · refine fz_iload kX11_cut rfl rfl ?_
                          refine fz_callS (d' := 0) (M' := mJ6_bitCount_0f7a4) (As := [fz_i x40]) (st := []) kX11_cut rfl rfl vJ6_bitCount_0f7a4 rfl rfl (Nat.le_of_ble_eq_true rfl) (Nat.le_of_ble_eq_true rfl) (by decide) (sJ6_bitCount_0f7a4 H42 hI43 x40 ) (fun H81 r82 q83 o84 => ?_)
                          obtain ⟨e85, y87, rfl, f86⟩ := q83
                          subst H81
                          clear o84
                          refine fz_istore (ls' := [(7, fz_i y87), (6, fz_i x40), (5, fz_i x41), (4, fz_i x31), (0, fz_r 53), (1, fz_i d), (2, fz_i t), (3, fz_i wh)]) kX11_cut rfl (by decide) rfl ?_
                          refine fz_iload kX11_cut rfl rfl ?_
                          refine fz_iconst ⟨by decide, by decide⟩ kX11_cut rfl ?_
                          refine fz_icmp_gt (tgt := 171) kX11_cut rfl (by decide) (fun c88 => ?_) (fun c88 => ?_)
                          · refine fz_iincN (ls' := [(6, fz_i (x40 + 1)), (7, fz_i y87), (5, fz_i x41), (4, fz_i x31), (0, fz_r 53), (1, fz_i d), (2, fz_i t), (3, fz_i wh)]) kX11_cut rfl (by decide) rfl (by omega) rfl ?_
                            refine fz_goto (tgt := 75) kX11_cut rfl (by decide) ?_
                            refine fz_sub (fz_pk_sub (ls' := [(6, fz_i (x40 + 1)), (5, fz_i x41), (4, fz_i x31), (0, fz_r 53), (1, fz_i d), (2, fz_i t), (3, fz_i wh)]) [0, 2, 3, 4, 5, 6, 7] rfl) ?_
                            exact ih47 (x40 + 1) x41 H42 hI43 hf44 (by omega) (by omega) (by omega)
                          · refine fz_iload kX11_cut rfl rfl ?_
                            refine fz_bipush ⟨by decide, by decide⟩ kX11_cut rfl ?_
                            refine fz_icmp_eq (tgt := 119) kX11_cut rfl (by decide) (fun c89 => ?_) (fun c89 => ?_)
                            · refine fz_iconst ⟨by decide, by decide⟩ kX11_cut rfl ?_
                              refine fz_istore (ls' := [(8, fz_i 0), (7, fz_i y87), (6, fz_i x40), (5, fz_i x41), (4, fz_i x31), (0, fz_r 53), (1, fz_i d), (2, fz_i t), (3, fz_i wh)]) kX11_cut rfl (by decide) rfl ?_
                              have lp95 : ∀ (n94 : Nat) (x90 : Int) (H91 : fz_H), fz_Iv H91 → fz_fr [(58, 99999), (86, 99999), (87, 99999)] h H91 → (0 ≤ x90 ∧ x90 ≤ 2147483647) → ((h 53 2) - x90).toNat < n94 → fz_R 3 mX11_cut 122 [(8, fz_i x90), (7, fz_i y87), (6, fz_i x40), (5, fz_i x41), (4, fz_i x31), (0, fz_r 53), (1, fz_i d), (2, fz_i t), (3, fz_i wh)] [] H91 (qX11_cut h d t wh) := by
                                intro n94
                                induction n94 with
                                | zero => intro x90 H91 hI92 hf93 hv98 hm97; exact absurd hm97 (by omega)
                                | succ n94 ih96 =>
                                  intro x90 H91 hI92 hf93 hv98 hm97
                                  refine fz_iload kX11_cut rfl rfl ?_
                                  refine fz_aload_n kX11_cut rfl rfl ?_
                                  refine fz_getV (v := h 53 2) kX11_cut rfl rfl (hf93 53 2 rfl) ?_
                                  refine fz_icmp_ge (tgt := 156) kX11_cut rfl (by decide) (fun c99 => ?_) (fun c99 => ?_)
                                  · refine fz_aload_n kX11_cut rfl rfl ?_
                                    refine fz_iload_n kX11_cut rfl rfl ?_
                                    refine fz_iload_n kX11_cut rfl rfl ?_
                                    refine fz_callV (d' := 2) (M' := mX11_heardAt) (As := [fz_i d, fz_i t]) (st := []) kX11_cut rfl rfl vX11_heardAt rfl rfl rfl rfl (Nat.le_of_ble_eq_true rfl) (Nat.le_of_ble_eq_true rfl) (by decide) (sX11_heardAt H91 hI92 d t (by omega) (by omega)) (fun H100 r101 q102 o103 => ?_)
                                    obtain ⟨hI104, hf105, y107, rfl, f106⟩ := q102
                                    clear o103
                                    have hf108 := fz_fr_tr hf93 hf105 (show fz_su [(86, 99999), (87, 99999)] [(58, 99999), (86, 99999), (87, 99999)] = true from rfl)
                                    refine fz_bipush ⟨by decide, by decide⟩ kX11_cut rfl ?_
                                    refine fz_icmp_ne (tgt := 171) kX11_cut rfl (by decide) (fun c109 => ?_) (fun c109 => ?_)
                                    · refine fz_iincN (ls' := [(6, fz_i (x40 + 1)), (8, fz_i x90), (7, fz_i y87), (5, fz_i x41), (4, fz_i x31), (0, fz_r 53), (1, fz_i d), (2, fz_i t), (3, fz_i wh)]) kX11_cut rfl (by decide) rfl (by omega) rfl ?_
                                      refine fz_goto (tgt := 75) kX11_cut rfl (by decide) ?_
                                      refine fz_sub (fz_pk_sub (ls' := [(6, fz_i (x40 + 1)), (5, fz_i x41), (4, fz_i x31), (0, fz_r 53), (1, fz_i d), (2, fz_i t), (3, fz_i wh)]) [0, 3, 4, 5, 6, 7, 8] rfl) ?_
                                      exact ih47 (x40 + 1) x41 H100 hI104 hf108 (by omega) (by omega) (by omega)
                                    · refine fz_iload kX11_cut rfl rfl ?_
                                      refine fz_istore (ls' := [(5, fz_i x40), (8, fz_i x90), (7, fz_i y87), (6, fz_i x40), (4, fz_i x31), (0, fz_r 53), (1, fz_i d), (2, fz_i t), (3, fz_i wh)]) kX11_cut rfl (by decide) rfl ?_
                                      refine fz_iincN (ls' := [(6, fz_i (x40 + 1)), (5, fz_i x40), (8, fz_i x90), (7, fz_i y87), (4, fz_i x31), (0, fz_r 53), (1, fz_i d), (2, fz_i t), (3, fz_i wh)]) kX11_cut rfl (by decide) rfl (by omega) rfl ?_
                                      refine fz_goto (tgt := 75) kX11_cut rfl (by decide) ?_
                                      refine fz_sub (fz_pk_sub (ls' := [(6, fz_i (x40 + 1)), (5, fz_i x40), (4, fz_i x31), (0, fz_r 53), (1, fz_i d), (2, fz_i t), (3, fz_i wh)]) [0, 1, 4, 5, 6, 7, 8] rfl) ?_
                                      exact ih47 (x40 + 1) x40 H100 hI104 hf108 (by omega) (by omega) (by omega)
                                  · refine fz_aload_n kX11_cut rfl rfl ?_
                                    refine fz_getR (t := 58) kX11_cut rfl rfl ?_
                                    refine fz_iload kX11_cut rfl rfl ?_
                                    refine fz_iload kX11_cut rfl rfl ?_
                                    refine fz_iload kX11_cut rfl rfl ?_
                                    refine fz_iconst ⟨by decide, by decide⟩ kX11_cut rfl ?_
                                    refine fz_ixor kX11_cut rfl ?_
                                    have b110 : -2147483648 ≤ (fz_xor x40 (-1)) ∧ (fz_xor x40 (-1)) < 2147483648 := fz_b32 _
                                    refine fz_iand kX11_cut rfl ?_
                                    have b112 : -2147483648 ≤ (fz_and x31 (fz_xor x40 (-1))) ∧ (fz_and x31 (fz_xor x40 (-1))) < 2147483648 := fz_b32 _
                                    refine fz_iload kX11_cut rfl rfl ?_
                                    refine fz_ishr kX11_cut rfl ?_
                                    have b114 : -2147483648 ≤ (fz_shr (fz_and x31 (fz_xor x40 (-1))) x90) ∧ (fz_shr (fz_and x31 (fz_xor x40 (-1))) x90) < 2147483648 := fz_b32 _
                                    refine fz_iconst ⟨by decide, by decide⟩ kX11_cut rfl ?_
                                    refine fz_iand kX11_cut rfl ?_
                                    have b116 : -2147483648 ≤ (fz_and (fz_shr (fz_and x31 (fz_xor x40 (-1))) x90) 1) ∧ (fz_and (fz_shr (fz_and x31 (fz_xor x40 (-1))) x90) 1) < 2147483648 := fz_b32 _
                                    have b117 : 0 ≤ (fz_and (fz_shr (fz_and x31 (fz_xor x40 (-1))) x90) 1) ∧ (fz_and (fz_shr (fz_and x31 (fz_xor x40 (-1))) x90) 1) ≤ 1 := fz_and_m (by omega) (by omega)
                                    refine fz_iast (n := 12) kX11_cut rfl rfl (by omega) (by omega) ?_
                                    refine fz_nmu (S := [(58, 99999), (86, 99999), (87, 99999)]) (h0 := h) (fz_Iv_up hI92 (by decide) (show 0 ≤ (fz_and (fz_shr (fz_and x31 (fz_xor x40 (-1))) x90) 1) by omega) (show (fz_and (fz_shr (fz_and x31 (fz_xor x40 (-1))) x90) 1) ≤ 1 by omega)) (fz_fr_up hf93 rfl) (fun H118 hI119 hf120 e121 => ?_)
                                    clear e121
                                    refine fz_iincN (ls' := [(8, fz_i (x90 + 1)), (7, fz_i y87), (6, fz_i x40), (5, fz_i x41), (4, fz_i x31), (0, fz_r 53), (1, fz_i d), (2, fz_i t), (3, fz_i wh)]) kX11_cut rfl (by decide) rfl (by omega) rfl ?_
                                    refine fz_goto (tgt := 122) kX11_cut rfl (by decide) ?_
                                    exact ih96 (x90 + 1) H118 hI119 hf120 (by omega) (by omega)
                              exact lp95 _ 0 H42 hI43 hf44 (by omega) (Nat.lt_succ_self _)
                            · refine fz_iload kX11_cut rfl rfl ?_
                              refine fz_iload kX11_cut rfl rfl ?_
                              refine fz_callS (d' := 0) (M' := mJ6_bitCount_0f7a4) (As := [fz_i x41]) (st := [fz_i y87]) kX11_cut rfl rfl vJ6_bitCount_0f7a4 rfl rfl (Nat.le_of_ble_eq_true rfl) (Nat.le_of_ble_eq_true rfl) (by decide) (sJ6_bitCount_0f7a4 H42 hI43 x41 ) (fun H122 r123 q124 o125 => ?_)
                              obtain ⟨e126, y128, rfl, f127⟩ := q124
                              subst H122
                              clear o125
                              refine fz_icmp_lt (tgt := 119) kX11_cut rfl (by decide) (fun c129 => ?_) (fun c129 => ?_)
                              · refine fz_iconst ⟨by decide, by decide⟩ kX11_cut rfl ?_
                                refine fz_istore (ls' := [(8, fz_i 0), (7, fz_i y87), (6, fz_i x40), (5, fz_i x41), (4, fz_i x31), (0, fz_r 53), (1, fz_i d), (2, fz_i t), (3, fz_i wh)]) kX11_cut rfl (by decide) rfl ?_
                                have lp135 : ∀ (n134 : Nat) (x130 : Int) (H131 : fz_H), fz_Iv H131 → fz_fr [(58, 99999), (86, 99999), (87, 99999)] h H131 → (0 ≤ x130 ∧ x130 ≤ 2147483647) → ((h 53 2) - x130).toNat < n134 → fz_R 3 mX11_cut 122 [(8, fz_i x130), (7, fz_i y87), (6, fz_i x40), (5, fz_i x41), (4, fz_i x31), (0, fz_r 53), (1, fz_i d), (2, fz_i t), (3, fz_i wh)] [] H131 (qX11_cut h d t wh) := by
                                  intro n134
                                  induction n134 with
                                  | zero => intro x130 H131 hI132 hf133 hv138 hm137; exact absurd hm137 (by omega)
                                  | succ n134 ih136 =>
                                    intro x130 H131 hI132 hf133 hv138 hm137
                                    refine fz_iload kX11_cut rfl rfl ?_
                                    refine fz_aload_n kX11_cut rfl rfl ?_
                                    refine fz_getV (v := h 53 2) kX11_cut rfl rfl (hf133 53 2 rfl) ?_
                                    refine fz_icmp_ge (tgt := 156) kX11_cut rfl (by decide) (fun c139 => ?_) (fun c139 => ?_)
                                    · refine fz_aload_n kX11_cut rfl rfl ?_
                                      refine fz_iload_n kX11_cut rfl rfl ?_
                                      refine fz_iload_n kX11_cut rfl rfl ?_
                                      refine fz_callV (d' := 2) (M' := mX11_heardAt) (As := [fz_i d, fz_i t]) (st := []) kX11_cut rfl rfl vX11_heardAt rfl rfl rfl rfl (Nat.le_of_ble_eq_true rfl) (Nat.le_of_ble_eq_true rfl) (by decide) (sX11_heardAt H131 hI132 d t (by omega) (by omega)) (fun H140 r141 q142 o143 => ?_)
                                      obtain ⟨hI144, hf145, y147, rfl, f146⟩ := q142
                                      clear o143
                                      have hf148 := fz_fr_tr hf133 hf145 (show fz_su [(86, 99999), (87, 99999)] [(58, 99999), (86, 99999), (87, 99999)] = true from rfl)
                                      refine fz_bipush ⟨by decide, by decide⟩ kX11_cut rfl ?_
                                      refine fz_icmp_ne (tgt := 171) kX11_cut rfl (by decide) (fun c149 => ?_) (fun c149 => ?_)
                                      · refine fz_iincN (ls' := [(6, fz_i (x40 + 1)), (8, fz_i x130), (7, fz_i y87), (5, fz_i x41), (4, fz_i x31), (0, fz_r 53), (1, fz_i d), (2, fz_i t), (3, fz_i wh)]) kX11_cut rfl (by decide) rfl (by omega) rfl ?_
                                        refine fz_goto (tgt := 75) kX11_cut rfl (by decide) ?_
                                        refine fz_sub (fz_pk_sub (ls' := [(6, fz_i (x40 + 1)), (5, fz_i x41), (4, fz_i x31), (0, fz_r 53), (1, fz_i d), (2, fz_i t), (3, fz_i wh)]) [0, 3, 4, 5, 6, 7, 8] rfl) ?_
                                        exact ih47 (x40 + 1) x41 H140 hI144 hf148 (by omega) (by omega) (by omega)
                                      · refine fz_iload kX11_cut rfl rfl ?_
                                        refine fz_istore (ls' := [(5, fz_i x40), (8, fz_i x130), (7, fz_i y87), (6, fz_i x40), (4, fz_i x31), (0, fz_r 53), (1, fz_i d), (2, fz_i t), (3, fz_i wh)]) kX11_cut rfl (by decide) rfl ?_
                                        refine fz_iincN (ls' := [(6, fz_i (x40 + 1)), (5, fz_i x40), (8, fz_i x130), (7, fz_i y87), (4, fz_i x31), (0, fz_r 53), (1, fz_i d), (2, fz_i t), (3, fz_i wh)]) kX11_cut rfl (by decide) rfl (by omega) rfl ?_
                                        refine fz_goto (tgt := 75) kX11_cut rfl (by decide) ?_
                                        refine fz_sub (fz_pk_sub (ls' := [(6, fz_i (x40 + 1)), (5, fz_i x40), (4, fz_i x31), (0, fz_r 53), (1, fz_i d), (2, fz_i t), (3, fz_i wh)]) [0, 1, 4, 5, 6, 7, 8] rfl) ?_
                                        exact ih47 (x40 + 1) x40 H140 hI144 hf148 (by omega) (by omega) (by omega)
                                    · refine fz_aload_n kX11_cut rfl rfl ?_
                                      refine fz_getR (t := 58) kX11_cut rfl rfl ?_
                                      refine fz_iload kX11_cut rfl rfl ?_
                                      refine fz_iload kX11_cut rfl rfl ?_
                                      refine fz_iload kX11_cut rfl rfl ?_
                                      refine fz_iconst ⟨by decide, by decide⟩ kX11_cut rfl ?_
                                      refine fz_ixor kX11_cut rfl ?_
                                      have b150 : -2147483648 ≤ (fz_xor x40 (-1)) ∧ (fz_xor x40 (-1)) < 2147483648 := fz_b32 _
                                      refine fz_iand kX11_cut rfl ?_
                                      have b152 : -2147483648 ≤ (fz_and x31 (fz_xor x40 (-1))) ∧ (fz_and x31 (fz_xor x40 (-1))) < 2147483648 := fz_b32 _
                                      refine fz_iload kX11_cut rfl rfl ?_
                                      refine fz_ishr kX11_cut rfl ?_
                                      have b154 : -2147483648 ≤ (fz_shr (fz_and x31 (fz_xor x40 (-1))) x130) ∧ (fz_shr (fz_and x31 (fz_xor x40 (-1))) x130) < 2147483648 := fz_b32 _
                                      refine fz_iconst ⟨by decide, by decide⟩ kX11_cut rfl ?_
                                      refine fz_iand kX11_cut rfl ?_
                                      have b156 : -2147483648 ≤ (fz_and (fz_shr (fz_and x31 (fz_xor x40 (-1))) x130) 1) ∧ (fz_and (fz_shr (fz_and x31 (fz_xor x40 (-1))) x130) 1) < 2147483648 := fz_b32 _
                                      have b157 : 0 ≤ (fz_and (fz_shr (fz_and x31 (fz_xor x40 (-1))) x130) 1) ∧ (fz_and (fz_shr (fz_and x31 (fz_xor x40 (-1))) x130) 1) ≤ 1 := fz_and_m (by omega) (by omega)
                                      refine fz_iast (n := 12) kX11_cut rfl rfl (by omega) (by omega) ?_
                                      refine fz_nmu (S := [(58, 99999), (86, 99999), (87, 99999)]) (h0 := h) (fz_Iv_up hI132 (by decide) (show 0 ≤ (fz_and (fz_shr (fz_and x31 (fz_xor x40 (-1))) x130) 1) by omega) (show (fz_and (fz_shr (fz_and x31 (fz_xor x40 (-1))) x130) 1) ≤ 1 by omega)) (fz_fr_up hf133 rfl) (fun H158 hI159 hf160 e161 => ?_)
                                      clear e161
                                      refine fz_iincN (ls' := [(8, fz_i (x130 + 1)), (7, fz_i y87), (6, fz_i x40), (5, fz_i x41), (4, fz_i x31), (0, fz_r 53), (1, fz_i d), (2, fz_i t), (3, fz_i wh)]) kX11_cut rfl (by decide) rfl (by omega) rfl ?_
                                      refine fz_goto (tgt := 122) kX11_cut rfl (by decide) ?_
                                      exact ih136 (x130 + 1) H158 hI159 hf160 (by omega) (by omega)
                                exact lp135 _ 0 H42 hI43 hf44 (by omega) (Nat.lt_succ_self _)
                              · refine fz_goto (tgt := 171) kX11_cut rfl (by decide) ?_
                                refine fz_iincN (ls' := [(6, fz_i (x40 + 1)), (7, fz_i y87), (5, fz_i x41), (4, fz_i x31), (0, fz_r 53), (1, fz_i d), (2, fz_i t), (3, fz_i wh)]) kX11_cut rfl (by decide) rfl (by omega) rfl ?_
                                refine fz_goto (tgt := 75) kX11_cut rfl (by decide) ?_
                                refine fz_sub (fz_pk_sub (ls' := [(6, fz_i (x40 + 1)), (5, fz_i x41), (4, fz_i x31), (0, fz_r 53), (1, fz_i d), (2, fz_i t), (3, fz_i wh)]) [0, 2, 3, 4, 5, 6, 7] rfl) ?_
                                exact ih47 (x40 + 1) x41 H42 hI43 hf44 (by omega) (by omega) (by omega)
                    exact lp46 _ 0 (-2) h hI hf (by omega) (by omega) (Nat.lt_succ_self _)
                  · refine fz_aload_n kX11_cut rfl rfl ?_
                    refine fz_getR (t := 58) kX11_cut rfl rfl ?_
                    refine fz_iload kX11_cut rfl rfl ?_
                    refine fz_ialdV (n := 12) (v := h 58 (x30.toNat)) kX11_cut rfl rfl (by omega) (by omega) rfl ?_
                    have b162 : 0 ≤ h 58 (x30.toNat) ∧ h 58 (x30.toNat) ≤ 1 := hI.1 58 _
                    refine fz_iconst ⟨by decide, by decide⟩ kX11_cut rfl ?_
                    refine fz_icmp_ne (tgt := 62) kX11_cut rfl (by decide) (fun c163 => ?_) (fun c163 => ?_)
                    · refine fz_iincN (ls' := [(5, fz_i (x30 + 1)), (4, fz_i x31), (0, fz_r 53), (1, fz_i d), (2, fz_i t), (3, fz_i wh)]) kX11_cut rfl (by decide) rfl (by omega) rfl ?_
                      refine fz_goto (tgt := 33) kX11_cut rfl (by decide) ?_
                      exact ih34 (x30 + 1) x31 (by omega) (by omega) (by omega)
                    · refine fz_iload kX11_cut rfl rfl ?_
                      refine fz_iconst ⟨by decide, by decide⟩ kX11_cut rfl ?_
                      refine fz_iload kX11_cut rfl rfl ?_
                      refine fz_ishl kX11_cut rfl ?_
                      have b164 : -2147483648 ≤ (fz_shl 1 x30) ∧ (fz_shl 1 x30) < 2147483648 := fz_b32 _
                      refine fz_ior kX11_cut rfl ?_
                      have b166 : -2147483648 ≤ (fz_or x31 (fz_shl 1 x30)) ∧ (fz_or x31 (fz_shl 1 x30)) < 2147483648 := fz_b32 _
                      refine fz_istore (ls' := [(4, fz_i (fz_or x31 (fz_shl 1 x30))), (5, fz_i x30), (0, fz_r 53), (1, fz_i d), (2, fz_i t), (3, fz_i wh)]) kX11_cut rfl (by decide) rfl ?_
                      refine fz_iincN (ls' := [(5, fz_i (x30 + 1)), (4, fz_i (fz_or x31 (fz_shl 1 x30))), (0, fz_r 53), (1, fz_i d), (2, fz_i t), (3, fz_i wh)]) kX11_cut rfl (by decide) rfl (by omega) rfl ?_
                      refine fz_goto (tgt := 33) kX11_cut rfl (by decide) ?_
                      exact ih34 (x30 + 1) (fz_or x31 (fz_shl 1 x30)) (by omega) (by omega) (by omega)
              exact lp33 _ 0 0 (by omega) (by omega) (Nat.lt_succ_self _)
            · exfalso; omega
          · refine fz_if_ne (tgt := 27) kX11_cut rfl (by decide) (fun c168 => ?_) (fun c168 => ?_)
            · exfalso; omega
            · refine fz_iconst ⟨by decide, by decide⟩ kX11_cut rfl ?_
              exact fz_iret kX11_cut rfl rfl (fun _ => ⟨hI, hf, _, rfl, (by omega)⟩)
      · refine fz_if_eq (tgt := 25) kX11_cut rfl (by decide) (fun c169 => ?_) (fun c169 => ?_)
        · refine fz_iconst ⟨by decide, by decide⟩ kX11_cut rfl ?_
          exact fz_iret kX11_cut rfl rfl (fun _ => ⟨hI, hf, _, rfl, (by omega)⟩)
        · exfalso; omega
  · refine fz_if_eq (tgt := 25) kX11_cut rfl (by decide) (fun c170 => ?_) (fun c170 => ?_)
    · refine fz_iconst ⟨by decide, by decide⟩ kX11_cut rfl ?_
      exact fz_iret kX11_cut rfl rfl (fun _ => ⟨hI, hf, _, rfl, (by omega)⟩)
    · exfalso; omega

abbrev qX11_isFree (h : fz_H) (pe hr : Int) : fz_H → Option fz_V → Prop := fun h' r0 => fz_Iv h' ∧ fz_fr [(74, 99999), (75, 99999)] h h' ∧ ∃ r : Int, r0 = some (fz_i r) ∧ (r = 0 ∨ r = 1)
set_option maxHeartbeats 1000000 in
set_option maxRecDepth 100000 in
theorem sX11_isFree (h : fz_H) (hI : fz_Iv h) (pe hr : Int) : fz_R 5 mX11_isFree 0 [(0, fz_r 53), (1, fz_i pe), (2, fz_i hr)] [] h (qX11_isFree h pe hr) := by
  refine fz_knowl (fun hk => ?_)
  have hr_pe : -2147483648 ≤ pe ∧ pe < 2147483648 := hk _ (List.Mem.tail _ (List.Mem.head _))
  have hr_hr : -2147483648 ≤ hr ∧ hr < 2147483648 := hk _ (List.Mem.tail _ (List.Mem.tail _ (List.Mem.head _)))
  clear hk
  have hf : fz_fr [(74, 99999), (75, 99999)] h h := fz_fr_rf
  refine fz_iconst ⟨by decide, by decide⟩ kX11_isFree rfl ?_
  refine fz_istore_n (ls' := [(3, fz_i 0), (0, fz_r 53), (1, fz_i pe), (2, fz_i hr)]) kX11_isFree rfl (by decide) rfl ?_
  have lp6 : ∀ (n5 : Nat) (x1 : Int) (H2 : fz_H), fz_Iv H2 → fz_fr [(74, 99999), (75, 99999)] h H2 → (0 ≤ x1 ∧ x1 ≤ 2147483647) → ((h 53 0) - x1).toNat < n5 → fz_R 5 mX11_isFree 2 [(3, fz_i x1), (0, fz_r 53), (1, fz_i pe), (2, fz_i hr)] [] H2 (qX11_isFree h pe hr) := by
    intro n5
    induction n5 with
    | zero => intro x1 H2 hI3 hf4 hv9 hm8; exact absurd hm8 (by omega)
    | succ n5 ih7 =>
      intro x1 H2 hI3 hf4 hv9 hm8
      refine fz_iload_n kX11_isFree rfl rfl ?_
      refine fz_aload_n kX11_isFree rfl rfl ?_
      refine fz_getV (v := h 53 0) kX11_isFree rfl rfl (hf4 53 0 rfl) ?_
      have b10 : 0 ≤ h 53 0 ∧ h 53 0 ≤ 8 := hI.1 53 _
      refine fz_icmp_ge (tgt := 28) kX11_isFree rfl (by decide) (fun c11 => ?_) (fun c11 => ?_)
      · refine fz_iconst ⟨by decide, by decide⟩ kX11_isFree rfl ?_
        exact fz_zret kX11_isFree rfl rfl (by omega) ⟨hI3, hf4, _, rfl, (by omega)⟩
      · refine fz_aload_n kX11_isFree rfl rfl ?_
        refine fz_iload_n kX11_isFree rfl rfl ?_
        refine fz_iload_n kX11_isFree rfl rfl ?_
        refine fz_iload_n kX11_isFree rfl rfl ?_
        refine fz_callV (d' := 4) (M' := mX11_isArrested) (As := [fz_i pe, fz_i x1, fz_i hr]) (st := []) kX11_isFree rfl rfl vX11_isArrested rfl rfl rfl rfl (Nat.le_of_ble_eq_true rfl) (Nat.le_of_ble_eq_true rfl) (by decide) (sX11_isArrested H2 hI3 pe x1 hr (by omega)) (fun H12 r13 q14 o15 => ?_)
        obtain ⟨hI16, hf17, y18, rfl, p19⟩ := q14
        clear o15
        have hf20 := fz_fr_tr hf4 hf17 (show fz_su [(74, 99999), (75, 99999)] [(74, 99999), (75, 99999)] = true from rfl)
        refine fz_if_eq (tgt := 22) kX11_isFree rfl (by decide) (fun c21 => ?_) (fun c21 => ?_)
        · refine fz_iincN (ls' := [(3, fz_i (x1 + 1)), (0, fz_r 53), (1, fz_i pe), (2, fz_i hr)]) kX11_isFree rfl (by decide) rfl (by omega) rfl ?_
          refine fz_goto (tgt := 2) kX11_isFree rfl (by decide) ?_
          exact ih7 (x1 + 1) H12 hI16 hf20 (by omega) (by omega)
        · refine fz_iconst ⟨by decide, by decide⟩ kX11_isFree rfl ?_
          exact fz_zret kX11_isFree rfl rfl (by omega) ⟨hI16, hf20, _, rfl, (by omega)⟩
  exact lp6 _ 0 h hI hf (by omega) (Nat.lt_succ_self _)

abbrev qX11_free (h : fz_H) (on hr wh : Int) : fz_H → Option fz_V → Prop := fun h' r0 => fz_Iv h' ∧ fz_fr [(60, 99999), (74, 99999), (75, 99999), (86, 99999), (87, 99999), (88, 99999)] h h' ∧ ∃ r : Int, r0 = some (fz_i r) ∧ ((-2147483648) ≤ r ∧ r ≤ 2147483647)
set_option maxHeartbeats 1000000 in
set_option maxRecDepth 100000 in
theorem sX11_free (h : fz_H) (hI : fz_Iv h) (on hr wh : Int) : fz_R 6 mX11_free 0 [(0, fz_r 53), (1, fz_i on), (2, fz_i hr), (3, fz_i wh)] [] h (qX11_free h on hr wh) := by
  refine fz_knowl (fun hk => ?_)
  have hr_on : -2147483648 ≤ on ∧ on < 2147483648 := hk _ (List.Mem.tail _ (List.Mem.head _))
  have hr_hr : -2147483648 ≤ hr ∧ hr < 2147483648 := hk _ (List.Mem.tail _ (List.Mem.tail _ (List.Mem.head _)))
  have hr_wh : -2147483648 ≤ wh ∧ wh < 2147483648 := hk _ (List.Mem.tail _ (List.Mem.tail _ (List.Mem.tail _ (List.Mem.head _))))
  clear hk
  have hf : fz_fr [(60, 99999), (74, 99999), (75, 99999), (86, 99999), (87, 99999), (88, 99999)] h h := fz_fr_rf
  refine fz_iload_n kX11_free rfl rfl ?_
  refine fz_callS (d' := 1) (M' := mX11_isPerson) (As := [fz_i on]) (st := []) kX11_free rfl rfl vX11_isPerson rfl rfl (Nat.le_of_ble_eq_true rfl) (Nat.le_of_ble_eq_true rfl) (by decide) (sX11_isPerson h hI on ) (fun H1 r2 q3 o4 => ?_)
  obtain ⟨e5, y6, rfl, p7⟩ := q3
  subst H1
  clear o4
  rcases p7 with ⟨rfl, c8⟩ | ⟨rfl, c8⟩
  · refine fz_if_eq (tgt := 23) kX11_free rfl (by decide) (fun c9 => ?_) (fun c9 => ?_)
    · exfalso; omega
    · refine fz_iload_n kX11_free rfl rfl ?_
      refine fz_callS (d' := 1) (M' := mX11_isHour) (As := [fz_i hr]) (st := []) kX11_free rfl rfl vX11_isHour rfl rfl (Nat.le_of_ble_eq_true rfl) (Nat.le_of_ble_eq_true rfl) (by decide) (sX11_isHour h hI hr ) (fun H10 r11 q12 o13 => ?_)
      obtain ⟨e14, y15, rfl, p16⟩ := q12
      subst H10
      clear o13
      rcases p16 with ⟨rfl, c17⟩ | ⟨rfl, c17⟩
      · refine fz_if_eq (tgt := 23) kX11_free rfl (by decide) (fun c18 => ?_) (fun c18 => ?_)
        · exfalso; omega
        · refine fz_iload_n kX11_free rfl rfl ?_
          refine fz_iconst ⟨by decide, by decide⟩ kX11_free rfl ?_
          refine fz_iconst ⟨by decide, by decide⟩ kX11_free rfl ?_
          refine fz_callS (d' := 0) (M' := mX11_within) (As := [fz_i wh, fz_i 0, fz_i 1]) (st := []) kX11_free rfl rfl vX11_within rfl rfl (Nat.le_of_ble_eq_true rfl) (Nat.le_of_ble_eq_true rfl) (by decide) (sX11_within h hI wh 0 1 ) (fun H19 r20 q21 o22 => ?_)
          obtain ⟨e23, y24, rfl, p25⟩ := q21
          subst H19
          clear o22
          rcases p25 with ⟨rfl, c26⟩ | ⟨rfl, c26⟩
          · refine fz_if_ne (tgt := 25) kX11_free rfl (by decide) (fun c27 => ?_) (fun c27 => ?_)
            · refine fz_aload_n kX11_free rfl rfl ?_
              refine fz_callV (d' := 3) (M' := mX11_allHear) (As := []) (st := []) kX11_free rfl rfl vX11_allHear rfl rfl rfl rfl (Nat.le_of_ble_eq_true rfl) (Nat.le_of_ble_eq_true rfl) (by decide) (sX11_allHear h hI  ) (fun H28 r29 q30 o31 => ?_)
              obtain ⟨hI32, hf33, rfl⟩ := q30
              clear o31
              have hf34 := fz_fr_tr hf hf33 (show fz_su [(86, 99999), (87, 99999), (88, 99999)] [(60, 99999), (74, 99999), (75, 99999), (86, 99999), (87, 99999), (88, 99999)] = true from rfl)
              refine fz_aload_n kX11_free rfl rfl ?_
              refine fz_iload_n kX11_free rfl rfl ?_
              refine fz_callV (d' := 0) (M' := mX11_deedsOf) (As := [fz_i on]) (st := []) kX11_free rfl rfl vX11_deedsOf rfl rfl rfl rfl (Nat.le_of_ble_eq_true rfl) (Nat.le_of_ble_eq_true rfl) (by decide) (sX11_deedsOf H28 hI32 on ) (fun H35 r36 q37 o38 => ?_)
              obtain ⟨e39, y42, rfl, f40, f41⟩ := q37
              subst H35
              clear o38
              refine fz_istore (ls' := [(4, fz_i y42), (0, fz_r 53), (1, fz_i on), (2, fz_i hr), (3, fz_i wh)]) kX11_free rfl (by decide) rfl ?_
              refine fz_bipush ⟨by decide, by decide⟩ kX11_free rfl ?_
              refine fz_istore (ls' := [(5, fz_i (-2)), (4, fz_i y42), (0, fz_r 53), (1, fz_i on), (2, fz_i hr), (3, fz_i wh)]) kX11_free rfl (by decide) rfl ?_
              refine fz_iconst ⟨by decide, by decide⟩ kX11_free rfl ?_
              refine fz_istore (ls' := [(6, fz_i 0), (5, fz_i (-2)), (4, fz_i y42), (0, fz_r 53), (1, fz_i on), (2, fz_i hr), (3, fz_i wh)]) kX11_free rfl (by decide) rfl ?_
              have lp49 : ∀ (n48 : Nat) (x43 : Int) (x44 : Int) (H45 : fz_H), fz_Iv H45 → fz_fr [(60, 99999), (74, 99999), (75, 99999), (86, 99999), (87, 99999), (88, 99999)] h H45 → (0 ≤ x43 ∧ x43 ≤ 2147483647) → ((-2147483648) ≤ x44 ∧ x44 ≤ 2147483647) → (y42 + 1 - x43).toNat < n48 → fz_R 6 mX11_free 43 [(6, fz_i x43), (5, fz_i x44), (4, fz_i y42), (0, fz_r 53), (1, fz_i on), (2, fz_i hr), (3, fz_i wh)] [] H45 (qX11_free h on hr wh) := by
                intro n48
                induction n48 with
                | zero => intro x43 x44 H45 hI46 hf47 hv52 hv53 hm51; exact absurd hm51 (by omega)
                | succ n48 ih50 =>
                  intro x43 x44 H45 hI46 hf47 hv52 hv53 hm51
                  refine fz_iload kX11_free rfl rfl ?_
                  refine fz_iload kX11_free rfl rfl ?_
                  refine fz_icmp_gt (tgt := 117) kX11_free rfl (by decide) (fun c54 => ?_) (fun c54 => ?_)
                  · refine fz_iload_n kX11_free rfl rfl ?_
                    refine fz_iconst ⟨by decide, by decide⟩ kX11_free rfl ?_
                    refine fz_icmp_ne (tgt := 127) kX11_free rfl (by decide) (fun c55 => ?_) (fun c55 => ?_)
                    · refine fz_iload kX11_free rfl rfl ?_
                      refine fz_callS (d' := 0) (M' := mJ6_bitCount_0f7a4) (As := [fz_i x44]) (st := []) kX11_free rfl rfl vJ6_bitCount_0f7a4 rfl rfl (Nat.le_of_ble_eq_true rfl) (Nat.le_of_ble_eq_true rfl) (by decide) (sJ6_bitCount_0f7a4 H45 hI46 x44 ) (fun H56 r57 q58 o59 => ?_)
                      obtain ⟨e60, y62, rfl, f61⟩ := q58
                      subst H56
                      clear o59
                      exact fz_iret kX11_free rfl rfl (fun _ => ⟨hI46, hf47, _, rfl, (by omega)⟩)
                    · refine fz_iload kX11_free rfl rfl ?_
                      refine fz_goto (tgt := 132) kX11_free rfl (by decide) ?_
                      exact fz_iret kX11_free rfl rfl (fun _ => ⟨hI46, hf47, _, rfl, (by omega)⟩)
                  · refine fz_iload kX11_free rfl rfl ?_
                    refine fz_iload kX11_free rfl rfl ?_
                    refine fz_iconst ⟨by decide, by decide⟩ kX11_free rfl ?_
                    refine fz_ixor kX11_free rfl ?_
                    have b63 : -2147483648 ≤ (fz_xor y42 (-1)) ∧ (fz_xor y42 (-1)) < 2147483648 := fz_b32 _
                    refine fz_iand kX11_free rfl ?_
                    have b64 : -2147483648 ≤ (fz_and x43 (fz_xor y42 (-1))) ∧ (fz_and x43 (fz_xor y42 (-1))) < 2147483648 := fz_b32 _
                    refine fz_if_ne (tgt := 111) kX11_free rfl (by decide) (fun c65 => ?_) (fun c65 => ?_)
                    · refine fz_iincN (ls' := [(6, fz_i (x43 + 1)), (5, fz_i x44), (4, fz_i y42), (0, fz_r 53), (1, fz_i on), (2, fz_i hr), (3, fz_i wh)]) kX11_free rfl (by decide) rfl (by omega) rfl ?_
                      refine fz_goto (tgt := 43) kX11_free rfl (by decide) ?_
                      exact ih50 (x43 + 1) x44 H45 hI46 hf47 (by omega) (by omega) (by omega)
                    · refine fz_iload kX11_free rfl rfl ?_
                      refine fz_bipush ⟨by decide, by decide⟩ kX11_free rfl ?_
                      refine fz_icmp_eq (tgt := 83) kX11_free rfl (by decide) (fun c66 => ?_) (fun c66 => ?_)
                      · refine fz_aload_n kX11_free rfl rfl ?_
                        refine fz_iload kX11_free rfl rfl ?_
                        refine fz_bipush ⟨by decide, by decide⟩ kX11_free rfl ?_
                        refine fz_callV (d' := 0) (M' := mX11_forgets) (As := [fz_i x43, fz_i (-2)]) (st := []) kX11_free rfl rfl vX11_forgets rfl rfl rfl rfl (Nat.le_of_ble_eq_true rfl) (Nat.le_of_ble_eq_true rfl) (by decide) (sX11_forgets H45 hI46 x43 (-2) ) (fun H67 r68 q69 o70 => ?_)
                        obtain ⟨hI71, hf72, rfl⟩ := q69
                        clear o70
                        have hf73 := fz_fr_tr hf47 hf72 (show fz_su [(60, 99999)] [(60, 99999), (74, 99999), (75, 99999), (86, 99999), (87, 99999), (88, 99999)] = true from rfl)
                        refine fz_aload_n kX11_free rfl rfl ?_
                        refine fz_iload_n kX11_free rfl rfl ?_
                        refine fz_iload_n kX11_free rfl rfl ?_
                        refine fz_callV (d' := 5) (M' := mX11_isFree) (As := [fz_i on, fz_i hr]) (st := []) kX11_free rfl rfl vX11_isFree rfl rfl rfl rfl (Nat.le_of_ble_eq_true rfl) (Nat.le_of_ble_eq_true rfl) (by decide) (sX11_isFree H67 hI71 on hr ) (fun H74 r75 q76 o77 => ?_)
                        obtain ⟨hI78, hf79, y80, rfl, p81⟩ := q76
                        clear o77
                        have hf82 := fz_fr_tr hf73 hf79 (show fz_su [(74, 99999), (75, 99999)] [(60, 99999), (74, 99999), (75, 99999), (86, 99999), (87, 99999), (88, 99999)] = true from rfl)
                        refine fz_if_eq (tgt := 104) kX11_free rfl (by decide) (fun c83 => ?_) (fun c83 => ?_)
                        · refine fz_aload_n kX11_free rfl rfl ?_
                          refine fz_iload kX11_free rfl rfl ?_
                          refine fz_iload_n kX11_free rfl rfl ?_
                          refine fz_callV (d' := 0) (M' := mX11_forgets) (As := [fz_i x43, fz_i on]) (st := []) kX11_free rfl rfl vX11_forgets rfl rfl rfl rfl (Nat.le_of_ble_eq_true rfl) (Nat.le_of_ble_eq_true rfl) (by decide) (sX11_forgets H74 hI78 x43 on ) (fun H84 r85 q86 o87 => ?_)
                          obtain ⟨hI88, hf89, rfl⟩ := q86
                          clear o87
                          have hf90 := fz_fr_tr hf82 hf89 (show fz_su [(60, 99999)] [(60, 99999), (74, 99999), (75, 99999), (86, 99999), (87, 99999), (88, 99999)] = true from rfl)
                          refine fz_iincN (ls' := [(6, fz_i (x43 + 1)), (5, fz_i x44), (4, fz_i y42), (0, fz_r 53), (1, fz_i on), (2, fz_i hr), (3, fz_i wh)]) kX11_free rfl (by decide) rfl (by omega) rfl ?_
                          refine fz_goto (tgt := 43) kX11_free rfl (by decide) ?_
                          exact ih50 (x43 + 1) x44 H84 hI88 hf90 (by omega) (by omega) (by omega)
                        · refine fz_iload kX11_free rfl rfl ?_
                          refine fz_istore (ls' := [(5, fz_i x43), (6, fz_i x43), (4, fz_i y42), (0, fz_r 53), (1, fz_i on), (2, fz_i hr), (3, fz_i wh)]) kX11_free rfl (by decide) rfl ?_
                          refine fz_aload_n kX11_free rfl rfl ?_
                          refine fz_iload kX11_free rfl rfl ?_
                          refine fz_iload_n kX11_free rfl rfl ?_
                          refine fz_callV (d' := 0) (M' := mX11_forgets) (As := [fz_i x43, fz_i on]) (st := []) kX11_free rfl rfl vX11_forgets rfl rfl rfl rfl (Nat.le_of_ble_eq_true rfl) (Nat.le_of_ble_eq_true rfl) (by decide) (sX11_forgets H74 hI78 x43 on ) (fun H91 r92 q93 o94 => ?_)
                          obtain ⟨hI95, hf96, rfl⟩ := q93
                          clear o94
                          have hf97 := fz_fr_tr hf82 hf96 (show fz_su [(60, 99999)] [(60, 99999), (74, 99999), (75, 99999), (86, 99999), (87, 99999), (88, 99999)] = true from rfl)
                          refine fz_iincN (ls' := [(6, fz_i (x43 + 1)), (5, fz_i x43), (4, fz_i y42), (0, fz_r 53), (1, fz_i on), (2, fz_i hr), (3, fz_i wh)]) kX11_free rfl (by decide) rfl (by omega) rfl ?_
                          refine fz_goto (tgt := 43) kX11_free rfl (by decide) ?_
                          exact ih50 (x43 + 1) x43 H91 hI95 hf97 (by omega) (by omega) (by omega)
                      · refine fz_iload kX11_free rfl rfl ?_
                        refine fz_callS (d' := 0) (M' := mJ6_bitCount_0f7a4) (As := [fz_i x43]) (st := []) kX11_free rfl rfl vJ6_bitCount_0f7a4 rfl rfl (Nat.le_of_ble_eq_true rfl) (Nat.le_of_ble_eq_true rfl) (by decide) (sJ6_bitCount_0f7a4 H45 hI46 x43 ) (fun H98 r99 q100 o101 => ?_)
                        obtain ⟨e102, y104, rfl, f103⟩ := q100
                        subst H98
                        clear o101
                        refine fz_iload kX11_free rfl rfl ?_
                        refine fz_callS (d' := 0) (M' := mJ6_bitCount_0f7a4) (As := [fz_i x44]) (st := [fz_i y104]) kX11_free rfl rfl vJ6_bitCount_0f7a4 rfl rfl (Nat.le_of_ble_eq_true rfl) (Nat.le_of_ble_eq_true rfl) (by decide) (sJ6_bitCount_0f7a4 H45 hI46 x44 ) (fun H105 r106 q107 o108 => ?_)
                        obtain ⟨e109, y111, rfl, f110⟩ := q107
                        subst H105
                        clear o108
                        refine fz_icmp_lt (tgt := 83) kX11_free rfl (by decide) (fun c112 => ?_) (fun c112 => ?_)
                        · refine fz_aload_n kX11_free rfl rfl ?_
                          refine fz_iload kX11_free rfl rfl ?_
                          refine fz_bipush ⟨by decide, by decide⟩ kX11_free rfl ?_
                          refine fz_callV (d' := 0) (M' := mX11_forgets) (As := [fz_i x43, fz_i (-2)]) (st := []) kX11_free rfl rfl vX11_forgets rfl rfl rfl rfl (Nat.le_of_ble_eq_true rfl) (Nat.le_of_ble_eq_true rfl) (by decide) (sX11_forgets H45 hI46 x43 (-2) ) (fun H113 r114 q115 o116 => ?_)
                          obtain ⟨hI117, hf118, rfl⟩ := q115
                          clear o116
                          have hf119 := fz_fr_tr hf47 hf118 (show fz_su [(60, 99999)] [(60, 99999), (74, 99999), (75, 99999), (86, 99999), (87, 99999), (88, 99999)] = true from rfl)
                          refine fz_aload_n kX11_free rfl rfl ?_
                          refine fz_iload_n kX11_free rfl rfl ?_
                          refine fz_iload_n kX11_free rfl rfl ?_
                          refine fz_callV (d' := 5) (M' := mX11_isFree) (As := [fz_i on, fz_i hr]) (st := []) kX11_free rfl rfl vX11_isFree rfl rfl rfl rfl (Nat.le_of_ble_eq_true rfl) (Nat.le_of_ble_eq_true rfl) (by decide) (sX11_isFree H113 hI117 on hr ) (fun H120 r121 q122 o123 => ?_)
                          obtain ⟨hI124, hf125, y126, rfl, p127⟩ := q122
                          clear o123
                          have hf128 := fz_fr_tr hf119 hf125 (show fz_su [(74, 99999), (75, 99999)] [(60, 99999), (74, 99999), (75, 99999), (86, 99999), (87, 99999), (88, 99999)] = true from rfl)
                          refine fz_if_eq (tgt := 104) kX11_free rfl (by decide) (fun c129 => ?_) (fun c129 => ?_)
                          · refine fz_aload_n kX11_free rfl rfl ?_
                            refine fz_iload kX11_free rfl rfl ?_
                            refine fz_iload_n kX11_free rfl rfl ?_
                            refine fz_callV (d' := 0) (M' := mX11_forgets) (As := [fz_i x43, fz_i on]) (st := []) kX11_free rfl rfl vX11_forgets rfl rfl rfl rfl (Nat.le_of_ble_eq_true rfl) (Nat.le_of_ble_eq_true rfl) (by decide) (sX11_forgets H120 hI124 x43 on ) (fun H130 r131 q132 o133 => ?_)
                            obtain ⟨hI134, hf135, rfl⟩ := q132
                            clear o133
                            have hf136 := fz_fr_tr hf128 hf135 (show fz_su [(60, 99999)] [(60, 99999), (74, 99999), (75, 99999), (86, 99999), (87, 99999), (88, 99999)] = true from rfl)
                            refine fz_iincN (ls' := [(6, fz_i (x43 + 1)), (5, fz_i x44), (4, fz_i y42), (0, fz_r 53), (1, fz_i on), (2, fz_i hr), (3, fz_i wh)]) kX11_free rfl (by decide) rfl (by omega) rfl ?_
                            refine fz_goto (tgt := 43) kX11_free rfl (by decide) ?_
                            exact ih50 (x43 + 1) x44 H130 hI134 hf136 (by omega) (by omega) (by omega)
                          · refine fz_iload kX11_free rfl rfl ?_
                            refine fz_istore (ls' := [(5, fz_i x43), (6, fz_i x43), (4, fz_i y42), (0, fz_r 53), (1, fz_i on), (2, fz_i hr), (3, fz_i wh)]) kX11_free rfl (by decide) rfl ?_
                            refine fz_aload_n kX11_free rfl rfl ?_
                            refine fz_iload kX11_free rfl rfl ?_
                            refine fz_iload_n kX11_free rfl rfl ?_
                            refine fz_callV (d' := 0) (M' := mX11_forgets) (As := [fz_i x43, fz_i on]) (st := []) kX11_free rfl rfl vX11_forgets rfl rfl rfl rfl (Nat.le_of_ble_eq_true rfl) (Nat.le_of_ble_eq_true rfl) (by decide) (sX11_forgets H120 hI124 x43 on ) (fun H137 r138 q139 o140 => ?_)
                            obtain ⟨hI141, hf142, rfl⟩ := q139
                            clear o140
                            have hf143 := fz_fr_tr hf128 hf142 (show fz_su [(60, 99999)] [(60, 99999), (74, 99999), (75, 99999), (86, 99999), (87, 99999), (88, 99999)] = true from rfl)
                            refine fz_iincN (ls' := [(6, fz_i (x43 + 1)), (5, fz_i x43), (4, fz_i y42), (0, fz_r 53), (1, fz_i on), (2, fz_i hr), (3, fz_i wh)]) kX11_free rfl (by decide) rfl (by omega) rfl ?_
                            refine fz_goto (tgt := 43) kX11_free rfl (by decide) ?_
                            exact ih50 (x43 + 1) x43 H137 hI141 hf143 (by omega) (by omega) (by omega)
                        · refine fz_goto (tgt := 111) kX11_free rfl (by decide) ?_
                          refine fz_iincN (ls' := [(6, fz_i (x43 + 1)), (5, fz_i x44), (4, fz_i y42), (0, fz_r 53), (1, fz_i on), (2, fz_i hr), (3, fz_i wh)]) kX11_free rfl (by decide) rfl (by omega) rfl ?_
                          refine fz_goto (tgt := 43) kX11_free rfl (by decide) ?_
                          exact ih50 (x43 + 1) x44 H45 hI46 hf47 (by omega) (by omega) (by omega)
              exact lp49 _ 0 (-2) H28 hI32 hf34 (by omega) (by omega) (Nat.lt_succ_self _)
            · exfalso; omega
          · refine fz_if_ne (tgt := 25) kX11_free rfl (by decide) (fun c144 => ?_) (fun c144 => ?_)
            · exfalso; omega
            · refine fz_iconst ⟨by decide, by decide⟩ kX11_free rfl ?_
              exact fz_iret kX11_free rfl rfl (fun _ => ⟨hI, hf, _, rfl, (by omega)⟩)
      · refine fz_if_eq (tgt := 23) kX11_free rfl (by decide) (fun c145 => ?_) (fun c145 => ?_)
        · refine fz_iconst ⟨by decide, by decide⟩ kX11_free rfl ?_
          exact fz_iret kX11_free rfl rfl (fun _ => ⟨hI, hf, _, rfl, (by omega)⟩)
        · exfalso; omega
  · refine fz_if_eq (tgt := 23) kX11_free rfl (by decide) (fun c146 => ?_) (fun c146 => ?_)
    · refine fz_iconst ⟨by decide, by decide⟩ kX11_free rfl ?_
      exact fz_iret kX11_free rfl rfl (fun _ => ⟨hI, hf, _, rfl, (by omega)⟩)
    · exfalso; omega

abbrev qX11_marksAlike (h : fz_H) (a b t hr : Int) : fz_H → Option fz_V → Prop := fun h' r0 => fz_Iv h' ∧ fz_fr [(74, 99999), (75, 99999)] h h' ∧ ∃ r : Int, r0 = some (fz_i r) ∧ (0 ≤ r ∧ r ≤ 5)
set_option maxHeartbeats 1000000 in
set_option maxRecDepth 100000 in
theorem sX11_marksAlike (h : fz_H) (hI : fz_Iv h) (a b t hr : Int) (hp0 : 0 ≤ t ∧ t ≤ 7) : fz_R 4 mX11_marksAlike 0 [(0, fz_r 53), (1, fz_i a), (2, fz_i b), (3, fz_i t), (4, fz_i hr)] [] h (qX11_marksAlike h a b t hr) := by
  refine fz_knowl (fun hk => ?_)
  have hr_a : -2147483648 ≤ a ∧ a < 2147483648 := hk _ (List.Mem.tail _ (List.Mem.head _))
  have hr_b : -2147483648 ≤ b ∧ b < 2147483648 := hk _ (List.Mem.tail _ (List.Mem.tail _ (List.Mem.head _)))
  have hr_t : -2147483648 ≤ t ∧ t < 2147483648 := hk _ (List.Mem.tail _ (List.Mem.tail _ (List.Mem.tail _ (List.Mem.head _))))
  have hr_hr : -2147483648 ≤ hr ∧ hr < 2147483648 := hk _ (List.Mem.tail _ (List.Mem.tail _ (List.Mem.tail _ (List.Mem.tail _ (List.Mem.head _)))))
  clear hk
  have hf : fz_fr [(74, 99999), (75, 99999)] h h := fz_fr_rf
  refine fz_iconst ⟨by decide, by decide⟩ kX11_marksAlike rfl ?_
  refine fz_istore (ls' := [(5, fz_i 0), (0, fz_r 53), (1, fz_i a), (2, fz_i b), (3, fz_i t), (4, fz_i hr)]) kX11_marksAlike rfl (by decide) rfl ?_
  refine fz_iconst ⟨by decide, by decide⟩ kX11_marksAlike rfl ?_
  refine fz_istore (ls' := [(6, fz_i 0), (5, fz_i 0), (0, fz_r 53), (1, fz_i a), (2, fz_i b), (3, fz_i t), (4, fz_i hr)]) kX11_marksAlike rfl (by decide) rfl ?_
  have lp7 : ∀ (n6 : Nat) (x1 : Int) (x2 : Int) (H3 : fz_H), fz_Iv H3 → fz_fr [(74, 99999), (75, 99999)] h H3 → (0 ≤ x1 ∧ x1 ≤ 2147483647) → (0 ≤ x2 ∧ x2 ≤ 5) → (x2 ≤ x1) → (5 - x1).toNat < n6 → fz_R 4 mX11_marksAlike 6 [(6, fz_i x1), (5, fz_i x2), (0, fz_r 53), (1, fz_i a), (2, fz_i b), (3, fz_i t), (4, fz_i hr)] [] H3 (qX11_marksAlike h a b t hr) := by
    intro n6
    induction n6 with
    | zero => intro x1 x2 H3 hI4 hf5 hv10 hv11 hv12 hm9; exact absurd hm9 (by omega)
    | succ n6 ih8 =>
      intro x1 x2 H3 hI4 hf5 hv10 hv11 hv12 hm9
      refine fz_iload kX11_marksAlike rfl rfl ?_
      refine fz_iconst ⟨by decide, by decide⟩ kX11_marksAlike rfl ?_
      refine fz_icmp_ge (tgt := 44) kX11_marksAlike rfl (by decide) (fun c13 => ?_) (fun c13 => ?_)
      · refine fz_iload kX11_marksAlike rfl rfl ?_
        exact fz_iret kX11_marksAlike rfl rfl (fun _ => ⟨hI4, hf5, _, rfl, (by omega)⟩)
      · refine fz_aload_n kX11_marksAlike rfl rfl ?_
        refine fz_iload_n kX11_marksAlike rfl rfl ?_
        refine fz_iload kX11_marksAlike rfl rfl ?_
        refine fz_iload_n kX11_marksAlike rfl rfl ?_
        refine fz_iload kX11_marksAlike rfl rfl ?_
        refine fz_callV (d' := 3) (M' := mX11_saidOf) (As := [fz_i a, fz_i x1, fz_i t, fz_i hr]) (st := []) kX11_marksAlike rfl rfl vX11_saidOf rfl rfl rfl rfl (Nat.le_of_ble_eq_true rfl) (Nat.le_of_ble_eq_true rfl) (by decide) (sX11_saidOf H3 hI4 a x1 t hr (by omega)) (fun H14 r15 q16 o17 => ?_)
        obtain ⟨hI18, hf19, y21, rfl, f20⟩ := q16
        clear o17
        have hf22 := fz_fr_tr hf5 hf19 (show fz_su [(74, 99999), (75, 99999)] [(74, 99999), (75, 99999)] = true from rfl)
        refine fz_aload_n kX11_marksAlike rfl rfl ?_
        refine fz_iload_n kX11_marksAlike rfl rfl ?_
        refine fz_iload kX11_marksAlike rfl rfl ?_
        refine fz_iload_n kX11_marksAlike rfl rfl ?_
        refine fz_iload kX11_marksAlike rfl rfl ?_
        refine fz_callV (d' := 3) (M' := mX11_saidOf) (As := [fz_i b, fz_i x1, fz_i t, fz_i hr]) (st := [fz_i y21]) kX11_marksAlike rfl rfl vX11_saidOf rfl rfl rfl rfl (Nat.le_of_ble_eq_true rfl) (Nat.le_of_ble_eq_true rfl) (by decide) (sX11_saidOf H14 hI18 b x1 t hr (by omega)) (fun H23 r24 q25 o26 => ?_)
        obtain ⟨hI27, hf28, y30, rfl, f29⟩ := q25
        clear o26
        have hf31 := fz_fr_tr hf22 hf28 (show fz_su [(74, 99999), (75, 99999)] [(74, 99999), (75, 99999)] = true from rfl)
        refine fz_icmp_ne (tgt := 38) kX11_marksAlike rfl (by decide) (fun c32 => ?_) (fun c32 => ?_)
        · refine fz_iincN (ls' := [(6, fz_i (x1 + 1)), (5, fz_i x2), (0, fz_r 53), (1, fz_i a), (2, fz_i b), (3, fz_i t), (4, fz_i hr)]) kX11_marksAlike rfl (by decide) rfl (by omega) rfl ?_
          refine fz_goto (tgt := 6) kX11_marksAlike rfl (by decide) ?_
          exact ih8 (x1 + 1) x2 H23 hI27 hf31 (by omega) (by omega) (by omega) (by omega)
        · refine fz_iincN (ls' := [(5, fz_i (x2 + 1)), (6, fz_i x1), (0, fz_r 53), (1, fz_i a), (2, fz_i b), (3, fz_i t), (4, fz_i hr)]) kX11_marksAlike rfl (by decide) rfl (by omega) rfl ?_
          refine fz_iincN (ls' := [(6, fz_i (x1 + 1)), (5, fz_i (x2 + 1)), (0, fz_r 53), (1, fz_i a), (2, fz_i b), (3, fz_i t), (4, fz_i hr)]) kX11_marksAlike rfl (by decide) rfl (by omega) rfl ?_
          refine fz_goto (tgt := 6) kX11_marksAlike rfl (by decide) ?_
          exact ih8 (x1 + 1) (x2 + 1) H23 hI27 hf31 (by omega) (by omega) (by omega) (by omega)
  exact lp7 _ 0 0 h hI hf (by omega) (by omega) (by omega) (Nat.lt_succ_self _)

abbrev qX11_alike (h : fz_H) (pq th wh : Int) : fz_H → Option fz_V → Prop := fun h' r0 => fz_Iv h' ∧ fz_fr [(60, 99999), (74, 99999), (75, 99999), (86, 99999), (87, 99999), (88, 99999)] h h' ∧ ∃ r : Int, r0 = some (fz_i r) ∧ ((-2147483648) ≤ r ∧ r ≤ 2147483647)
set_option maxHeartbeats 1000000 in
set_option maxRecDepth 100000 in
theorem sX11_alike (h : fz_H) (hI : fz_Iv h) (pq th wh : Int) : fz_R 5 mX11_alike 0 [(0, fz_r 53), (1, fz_i pq), (2, fz_i th), (3, fz_i wh)] [] h (qX11_alike h pq th wh) := by
  refine fz_knowl (fun hk => ?_)
  have hr_pq : -2147483648 ≤ pq ∧ pq < 2147483648 := hk _ (List.Mem.tail _ (List.Mem.head _))
  have hr_th : -2147483648 ≤ th ∧ th < 2147483648 := hk _ (List.Mem.tail _ (List.Mem.tail _ (List.Mem.head _)))
  have hr_wh : -2147483648 ≤ wh ∧ wh < 2147483648 := hk _ (List.Mem.tail _ (List.Mem.tail _ (List.Mem.tail _ (List.Mem.head _))))
  clear hk
  have hf : fz_fr [(60, 99999), (74, 99999), (75, 99999), (86, 99999), (87, 99999), (88, 99999)] h h := fz_fr_rf
  refine fz_iload_n kX11_alike rfl rfl ?_
  refine fz_if_lt (tgt := 52) kX11_alike rfl (by decide) (fun c1 => ?_) (fun c1 => ?_)
  · refine fz_ldc (x := (-2000000000)) kX11_alike rfl rfl rfl ?_
    exact fz_iret kX11_alike rfl rfl (fun _ => ⟨hI, hf, _, rfl, (by omega)⟩)
  · refine fz_iload_n kX11_alike rfl rfl ?_
    refine fz_bipush ⟨by decide, by decide⟩ kX11_alike rfl ?_
    refine fz_idivN kX11_alike rfl (by omega) (by omega) (by omega) ?_
    refine fz_callS (d' := 1) (M' := mX11_isPerson) (As := [fz_i (pq / 10)]) (st := []) kX11_alike rfl rfl vX11_isPerson rfl rfl (Nat.le_of_ble_eq_true rfl) (Nat.le_of_ble_eq_true rfl) (by decide) (sX11_isPerson h hI (pq / 10) ) (fun H2 r3 q4 o5 => ?_)
    obtain ⟨e6, y7, rfl, p8⟩ := q4
    subst H2
    clear o5
    rcases p8 with ⟨rfl, c9⟩ | ⟨rfl, c9⟩
    · refine fz_if_eq (tgt := 52) kX11_alike rfl (by decide) (fun c10 => ?_) (fun c10 => ?_)
      · exfalso; omega
      · refine fz_iload_n kX11_alike rfl rfl ?_
        refine fz_bipush ⟨by decide, by decide⟩ kX11_alike rfl ?_
        refine fz_iremN kX11_alike rfl (by omega) (by omega) (by omega) ?_
        refine fz_callS (d' := 1) (M' := mX11_isPerson) (As := [fz_i (pq % 10)]) (st := []) kX11_alike rfl rfl vX11_isPerson rfl rfl (Nat.le_of_ble_eq_true rfl) (Nat.le_of_ble_eq_true rfl) (by decide) (sX11_isPerson h hI (pq % 10) ) (fun H11 r12 q13 o14 => ?_)
        obtain ⟨e15, y16, rfl, p17⟩ := q13
        subst H11
        clear o14
        rcases p17 with ⟨rfl, c18⟩ | ⟨rfl, c18⟩
        · refine fz_if_eq (tgt := 52) kX11_alike rfl (by decide) (fun c19 => ?_) (fun c19 => ?_)
          · exfalso; omega
          · refine fz_iload_n kX11_alike rfl rfl ?_
            refine fz_bipush ⟨by decide, by decide⟩ kX11_alike rfl ?_
            refine fz_idivN kX11_alike rfl (by omega) (by omega) (by omega) ?_
            refine fz_iload_n kX11_alike rfl rfl ?_
            refine fz_bipush ⟨by decide, by decide⟩ kX11_alike rfl ?_
            refine fz_iremN kX11_alike rfl (by omega) (by omega) (by omega) ?_
            refine fz_icmp_eq (tgt := 52) kX11_alike rfl (by decide) (fun c20 => ?_) (fun c20 => ?_)
            · refine fz_ldc (x := (-2000000000)) kX11_alike rfl rfl rfl ?_
              exact fz_iret kX11_alike rfl rfl (fun _ => ⟨hI, hf, _, rfl, (by omega)⟩)
            · refine fz_aload_n kX11_alike rfl rfl ?_
              refine fz_iload_n kX11_alike rfl rfl ?_
              have b21 : 0 ≤ h 53 0 ∧ h 53 0 ≤ 8 := hI.1 53 _
              refine fz_callV (d' := 2) (M' := mX11_isWhen) (As := [fz_i th]) (st := []) kX11_alike rfl rfl vX11_isWhen rfl rfl rfl rfl (Nat.le_of_ble_eq_true rfl) (Nat.le_of_ble_eq_true rfl) (by decide) (sX11_isWhen h hI th ) (fun H22 r23 q24 o25 => ?_)
              obtain ⟨e26, y27, rfl, p28⟩ := q24
              subst H22
              clear o25
              rcases p28 with ⟨rfl, c29⟩ | ⟨rfl, c29⟩
              · refine fz_if_eq (tgt := 52) kX11_alike rfl (by decide) (fun c30 => ?_) (fun c30 => ?_)
                · exfalso; omega
                · refine fz_iload_n kX11_alike rfl rfl ?_
                  refine fz_iconst ⟨by decide, by decide⟩ kX11_alike rfl ?_
                  refine fz_iconst ⟨by decide, by decide⟩ kX11_alike rfl ?_
                  refine fz_callS (d' := 0) (M' := mX11_within) (As := [fz_i wh, fz_i 0, fz_i 2]) (st := []) kX11_alike rfl rfl vX11_within rfl rfl (Nat.le_of_ble_eq_true rfl) (Nat.le_of_ble_eq_true rfl) (by decide) (sX11_within h hI wh 0 2 ) (fun H31 r32 q33 o34 => ?_)
                  obtain ⟨e35, y36, rfl, p37⟩ := q33
                  subst H31
                  clear o34
                  rcases p37 with ⟨rfl, c38⟩ | ⟨rfl, c38⟩
                  · refine fz_if_ne (tgt := 55) kX11_alike rfl (by decide) (fun c39 => ?_) (fun c39 => ?_)
                    · refine fz_aload_n kX11_alike rfl rfl ?_
                      refine fz_callV (d' := 3) (M' := mX11_allHear) (As := []) (st := []) kX11_alike rfl rfl vX11_allHear rfl rfl rfl rfl (Nat.le_of_ble_eq_true rfl) (Nat.le_of_ble_eq_true rfl) (by decide) (sX11_allHear h hI  ) (fun H40 r41 q42 o43 => ?_)
                      obtain ⟨hI44, hf45, rfl⟩ := q42
                      clear o43
                      have hf46 := fz_fr_tr hf hf45 (show fz_su [(86, 99999), (87, 99999), (88, 99999)] [(60, 99999), (74, 99999), (75, 99999), (86, 99999), (87, 99999), (88, 99999)] = true from rfl)
                      refine fz_iload_n kX11_alike rfl rfl ?_
                      refine fz_bipush ⟨by decide, by decide⟩ kX11_alike rfl ?_
                      refine fz_idivN kX11_alike rfl (by omega) (by omega) (by omega) ?_
                      refine fz_istore (ls' := [(4, fz_i (pq / 10)), (0, fz_r 53), (1, fz_i pq), (2, fz_i th), (3, fz_i wh)]) kX11_alike rfl (by decide) rfl ?_
                      refine fz_iload_n kX11_alike rfl rfl ?_
                      refine fz_bipush ⟨by decide, by decide⟩ kX11_alike rfl ?_
                      refine fz_iremN kX11_alike rfl (by omega) (by omega) (by omega) ?_
                      refine fz_istore (ls' := [(5, fz_i (pq % 10)), (4, fz_i (pq / 10)), (0, fz_r 53), (1, fz_i pq), (2, fz_i th), (3, fz_i wh)]) kX11_alike rfl (by decide) rfl ?_
                      refine fz_iload_n kX11_alike rfl rfl ?_
                      refine fz_sipush ⟨by decide, by decide⟩ kX11_alike rfl ?_
                      refine fz_idivN kX11_alike rfl (by omega) (by omega) (by omega) ?_
                      refine fz_istore (ls' := [(6, fz_i (th / 1000)), (5, fz_i (pq % 10)), (4, fz_i (pq / 10)), (0, fz_r 53), (1, fz_i pq), (2, fz_i th), (3, fz_i wh)]) kX11_alike rfl (by decide) rfl ?_
                      refine fz_iload_n kX11_alike rfl rfl ?_
                      refine fz_sipush ⟨by decide, by decide⟩ kX11_alike rfl ?_
                      refine fz_iremN kX11_alike rfl (by omega) (by omega) (by omega) ?_
                      refine fz_istore (ls' := [(7, fz_i (th % 1000)), (6, fz_i (th / 1000)), (5, fz_i (pq % 10)), (4, fz_i (pq / 10)), (0, fz_r 53), (1, fz_i pq), (2, fz_i th), (3, fz_i wh)]) kX11_alike rfl (by decide) rfl ?_
                      refine fz_iload_n kX11_alike rfl rfl ?_
                      refine fz_if_ne (tgt := 102) kX11_alike rfl (by decide) (fun c47 => ?_) (fun c47 => ?_)
                      · refine fz_iload_n kX11_alike rfl rfl ?_
                        refine fz_iconst ⟨by decide, by decide⟩ kX11_alike rfl ?_
                        refine fz_icmp_ne (tgt := 156) kX11_alike rfl (by decide) (fun c48 => ?_) (fun c48 => ?_)
                        · refine fz_aload_n kX11_alike rfl rfl ?_
                          refine fz_iload kX11_alike rfl rfl ?_
                          refine fz_iload kX11_alike rfl rfl ?_
                          refine fz_iload kX11_alike rfl rfl ?_
                          refine fz_callV (d' := 4) (M' := mX11_receivedIn) (As := [fz_i (pq / 10), fz_i (th / 1000), fz_i (th % 1000)]) (st := []) kX11_alike rfl rfl vX11_receivedIn rfl rfl rfl rfl (Nat.le_of_ble_eq_true rfl) (Nat.le_of_ble_eq_true rfl) (by decide) (sX11_receivedIn H40 hI44 (pq / 10) (th / 1000) (th % 1000) (by omega)) (fun H49 r50 q51 o52 => ?_)
                          obtain ⟨hI53, hf54, y56, rfl, f55⟩ := q51
                          clear o52
                          have hf57 := fz_fr_tr hf46 hf54 (show fz_su [(74, 99999), (75, 99999)] [(60, 99999), (74, 99999), (75, 99999), (86, 99999), (87, 99999), (88, 99999)] = true from rfl)
                          refine fz_istore (ls' := [(8, fz_i y56), (7, fz_i (th % 1000)), (6, fz_i (th / 1000)), (5, fz_i (pq % 10)), (4, fz_i (pq / 10)), (0, fz_r 53), (1, fz_i pq), (2, fz_i th), (3, fz_i wh)]) kX11_alike rfl (by decide) rfl ?_
                          refine fz_aload_n kX11_alike rfl rfl ?_
                          refine fz_iload kX11_alike rfl rfl ?_
                          refine fz_callV (d' := 0) (M' := mX11_deedsOf) (As := [fz_i (pq % 10)]) (st := []) kX11_alike rfl rfl vX11_deedsOf rfl rfl rfl rfl (Nat.le_of_ble_eq_true rfl) (Nat.le_of_ble_eq_true rfl) (by decide) (sX11_deedsOf H49 hI53 (pq % 10) ) (fun H58 r59 q60 o61 => ?_)
                          obtain ⟨e62, y65, rfl, f63, f64⟩ := q60
                          subst H58
                          clear o61
                          refine fz_istore (ls' := [(9, fz_i y65), (8, fz_i y56), (7, fz_i (th % 1000)), (6, fz_i (th / 1000)), (5, fz_i (pq % 10)), (4, fz_i (pq / 10)), (0, fz_r 53), (1, fz_i pq), (2, fz_i th), (3, fz_i wh)]) kX11_alike rfl (by decide) rfl ?_
                          refine fz_aload_n kX11_alike rfl rfl ?_
                          refine fz_iload kX11_alike rfl rfl ?_
                          refine fz_iload kX11_alike rfl rfl ?_
                          refine fz_callV (d' := 0) (M' := mX11_forgets) (As := [fz_i y65, fz_i (pq / 10)]) (st := []) kX11_alike rfl rfl vX11_forgets rfl rfl rfl rfl (Nat.le_of_ble_eq_true rfl) (Nat.le_of_ble_eq_true rfl) (by decide) (sX11_forgets H49 hI53 y65 (pq / 10) ) (fun H66 r67 q68 o69 => ?_)
                          obtain ⟨hI70, hf71, rfl⟩ := q68
                          clear o69
                          have hf72 := fz_fr_tr hf57 hf71 (show fz_su [(60, 99999)] [(60, 99999), (74, 99999), (75, 99999), (86, 99999), (87, 99999), (88, 99999)] = true from rfl)
                          refine fz_aload_n kX11_alike rfl rfl ?_
                          refine fz_iload kX11_alike rfl rfl ?_
                          refine fz_iload kX11_alike rfl rfl ?_
                          refine fz_iload kX11_alike rfl rfl ?_
                          refine fz_callV (d' := 4) (M' := mX11_receivedIn) (As := [fz_i (pq / 10), fz_i (th / 1000), fz_i (th % 1000)]) (st := []) kX11_alike rfl rfl vX11_receivedIn rfl rfl rfl rfl (Nat.le_of_ble_eq_true rfl) (Nat.le_of_ble_eq_true rfl) (by decide) (sX11_receivedIn H66 hI70 (pq / 10) (th / 1000) (th % 1000) (by omega)) (fun H73 r74 q75 o76 => ?_)
                          obtain ⟨hI77, hf78, y80, rfl, f79⟩ := q75
                          clear o76
                          have hf81 := fz_fr_tr hf72 hf78 (show fz_su [(74, 99999), (75, 99999)] [(60, 99999), (74, 99999), (75, 99999), (86, 99999), (87, 99999), (88, 99999)] = true from rfl)
                          refine fz_istore (ls' := [(10, fz_i y80), (9, fz_i y65), (8, fz_i y56), (7, fz_i (th % 1000)), (6, fz_i (th / 1000)), (5, fz_i (pq % 10)), (4, fz_i (pq / 10)), (0, fz_r 53), (1, fz_i pq), (2, fz_i th), (3, fz_i wh)]) kX11_alike rfl (by decide) rfl ?_
                          refine fz_aload_n kX11_alike rfl rfl ?_
                          refine fz_iload kX11_alike rfl rfl ?_
                          refine fz_iload kX11_alike rfl rfl ?_
                          refine fz_callV (d' := 0) (M' := mX11_forgets) (As := [fz_i y65, fz_i (pq % 10)]) (st := []) kX11_alike rfl rfl vX11_forgets rfl rfl rfl rfl (Nat.le_of_ble_eq_true rfl) (Nat.le_of_ble_eq_true rfl) (by decide) (sX11_forgets H73 hI77 y65 (pq % 10) ) (fun H82 r83 q84 o85 => ?_)
                          obtain ⟨hI86, hf87, rfl⟩ := q84
                          clear o85
                          have hf88 := fz_fr_tr hf81 hf87 (show fz_su [(60, 99999)] [(60, 99999), (74, 99999), (75, 99999), (86, 99999), (87, 99999), (88, 99999)] = true from rfl)
                          refine fz_iload kX11_alike rfl rfl ?_
                          refine fz_iload kX11_alike rfl rfl ?_
                          refine fz_isub kX11_alike rfl ?_
                          refine fz_nmw (fun z89 e90 => ?_)
                          exact fz_iret kX11_alike rfl rfl (fun _ => ⟨hI86, hf88, _, rfl, (by omega)⟩)
                        · refine fz_iconst ⟨by decide, by decide⟩ kX11_alike rfl ?_
                          refine fz_istore (ls' := [(8, fz_i 0), (7, fz_i (th % 1000)), (6, fz_i (th / 1000)), (5, fz_i (pq % 10)), (4, fz_i (pq / 10)), (0, fz_r 53), (1, fz_i pq), (2, fz_i th), (3, fz_i wh)]) kX11_alike rfl (by decide) rfl ?_
                          refine fz_iconst ⟨by decide, by decide⟩ kX11_alike rfl ?_
                          refine fz_istore (ls' := [(9, fz_i 0), (8, fz_i 0), (7, fz_i (th % 1000)), (6, fz_i (th / 1000)), (5, fz_i (pq % 10)), (4, fz_i (pq / 10)), (0, fz_r 53), (1, fz_i pq), (2, fz_i th), (3, fz_i wh)]) kX11_alike rfl (by decide) rfl ?_
                          have lp97 : ∀ (n96 : Nat) (x91 : Int) (x92 : Int) (H93 : fz_H), fz_Iv H93 → fz_fr [(60, 99999), (74, 99999), (75, 99999), (86, 99999), (87, 99999), (88, 99999)] h H93 → (0 ≤ x91 ∧ x91 ≤ 2147483647) → ((-2147483648) ≤ x92 ∧ x92 ≤ 2147483647) → ((h 53 0) - x91).toNat < n96 → fz_R 5 mX11_alike 113 [(9, fz_i x91), (8, fz_i x92), (7, fz_i (th % 1000)), (6, fz_i (th / 1000)), (5, fz_i (pq % 10)), (4, fz_i (pq / 10)), (0, fz_r 53), (1, fz_i pq), (2, fz_i th), (3, fz_i wh)] [] H93 (qX11_alike h pq th wh) := by
                            intro n96
                            induction n96 with
                            | zero => intro x91 x92 H93 hI94 hf95 hv100 hv101 hm99; exact absurd hm99 (by omega)
                            | succ n96 ih98 =>
                              intro x91 x92 H93 hI94 hf95 hv100 hv101 hm99
                              refine fz_iload kX11_alike rfl rfl ?_
                              refine fz_aload_n kX11_alike rfl rfl ?_
                              refine fz_getV (v := h 53 0) kX11_alike rfl rfl (hf95 53 0 rfl) ?_
                              have b102 : 0 ≤ h 53 0 ∧ h 53 0 ≤ 8 := hI.1 53 _
                              refine fz_icmp_ge (tgt := 153) kX11_alike rfl (by decide) (fun c103 => ?_) (fun c103 => ?_)
                              · refine fz_iload kX11_alike rfl rfl ?_
                                exact fz_iret kX11_alike rfl rfl (fun _ => ⟨hI94, hf95, _, rfl, (by omega)⟩)
                              · refine fz_aload_n kX11_alike rfl rfl ?_
                                refine fz_iload kX11_alike rfl rfl ?_
                                refine fz_iload kX11_alike rfl rfl ?_
                                refine fz_iload kX11_alike rfl rfl ?_
                                refine fz_iload kX11_alike rfl rfl ?_
                                refine fz_callV (d' := 4) (M' := mX11_marksAlike) (As := [fz_i (pq / 10), fz_i (pq % 10), fz_i x91, fz_i (th % 1000)]) (st := []) kX11_alike rfl rfl vX11_marksAlike rfl rfl rfl rfl (Nat.le_of_ble_eq_true rfl) (Nat.le_of_ble_eq_true rfl) (by decide) (sX11_marksAlike H93 hI94 (pq / 10) (pq % 10) x91 (th % 1000) (by omega)) (fun H104 r105 q106 o107 => ?_)
                                obtain ⟨hI108, hf109, y111, rfl, f110⟩ := q106
                                clear o107
                                have hf112 := fz_fr_tr hf95 hf109 (show fz_su [(74, 99999), (75, 99999)] [(60, 99999), (74, 99999), (75, 99999), (86, 99999), (87, 99999), (88, 99999)] = true from rfl)
                                refine fz_iconst ⟨by decide, by decide⟩ kX11_alike rfl ?_
                                refine fz_icmp_ge (tgt := 147) kX11_alike rfl (by decide) (fun c113 => ?_) (fun c113 => ?_)
                                · refine fz_iincN (ls' := [(9, fz_i (x91 + 1)), (8, fz_i x92), (7, fz_i (th % 1000)), (6, fz_i (th / 1000)), (5, fz_i (pq % 10)), (4, fz_i (pq / 10)), (0, fz_r 53), (1, fz_i pq), (2, fz_i th), (3, fz_i wh)]) kX11_alike rfl (by decide) rfl (by omega) rfl ?_
                                  refine fz_goto (tgt := 113) kX11_alike rfl (by decide) ?_
                                  exact ih98 (x91 + 1) x92 H104 hI108 hf112 (by omega) (by omega) (by omega)
                                · refine fz_iload kX11_alike rfl rfl ?_
                                  refine fz_iconst ⟨by decide, by decide⟩ kX11_alike rfl ?_
                                  refine fz_iload kX11_alike rfl rfl ?_
                                  refine fz_ishl kX11_alike rfl ?_
                                  have b114 : -2147483648 ≤ (fz_shl 1 x91) ∧ (fz_shl 1 x91) < 2147483648 := fz_b32 _
                                  refine fz_ior kX11_alike rfl ?_
                                  have b115 : -2147483648 ≤ (fz_or x92 (fz_shl 1 x91)) ∧ (fz_or x92 (fz_shl 1 x91)) < 2147483648 := fz_b32 _
                                  refine fz_istore (ls' := [(8, fz_i (fz_or x92 (fz_shl 1 x91))), (9, fz_i x91), (7, fz_i (th % 1000)), (6, fz_i (th / 1000)), (5, fz_i (pq % 10)), (4, fz_i (pq / 10)), (0, fz_r 53), (1, fz_i pq), (2, fz_i th), (3, fz_i wh)]) kX11_alike rfl (by decide) rfl ?_
                                  refine fz_iincN (ls' := [(9, fz_i (x91 + 1)), (8, fz_i (fz_or x92 (fz_shl 1 x91))), (7, fz_i (th % 1000)), (6, fz_i (th / 1000)), (5, fz_i (pq % 10)), (4, fz_i (pq / 10)), (0, fz_r 53), (1, fz_i pq), (2, fz_i th), (3, fz_i wh)]) kX11_alike rfl (by decide) rfl (by omega) rfl ?_
                                  refine fz_goto (tgt := 113) kX11_alike rfl (by decide) ?_
                                  exact ih98 (x91 + 1) (fz_or x92 (fz_shl 1 x91)) H104 hI108 hf112 (by omega) (by omega) (by omega)
                          exact lp97 _ 0 0 H40 hI44 hf46 (by omega) (by omega) (Nat.lt_succ_self _)
                      · refine fz_aload_n kX11_alike rfl rfl ?_
                        refine fz_iload kX11_alike rfl rfl ?_
                        refine fz_iload kX11_alike rfl rfl ?_
                        refine fz_iload kX11_alike rfl rfl ?_
                        refine fz_iload kX11_alike rfl rfl ?_
                        refine fz_callV (d' := 4) (M' := mX11_marksAlike) (As := [fz_i (pq / 10), fz_i (pq % 10), fz_i (th / 1000), fz_i (th % 1000)]) (st := []) kX11_alike rfl rfl vX11_marksAlike rfl rfl rfl rfl (Nat.le_of_ble_eq_true rfl) (Nat.le_of_ble_eq_true rfl) (by decide) (sX11_marksAlike H40 hI44 (pq / 10) (pq % 10) (th / 1000) (th % 1000) (by omega)) (fun H116 r117 q118 o119 => ?_)
                        obtain ⟨hI120, hf121, y123, rfl, f122⟩ := q118
                        clear o119
                        have hf124 := fz_fr_tr hf46 hf121 (show fz_su [(74, 99999), (75, 99999)] [(60, 99999), (74, 99999), (75, 99999), (86, 99999), (87, 99999), (88, 99999)] = true from rfl)
                        exact fz_iret kX11_alike rfl rfl (fun _ => ⟨hI120, hf124, _, rfl, (by omega)⟩)
                    · exfalso; omega
                  · refine fz_if_ne (tgt := 55) kX11_alike rfl (by decide) (fun c125 => ?_) (fun c125 => ?_)
                    · exfalso; omega
                    · refine fz_ldc (x := (-2000000000)) kX11_alike rfl rfl rfl ?_
                      exact fz_iret kX11_alike rfl rfl (fun _ => ⟨hI, hf, _, rfl, (by omega)⟩)
              · refine fz_if_eq (tgt := 52) kX11_alike rfl (by decide) (fun c126 => ?_) (fun c126 => ?_)
                · refine fz_ldc (x := (-2000000000)) kX11_alike rfl rfl rfl ?_
                  exact fz_iret kX11_alike rfl rfl (fun _ => ⟨hI, hf, _, rfl, (by omega)⟩)
                · exfalso; omega
        · refine fz_if_eq (tgt := 52) kX11_alike rfl (by decide) (fun c127 => ?_) (fun c127 => ?_)
          · refine fz_ldc (x := (-2000000000)) kX11_alike rfl rfl rfl ?_
            exact fz_iret kX11_alike rfl rfl (fun _ => ⟨hI, hf, _, rfl, (by omega)⟩)
          · exfalso; omega
    · refine fz_if_eq (tgt := 52) kX11_alike rfl (by decide) (fun c128 => ?_) (fun c128 => ?_)
      · refine fz_ldc (x := (-2000000000)) kX11_alike rfl rfl rfl ?_
        exact fz_iret kX11_alike rfl rfl (fun _ => ⟨hI, hf, _, rfl, (by omega)⟩)
      · exfalso; omega

abbrev qX11_wrong (h : fz_H) (s pe t hr : Int) : fz_H → Option fz_V → Prop := fun h' r0 => fz_Iv h' ∧ fz_fr [(74, 99999), (75, 99999)] h h' ∧ ∃ r : Int, r0 = some (fz_i r) ∧ ((-2) ≤ r ∧ r ≤ 4)
set_option maxHeartbeats 1000000 in
set_option maxRecDepth 100000 in
theorem sX11_wrong (h : fz_H) (hI : fz_Iv h) (s pe t hr : Int) (hp0 : 0 ≤ s ∧ s ≤ 5) (hp1 : 0 ≤ t ∧ t ≤ 7) : fz_R 4 mX11_wrong 0 [(0, fz_r 53), (1, fz_i s), (2, fz_i pe), (3, fz_i t), (4, fz_i hr)] [] h (qX11_wrong h s pe t hr) := by
  refine fz_knowl (fun hk => ?_)
  have hr_s : -2147483648 ≤ s ∧ s < 2147483648 := hk _ (List.Mem.tail _ (List.Mem.head _))
  have hr_pe : -2147483648 ≤ pe ∧ pe < 2147483648 := hk _ (List.Mem.tail _ (List.Mem.tail _ (List.Mem.head _)))
  have hr_t : -2147483648 ≤ t ∧ t < 2147483648 := hk _ (List.Mem.tail _ (List.Mem.tail _ (List.Mem.tail _ (List.Mem.head _))))
  have hr_hr : -2147483648 ≤ hr ∧ hr < 2147483648 := hk _ (List.Mem.tail _ (List.Mem.tail _ (List.Mem.tail _ (List.Mem.tail _ (List.Mem.head _)))))
  clear hk
  have hf : fz_fr [(74, 99999), (75, 99999)] h h := fz_fr_rf
  refine fz_iconst ⟨by decide, by decide⟩ kX11_wrong rfl ?_
  refine fz_istore (ls' := [(5, fz_i 0), (0, fz_r 53), (1, fz_i s), (2, fz_i pe), (3, fz_i t), (4, fz_i hr)]) kX11_wrong rfl (by decide) rfl ?_
  have lp6 : ∀ (n5 : Nat) (x1 : Int) (H2 : fz_H), fz_Iv H2 → fz_fr [(74, 99999), (75, 99999)] h H2 → (0 ≤ x1 ∧ x1 ≤ 2147483647) → (5 - x1).toNat < n5 → fz_R 4 mX11_wrong 3 [(5, fz_i x1), (0, fz_r 53), (1, fz_i s), (2, fz_i pe), (3, fz_i t), (4, fz_i hr)] [] H2 (qX11_wrong h s pe t hr) := by
    intro n5
    induction n5 with
    | zero => intro x1 H2 hI3 hf4 hv9 hm8; exact absurd hm8 (by omega)
    | succ n5 ih7 =>
      intro x1 H2 hI3 hf4 hv9 hm8
      refine fz_iload kX11_wrong rfl rfl ?_
      refine fz_iconst ⟨by decide, by decide⟩ kX11_wrong rfl ?_
      refine fz_icmp_ge (tgt := 56) kX11_wrong rfl (by decide) (fun c10 => ?_) (fun c10 => ?_)
      · refine fz_bipush ⟨by decide, by decide⟩ kX11_wrong rfl ?_
        exact fz_iret kX11_wrong rfl rfl (fun _ => ⟨hI3, hf4, _, rfl, (by omega)⟩)
      · refine fz_iload kX11_wrong rfl rfl ?_
        refine fz_aload_n kX11_wrong rfl rfl ?_
        refine fz_getR (t := 84) kX11_wrong rfl rfl ?_
        refine fz_iload_n kX11_wrong rfl rfl ?_
        refine fz_ialdV (n := 6) (v := h 84 (s.toNat)) kX11_wrong rfl rfl (by omega) (by omega) (hf4 84 _ rfl) ?_
        have b11 : 0 ≤ h 84 (s.toNat) ∧ h 84 (s.toNat) ≤ 60 := hI.1 84 _
        refine fz_icmp_ge (tgt := 56) kX11_wrong rfl (by decide) (fun c12 => ?_) (fun c12 => ?_)
        · refine fz_bipush ⟨by decide, by decide⟩ kX11_wrong rfl ?_
          exact fz_iret kX11_wrong rfl rfl (fun _ => ⟨hI3, hf4, _, rfl, (by omega)⟩)
        · refine fz_aload_n kX11_wrong rfl rfl ?_
          refine fz_getR (t := 85) kX11_wrong rfl rfl ?_
          refine fz_bipush ⟨by decide, by decide⟩ kX11_wrong rfl ?_
          refine fz_iload_n kX11_wrong rfl rfl ?_
          refine fz_imulN kX11_wrong rfl (by omega) ?_
          refine fz_iload kX11_wrong rfl rfl ?_
          refine fz_iaddN kX11_wrong rfl (by omega) ?_
          refine fz_laldV (n := 360) (v := h 85 (((60 * s) + x1).toNat)) kX11_wrong rfl rfl (by omega) (by omega) (hf4 85 _ rfl) ?_
          have b13 : (-9223372036854775808) ≤ h 85 (((60 * s) + x1).toNat) ∧ h 85 (((60 * s) + x1).toNat) ≤ 9223372036854775807 := hI.1 85 _
          refine fz_aload_n kX11_wrong rfl rfl ?_
          refine fz_iload_n kX11_wrong rfl rfl ?_
          refine fz_iload kX11_wrong rfl rfl ?_
          refine fz_iload_n kX11_wrong rfl rfl ?_
          refine fz_iload kX11_wrong rfl rfl ?_
          refine fz_callV (d' := 3) (M' := mX11_saidOf) (As := [fz_i pe, fz_i x1, fz_i t, fz_i hr]) (st := [fz_l (h 85 (((60 * s) + x1).toNat))]) kX11_wrong rfl rfl vX11_saidOf rfl rfl rfl rfl (Nat.le_of_ble_eq_true rfl) (Nat.le_of_ble_eq_true rfl) (by decide) (sX11_saidOf H2 hI3 pe x1 t hr (by omega)) (fun H14 r15 q16 o17 => ?_)
          obtain ⟨hI18, hf19, y21, rfl, f20⟩ := q16
          clear o17
          have hf22 := fz_fr_tr hf4 hf19 (show fz_su [(74, 99999), (75, 99999)] [(74, 99999), (75, 99999)] = true from rfl)
          refine fz_i2l kX11_wrong rfl ?_
          refine fz_lcmp kX11_wrong rfl ?_
          have b23 := fz_cmp_c (h 85 (((60 * s) + x1).toNat)) y21
          refine fz_if_eq (tgt := 50) kX11_wrong rfl (by decide) (fun c24 => ?_) (fun c24 => ?_)
          · refine fz_iincN (ls' := [(5, fz_i (x1 + 1)), (0, fz_r 53), (1, fz_i s), (2, fz_i pe), (3, fz_i t), (4, fz_i hr)]) kX11_wrong rfl (by decide) rfl (by omega) rfl ?_
            refine fz_goto (tgt := 3) kX11_wrong rfl (by decide) ?_
            exact ih7 (x1 + 1) H14 hI18 hf22 (by omega) (by omega)
          · refine fz_iload kX11_wrong rfl rfl ?_
            exact fz_iret kX11_wrong rfl rfl (fun _ => ⟨hI18, hf22, _, rfl, (by omega)⟩)
  exact lp6 _ 0 h hI hf (by omega) (Nat.lt_succ_self _)

abbrev qX11_judge (h : fz_H) (s on th : Int) : fz_H → Option fz_V → Prop := fun h' r0 => fz_Iv h' ∧ fz_fr [(74, 99999), (75, 99999), (86, 99999), (87, 99999), (88, 99999)] h h' ∧ ∃ r : Int, r0 = some (fz_i r) ∧ ((-12) ≤ r ∧ r ≤ 4)
set_option maxHeartbeats 1000000 in
set_option maxRecDepth 100000 in
theorem sX11_judge (h : fz_H) (hI : fz_Iv h) (s on th : Int) : fz_R 5 mX11_judge 0 [(0, fz_r 53), (1, fz_i s), (2, fz_i on), (3, fz_i th)] [] h (qX11_judge h s on th) := by
  refine fz_knowl (fun hk => ?_)
  have hr_s : -2147483648 ≤ s ∧ s < 2147483648 := hk _ (List.Mem.tail _ (List.Mem.head _))
  have hr_on : -2147483648 ≤ on ∧ on < 2147483648 := hk _ (List.Mem.tail _ (List.Mem.tail _ (List.Mem.head _)))
  have hr_th : -2147483648 ≤ th ∧ th < 2147483648 := hk _ (List.Mem.tail _ (List.Mem.tail _ (List.Mem.tail _ (List.Mem.head _))))
  clear hk
  have hf : fz_fr [(74, 99999), (75, 99999), (86, 99999), (87, 99999), (88, 99999)] h h := fz_fr_rf
  refine fz_iload_n kX11_judge rfl rfl ?_
  refine fz_callS (d' := 1) (M' := mX11_isShelf) (As := [fz_i s]) (st := []) kX11_judge rfl rfl vX11_isShelf rfl rfl (Nat.le_of_ble_eq_true rfl) (Nat.le_of_ble_eq_true rfl) (by decide) (sX11_isShelf h hI s ) (fun H1 r2 q3 o4 => ?_)
  obtain ⟨e5, y6, rfl, p7⟩ := q3
  subst H1
  clear o4
  rcases p7 with ⟨rfl, c8⟩ | ⟨rfl, c8⟩
  · refine fz_if_eq (tgt := 22) kX11_judge rfl (by decide) (fun c9 => ?_) (fun c9 => ?_)
    · exfalso; omega
    · refine fz_iload_n kX11_judge rfl rfl ?_
      refine fz_callS (d' := 1) (M' := mX11_isPerson) (As := [fz_i on]) (st := []) kX11_judge rfl rfl vX11_isPerson rfl rfl (Nat.le_of_ble_eq_true rfl) (Nat.le_of_ble_eq_true rfl) (by decide) (sX11_isPerson h hI on ) (fun H10 r11 q12 o13 => ?_)
      obtain ⟨e14, y15, rfl, p16⟩ := q12
      subst H10
      clear o13
      rcases p16 with ⟨rfl, c17⟩ | ⟨rfl, c17⟩
      · refine fz_if_eq (tgt := 22) kX11_judge rfl (by decide) (fun c18 => ?_) (fun c18 => ?_)
        · exfalso; omega
        · refine fz_aload_n kX11_judge rfl rfl ?_
          refine fz_iload_n kX11_judge rfl rfl ?_
          have b19 : 0 ≤ h 53 0 ∧ h 53 0 ≤ 8 := hI.1 53 _
          refine fz_callV (d' := 2) (M' := mX11_isWhen) (As := [fz_i th]) (st := []) kX11_judge rfl rfl vX11_isWhen rfl rfl rfl rfl (Nat.le_of_ble_eq_true rfl) (Nat.le_of_ble_eq_true rfl) (by decide) (sX11_isWhen h hI th ) (fun H20 r21 q22 o23 => ?_)
          obtain ⟨e24, y25, rfl, p26⟩ := q22
          subst H20
          clear o23
          rcases p26 with ⟨rfl, c27⟩ | ⟨rfl, c27⟩
          · refine fz_if_ne (tgt := 24) kX11_judge rfl (by decide) (fun c28 => ?_) (fun c28 => ?_)
            · refine fz_aload_n kX11_judge rfl rfl ?_
              refine fz_iload_n kX11_judge rfl rfl ?_
              refine fz_callV (d' := 0) (M' := mX11_noRow) (As := [fz_i s]) (st := []) kX11_judge rfl rfl vX11_noRow rfl rfl rfl rfl (Nat.le_of_ble_eq_true rfl) (Nat.le_of_ble_eq_true rfl) (by decide) (sX11_noRow h hI s (by omega)) (fun H29 r30 q31 o32 => ?_)
              obtain ⟨e33, y35, rfl, f34⟩ := q31
              subst H29
              clear o32
              refine fz_istore (ls' := [(4, fz_i y35), (0, fz_r 53), (1, fz_i s), (2, fz_i on), (3, fz_i th)]) kX11_judge rfl (by decide) rfl ?_
              refine fz_iload kX11_judge rfl rfl ?_
              refine fz_if_ge (tgt := 39) kX11_judge rfl (by decide) (fun c36 => ?_) (fun c36 => ?_)
              · refine fz_aload_n kX11_judge rfl rfl ?_
                refine fz_callV (d' := 3) (M' := mX11_allHear) (As := []) (st := []) kX11_judge rfl rfl vX11_allHear rfl rfl rfl rfl (Nat.le_of_ble_eq_true rfl) (Nat.le_of_ble_eq_true rfl) (by decide) (sX11_allHear h hI  ) (fun H37 r38 q39 o40 => ?_)
                obtain ⟨hI41, hf42, rfl⟩ := q39
                clear o40
                have hf43 := fz_fr_tr hf hf42 (show fz_su [(86, 99999), (87, 99999), (88, 99999)] [(74, 99999), (75, 99999), (86, 99999), (87, 99999), (88, 99999)] = true from rfl)
                refine fz_aload_n kX11_judge rfl rfl ?_
                refine fz_iload_n kX11_judge rfl rfl ?_
                refine fz_iload_n kX11_judge rfl rfl ?_
                refine fz_iload_n kX11_judge rfl rfl ?_
                refine fz_sipush ⟨by decide, by decide⟩ kX11_judge rfl ?_
                refine fz_idivN kX11_judge rfl (by omega) (by omega) (by omega) ?_
                refine fz_iload_n kX11_judge rfl rfl ?_
                refine fz_sipush ⟨by decide, by decide⟩ kX11_judge rfl ?_
                refine fz_iremN kX11_judge rfl (by omega) (by omega) (by omega) ?_
                refine fz_callV (d' := 4) (M' := mX11_wrong) (As := [fz_i s, fz_i on, fz_i (th / 1000), fz_i (th % 1000)]) (st := []) kX11_judge rfl rfl vX11_wrong rfl rfl rfl rfl (Nat.le_of_ble_eq_true rfl) (Nat.le_of_ble_eq_true rfl) (by decide) (sX11_wrong H37 hI41 s on (th / 1000) (th % 1000) (by omega) (by omega)) (fun H44 r45 q46 o47 => ?_)
                obtain ⟨hI48, hf49, y51, rfl, f50⟩ := q46
                clear o47
                have hf52 := fz_fr_tr hf43 hf49 (show fz_su [(74, 99999), (75, 99999)] [(74, 99999), (75, 99999), (86, 99999), (87, 99999), (88, 99999)] = true from rfl)
                exact fz_iret kX11_judge rfl rfl (fun _ => ⟨hI48, hf52, _, rfl, (by omega)⟩)
              · refine fz_iload kX11_judge rfl rfl ?_
                exact fz_iret kX11_judge rfl rfl (fun _ => ⟨hI, hf, _, rfl, (by omega)⟩)
            · exfalso; omega
          · refine fz_if_ne (tgt := 24) kX11_judge rfl (by decide) (fun c53 => ?_) (fun c53 => ?_)
            · exfalso; omega
            · refine fz_iconst ⟨by decide, by decide⟩ kX11_judge rfl ?_
              exact fz_iret kX11_judge rfl rfl (fun _ => ⟨hI, hf, _, rfl, (by omega)⟩)
      · refine fz_if_eq (tgt := 22) kX11_judge rfl (by decide) (fun c54 => ?_) (fun c54 => ?_)
        · refine fz_iconst ⟨by decide, by decide⟩ kX11_judge rfl ?_
          exact fz_iret kX11_judge rfl rfl (fun _ => ⟨hI, hf, _, rfl, (by omega)⟩)
        · exfalso; omega
  · refine fz_if_eq (tgt := 22) kX11_judge rfl (by decide) (fun c55 => ?_) (fun c55 => ?_)
    · refine fz_iconst ⟨by decide, by decide⟩ kX11_judge rfl ?_
      exact fz_iret kX11_judge rfl rfl (fun _ => ⟨hI, hf, _, rfl, (by omega)⟩)
    · exfalso; omega

abbrev qX11_which (h : fz_H) (s on th wh : Int) : fz_H → Option fz_V → Prop := fun h' r0 => fz_Iv h' ∧ fz_fr [(60, 99999), (74, 99999), (75, 99999), (86, 99999), (87, 99999), (88, 99999)] h h' ∧ ∃ r : Int, r0 = some (fz_i r) ∧ ((-2147483648) ≤ r ∧ r ≤ 2147483647)
set_option maxHeartbeats 1000000 in
set_option maxRecDepth 100000 in
theorem sX11_which (h : fz_H) (hI : fz_Iv h) (s on th wh : Int) : fz_R 5 mX11_which 0 [(0, fz_r 53), (1, fz_i s), (2, fz_i on), (3, fz_i th), (4, fz_i wh)] [] h (qX11_which h s on th wh) := by
  refine fz_knowl (fun hk => ?_)
  have hr_s : -2147483648 ≤ s ∧ s < 2147483648 := hk _ (List.Mem.tail _ (List.Mem.head _))
  have hr_on : -2147483648 ≤ on ∧ on < 2147483648 := hk _ (List.Mem.tail _ (List.Mem.tail _ (List.Mem.head _)))
  have hr_th : -2147483648 ≤ th ∧ th < 2147483648 := hk _ (List.Mem.tail _ (List.Mem.tail _ (List.Mem.tail _ (List.Mem.head _))))
  have hr_wh : -2147483648 ≤ wh ∧ wh < 2147483648 := hk _ (List.Mem.tail _ (List.Mem.tail _ (List.Mem.tail _ (List.Mem.tail _ (List.Mem.head _)))))
  clear hk
  have hf : fz_fr [(60, 99999), (74, 99999), (75, 99999), (86, 99999), (87, 99999), (88, 99999)] h h := fz_fr_rf
  refine fz_iload_n kX11_which rfl rfl ?_
  refine fz_callS (d' := 1) (M' := mX11_isShelf) (As := [fz_i s]) (st := []) kX11_which rfl rfl vX11_isShelf rfl rfl (Nat.le_of_ble_eq_true rfl) (Nat.le_of_ble_eq_true rfl) (by decide) (sX11_isShelf h hI s ) (fun H1 r2 q3 o4 => ?_)
  obtain ⟨e5, y6, rfl, p7⟩ := q3
  subst H1
  clear o4
  rcases p7 with ⟨rfl, c8⟩ | ⟨rfl, c8⟩
  · refine fz_if_eq (tgt := 32) kX11_which rfl (by decide) (fun c9 => ?_) (fun c9 => ?_)
    · exfalso; omega
    · refine fz_iload_n kX11_which rfl rfl ?_
      refine fz_callS (d' := 1) (M' := mX11_isPerson) (As := [fz_i on]) (st := []) kX11_which rfl rfl vX11_isPerson rfl rfl (Nat.le_of_ble_eq_true rfl) (Nat.le_of_ble_eq_true rfl) (by decide) (sX11_isPerson h hI on ) (fun H10 r11 q12 o13 => ?_)
      obtain ⟨e14, y15, rfl, p16⟩ := q12
      subst H10
      clear o13
      rcases p16 with ⟨rfl, c17⟩ | ⟨rfl, c17⟩
      · refine fz_if_eq (tgt := 32) kX11_which rfl (by decide) (fun c18 => ?_) (fun c18 => ?_)
        · exfalso; omega
        · refine fz_aload_n kX11_which rfl rfl ?_
          refine fz_iload_n kX11_which rfl rfl ?_
          have b19 : 0 ≤ h 53 0 ∧ h 53 0 ≤ 8 := hI.1 53 _
          refine fz_callV (d' := 2) (M' := mX11_isWhen) (As := [fz_i th]) (st := []) kX11_which rfl rfl vX11_isWhen rfl rfl rfl rfl (Nat.le_of_ble_eq_true rfl) (Nat.le_of_ble_eq_true rfl) (by decide) (sX11_isWhen h hI th ) (fun H20 r21 q22 o23 => ?_)
          obtain ⟨e24, y25, rfl, p26⟩ := q22
          subst H20
          clear o23
          rcases p26 with ⟨rfl, c27⟩ | ⟨rfl, c27⟩
          · refine fz_if_eq (tgt := 32) kX11_which rfl (by decide) (fun c28 => ?_) (fun c28 => ?_)
            · exfalso; omega
            · refine fz_iload kX11_which rfl rfl ?_
              refine fz_iconst ⟨by decide, by decide⟩ kX11_which rfl ?_
              refine fz_iconst ⟨by decide, by decide⟩ kX11_which rfl ?_
              refine fz_callS (d' := 0) (M' := mX11_within) (As := [fz_i wh, fz_i 0, fz_i 2]) (st := []) kX11_which rfl rfl vX11_within rfl rfl (Nat.le_of_ble_eq_true rfl) (Nat.le_of_ble_eq_true rfl) (by decide) (sX11_within h hI wh 0 2 ) (fun H29 r30 q31 o32 => ?_)
              obtain ⟨e33, y34, rfl, p35⟩ := q31
              subst H29
              clear o32
              rcases p35 with ⟨rfl, c36⟩ | ⟨rfl, c36⟩
              · refine fz_if_ne (tgt := 34) kX11_which rfl (by decide) (fun c37 => ?_) (fun c37 => ?_)
                · refine fz_aload_n kX11_which rfl rfl ?_
                  refine fz_iload_n kX11_which rfl rfl ?_
                  refine fz_callV (d' := 0) (M' := mX11_noRow) (As := [fz_i s]) (st := []) kX11_which rfl rfl vX11_noRow rfl rfl rfl rfl (Nat.le_of_ble_eq_true rfl) (Nat.le_of_ble_eq_true rfl) (by decide) (sX11_noRow h hI s (by omega)) (fun H38 r39 q40 o41 => ?_)
                  obtain ⟨e42, y44, rfl, f43⟩ := q40
                  subst H38
                  clear o41
                  refine fz_istore (ls' := [(5, fz_i y44), (0, fz_r 53), (1, fz_i s), (2, fz_i on), (3, fz_i th), (4, fz_i wh)]) kX11_which rfl (by decide) rfl ?_
                  refine fz_iload kX11_which rfl rfl ?_
                  refine fz_if_ge (tgt := 49) kX11_which rfl (by decide) (fun c45 => ?_) (fun c45 => ?_)
                  · refine fz_aload_n kX11_which rfl rfl ?_
                    refine fz_callV (d' := 3) (M' := mX11_allHear) (As := []) (st := []) kX11_which rfl rfl vX11_allHear rfl rfl rfl rfl (Nat.le_of_ble_eq_true rfl) (Nat.le_of_ble_eq_true rfl) (by decide) (sX11_allHear h hI  ) (fun H46 r47 q48 o49 => ?_)
                    obtain ⟨hI50, hf51, rfl⟩ := q48
                    clear o49
                    have hf52 := fz_fr_tr hf hf51 (show fz_su [(86, 99999), (87, 99999), (88, 99999)] [(60, 99999), (74, 99999), (75, 99999), (86, 99999), (87, 99999), (88, 99999)] = true from rfl)
                    refine fz_aload_n kX11_which rfl rfl ?_
                    refine fz_iload_n kX11_which rfl rfl ?_
                    refine fz_callV (d' := 0) (M' := mX11_deedsOf) (As := [fz_i on]) (st := []) kX11_which rfl rfl vX11_deedsOf rfl rfl rfl rfl (Nat.le_of_ble_eq_true rfl) (Nat.le_of_ble_eq_true rfl) (by decide) (sX11_deedsOf H46 hI50 on ) (fun H53 r54 q55 o56 => ?_)
                    obtain ⟨e57, y60, rfl, f58, f59⟩ := q55
                    subst H53
                    clear o56
                    refine fz_istore (ls' := [(6, fz_i y60), (5, fz_i y44), (0, fz_r 53), (1, fz_i s), (2, fz_i on), (3, fz_i th), (4, fz_i wh)]) kX11_which rfl (by decide) rfl ?_
                    refine fz_iconst ⟨by decide, by decide⟩ kX11_which rfl ?_
                    refine fz_istore (ls' := [(7, fz_i 0), (6, fz_i y60), (5, fz_i y44), (0, fz_r 53), (1, fz_i s), (2, fz_i on), (3, fz_i th), (4, fz_i wh)]) kX11_which rfl (by decide) rfl ?_
                    refine fz_bipush ⟨by decide, by decide⟩ kX11_which rfl ?_
                    refine fz_istore (ls' := [(8, fz_i (-2)), (7, fz_i 0), (6, fz_i y60), (5, fz_i y44), (0, fz_r 53), (1, fz_i s), (2, fz_i on), (3, fz_i th), (4, fz_i wh)]) kX11_which rfl (by decide) rfl ?_
                    refine fz_iload kX11_which rfl rfl ?_
                    refine fz_istore (ls' := [(9, fz_i y60), (8, fz_i (-2)), (7, fz_i 0), (6, fz_i y60), (5, fz_i y44), (0, fz_r 53), (1, fz_i s), (2, fz_i on), (3, fz_i th), (4, fz_i wh)]) kX11_which rfl (by decide) rfl ?_
                    refine fz_iload kX11_which rfl rfl ?_
                    refine fz_istore (ls' := [(10, fz_i y60), (9, fz_i y60), (8, fz_i (-2)), (7, fz_i 0), (6, fz_i y60), (5, fz_i y44), (0, fz_r 53), (1, fz_i s), (2, fz_i on), (3, fz_i th), (4, fz_i wh)]) kX11_which rfl (by decide) rfl ?_
                    have lp69 : ∀ (n68 : Nat) (x61 : Int) (x62 : Int) (x63 : Int) (x64 : Int) (H65 : fz_H), fz_Iv H65 → fz_fr [(60, 99999), (74, 99999), (75, 99999), (86, 99999), (87, 99999), (88, 99999)] h H65 → ((-1) ≤ x61 ∧ x61 ≤ 2047) → ((-2147483648) ≤ x62 ∧ x62 ≤ 2147483647) → ((-2147483648) ≤ x63 ∧ x63 ≤ 2147483647) → (0 ≤ x64 ∧ x64 ≤ 2048) → (x64 + x61 ≤ 2047) → (x61 + 1 - 0).toNat < n68 → fz_R 5 mX11_which 75 [(10, fz_i x61), (9, fz_i x62), (8, fz_i x63), (7, fz_i x64), (6, fz_i y60), (5, fz_i y44), (0, fz_r 53), (1, fz_i s), (2, fz_i on), (3, fz_i th), (4, fz_i wh)] [] H65 (qX11_which h s on th wh) := by
                      intro n68
                      induction n68 with
                      | zero => intro x61 x62 x63 x64 H65 hI66 hf67 hv72 hv73 hv74 hv75 hv76 hm71; exact absurd hm71 (by omega)
                      | succ n68 ih70 =>
                        intro x61 x62 x63 x64 H65 hI66 hf67 hv72 hv73 hv74 hv75 hv76 hm71
                        refine fz_iload kX11_which rfl rfl ?_
                        refine fz_if_lt (tgt := 169) kX11_which rfl (by decide) (fun c77 => ?_) (fun c77 => ?_)
                        · refine fz_iload kX11_which rfl rfl ?_
                          refine fz_if_ne (tgt := 179) kX11_which rfl (by decide) (fun c78 => ?_) (fun c78 => ?_)
                          · refine fz_iload kX11_which rfl rfl ?_
                            refine fz_iconst ⟨by decide, by decide⟩ kX11_which rfl ?_
                            refine fz_icmp_eq (tgt := 190) kX11_which rfl (by decide) (fun c79 => ?_) (fun c79 => ?_)
                            · refine fz_iload kX11_which rfl rfl ?_
                              refine fz_goto (tgt := 197) kX11_which rfl (by decide) ?_
                              exact fz_iret kX11_which rfl rfl (fun _ => ⟨hI66, hf67, _, rfl, (by omega)⟩)
                            · refine fz_iload kX11_which rfl rfl ?_
                              refine fz_if_ne (tgt := 195) kX11_which rfl (by decide) (fun c80 => ?_) (fun c80 => ?_)
                              · refine fz_iload kX11_which rfl rfl ?_
                                exact fz_iret kX11_which rfl rfl (fun _ => ⟨hI66, hf67, _, rfl, (by omega)⟩)
                              · refine fz_iload kX11_which rfl rfl ?_
                                refine fz_goto (tgt := 197) kX11_which rfl (by decide) ?_
                                exact fz_iret kX11_which rfl rfl (fun _ => ⟨hI66, hf67, _, rfl, (by omega)⟩)
                          · refine fz_iload kX11_which rfl rfl ?_
                            refine fz_goto (tgt := 197) kX11_which rfl (by decide) ?_
                            exact fz_iret kX11_which rfl rfl (fun _ => ⟨hI66, hf67, _, rfl, (by omega)⟩)
                        · refine fz_iload kX11_which rfl rfl ?_
                          refine fz_iload kX11_which rfl rfl ?_
                          refine fz_iconst ⟨by decide, by decide⟩ kX11_which rfl ?_
                          refine fz_ixor kX11_which rfl ?_
                          have b81 : -2147483648 ≤ (fz_xor y60 (-1)) ∧ (fz_xor y60 (-1)) < 2147483648 := fz_b32 _
                          refine fz_iand kX11_which rfl ?_
                          have b82 : -2147483648 ≤ (fz_and x61 (fz_xor y60 (-1))) ∧ (fz_and x61 (fz_xor y60 (-1))) < 2147483648 := fz_b32 _
                          refine fz_if_eq (tgt := 93) kX11_which rfl (by decide) (fun c83 => ?_) (fun c83 => ?_)
                          · refine fz_aload_n kX11_which rfl rfl ?_
                            refine fz_iload kX11_which rfl rfl ?_
                            refine fz_iload kX11_which rfl rfl ?_
                            refine fz_iconst ⟨by decide, by decide⟩ kX11_which rfl ?_
                            refine fz_ixor kX11_which rfl ?_
                            have b84 : -2147483648 ≤ (fz_xor x61 (-1)) ∧ (fz_xor x61 (-1)) < 2147483648 := fz_b32 _
                            refine fz_iand kX11_which rfl ?_
                            have b85 : -2147483648 ≤ (fz_and y60 (fz_xor x61 (-1))) ∧ (fz_and y60 (fz_xor x61 (-1))) < 2147483648 := fz_b32 _
                            refine fz_bipush ⟨by decide, by decide⟩ kX11_which rfl ?_
                            refine fz_callV (d' := 0) (M' := mX11_forgets) (As := [fz_i (fz_and y60 (fz_xor x61 (-1))), fz_i (-2)]) (st := []) kX11_which rfl rfl vX11_forgets rfl rfl rfl rfl (Nat.le_of_ble_eq_true rfl) (Nat.le_of_ble_eq_true rfl) (by decide) (sX11_forgets H65 hI66 (fz_and y60 (fz_xor x61 (-1))) (-2) ) (fun H86 r87 q88 o89 => ?_)
                            obtain ⟨hI90, hf91, rfl⟩ := q88
                            clear o89
                            have hf92 := fz_fr_tr hf67 hf91 (show fz_su [(60, 99999)] [(60, 99999), (74, 99999), (75, 99999), (86, 99999), (87, 99999), (88, 99999)] = true from rfl)
                            refine fz_aload_n kX11_which rfl rfl ?_
                            refine fz_iload_n kX11_which rfl rfl ?_
                            refine fz_iload_n kX11_which rfl rfl ?_
                            refine fz_iload_n kX11_which rfl rfl ?_
                            refine fz_sipush ⟨by decide, by decide⟩ kX11_which rfl ?_
                            refine fz_idivN kX11_which rfl (by omega) (by omega) (by omega) ?_
                            refine fz_iload_n kX11_which rfl rfl ?_
                            refine fz_sipush ⟨by decide, by decide⟩ kX11_which rfl ?_
                            refine fz_iremN kX11_which rfl (by omega) (by omega) (by omega) ?_
                            refine fz_callV (d' := 4) (M' := mX11_wrong) (As := [fz_i s, fz_i on, fz_i (th / 1000), fz_i (th % 1000)]) (st := []) kX11_which rfl rfl vX11_wrong rfl rfl rfl rfl (Nat.le_of_ble_eq_true rfl) (Nat.le_of_ble_eq_true rfl) (by decide) (sX11_wrong H86 hI90 s on (th / 1000) (th % 1000) (by omega) (by omega)) (fun H93 r94 q95 o96 => ?_)
                            obtain ⟨hI97, hf98, y100, rfl, f99⟩ := q95
                            clear o96
                            have hf101 := fz_fr_tr hf92 hf98 (show fz_su [(74, 99999), (75, 99999)] [(60, 99999), (74, 99999), (75, 99999), (86, 99999), (87, 99999), (88, 99999)] = true from rfl)
                            refine fz_bipush ⟨by decide, by decide⟩ kX11_which rfl ?_
                            refine fz_icmp_ne (tgt := 131) kX11_which rfl (by decide) (fun c102 => ?_) (fun c102 => ?_)
                            · refine fz_iconst ⟨by decide, by decide⟩ kX11_which rfl ?_
                              refine fz_istore (ls' := [(11, fz_i 0), (10, fz_i x61), (9, fz_i x62), (8, fz_i x63), (7, fz_i x64), (6, fz_i y60), (5, fz_i y44), (0, fz_r 53), (1, fz_i s), (2, fz_i on), (3, fz_i th), (4, fz_i wh)]) kX11_which rfl (by decide) rfl ?_
                              refine fz_aload_n kX11_which rfl rfl ?_
                              refine fz_iload kX11_which rfl rfl ?_
                              refine fz_iload_n kX11_which rfl rfl ?_
                              refine fz_callV (d' := 0) (M' := mX11_forgets) (As := [fz_i y60, fz_i on]) (st := []) kX11_which rfl rfl vX11_forgets rfl rfl rfl rfl (Nat.le_of_ble_eq_true rfl) (Nat.le_of_ble_eq_true rfl) (by decide) (sX11_forgets H93 hI97 y60 on ) (fun H103 r104 q105 o106 => ?_)
                              obtain ⟨hI107, hf108, rfl⟩ := q105
                              clear o106
                              have hf109 := fz_fr_tr hf101 hf108 (show fz_su [(60, 99999)] [(60, 99999), (74, 99999), (75, 99999), (86, 99999), (87, 99999), (88, 99999)] = true from rfl)
                              refine fz_iload kX11_which rfl rfl ?_
                              refine fz_if_ne (tgt := 149) kX11_which rfl (by decide) (fun c110 => ?_) (fun c110 => ?_)
                              · exfalso; omega
                              · refine fz_goto (tgt := 163) kX11_which rfl (by decide) ?_
                                refine fz_iincN (ls' := [(10, fz_i (x61 + (-1))), (11, fz_i 0), (9, fz_i x62), (8, fz_i x63), (7, fz_i x64), (6, fz_i y60), (5, fz_i y44), (0, fz_r 53), (1, fz_i s), (2, fz_i on), (3, fz_i th), (4, fz_i wh)]) kX11_which rfl (by decide) rfl (by omega) rfl ?_
                                refine fz_goto (tgt := 75) kX11_which rfl (by decide) ?_
                                refine fz_sub (fz_pk_sub (ls' := [(10, fz_i (x61 + (-1))), (9, fz_i x62), (8, fz_i x63), (7, fz_i x64), (6, fz_i y60), (5, fz_i y44), (0, fz_r 53), (1, fz_i s), (2, fz_i on), (3, fz_i th), (4, fz_i wh)]) [0, 2, 3, 4, 5, 6, 7, 8, 9, 10, 11] rfl) ?_
                                exact ih70 (x61 + (-1)) x62 x63 x64 H103 hI107 hf109 (by omega) (by omega) (by omega) (by omega) (by omega) (by omega)
                            · refine fz_iconst ⟨by decide, by decide⟩ kX11_which rfl ?_
                              refine fz_goto (tgt := 132) kX11_which rfl (by decide) ?_
                              refine fz_istore (ls' := [(11, fz_i 1), (10, fz_i x61), (9, fz_i x62), (8, fz_i x63), (7, fz_i x64), (6, fz_i y60), (5, fz_i y44), (0, fz_r 53), (1, fz_i s), (2, fz_i on), (3, fz_i th), (4, fz_i wh)]) kX11_which rfl (by decide) rfl ?_
                              refine fz_aload_n kX11_which rfl rfl ?_
                              refine fz_iload kX11_which rfl rfl ?_
                              refine fz_iload_n kX11_which rfl rfl ?_
                              refine fz_callV (d' := 0) (M' := mX11_forgets) (As := [fz_i y60, fz_i on]) (st := []) kX11_which rfl rfl vX11_forgets rfl rfl rfl rfl (Nat.le_of_ble_eq_true rfl) (Nat.le_of_ble_eq_true rfl) (by decide) (sX11_forgets H93 hI97 y60 on ) (fun H111 r112 q113 o114 => ?_)
                              obtain ⟨hI115, hf116, rfl⟩ := q113
                              clear o114
                              have hf117 := fz_fr_tr hf101 hf116 (show fz_su [(60, 99999)] [(60, 99999), (74, 99999), (75, 99999), (86, 99999), (87, 99999), (88, 99999)] = true from rfl)
                              refine fz_iload kX11_which rfl rfl ?_
                              refine fz_if_ne (tgt := 149) kX11_which rfl (by decide) (fun c118 => ?_) (fun c118 => ?_)
                              · refine fz_iincN (ls' := [(7, fz_i (x64 + 1)), (11, fz_i 1), (10, fz_i x61), (9, fz_i x62), (8, fz_i x63), (6, fz_i y60), (5, fz_i y44), (0, fz_r 53), (1, fz_i s), (2, fz_i on), (3, fz_i th), (4, fz_i wh)]) kX11_which rfl (by decide) rfl (by omega) rfl ?_
                                refine fz_iload kX11_which rfl rfl ?_
                                refine fz_istore (ls' := [(8, fz_i x61), (7, fz_i (x64 + 1)), (11, fz_i 1), (10, fz_i x61), (9, fz_i x62), (6, fz_i y60), (5, fz_i y44), (0, fz_r 53), (1, fz_i s), (2, fz_i on), (3, fz_i th), (4, fz_i wh)]) kX11_which rfl (by decide) rfl ?_
                                refine fz_iload kX11_which rfl rfl ?_
                                refine fz_iload kX11_which rfl rfl ?_
                                refine fz_iand kX11_which rfl ?_
                                have b119 : -2147483648 ≤ (fz_and x62 x61) ∧ (fz_and x62 x61) < 2147483648 := fz_b32 _
                                refine fz_istore (ls' := [(9, fz_i (fz_and x62 x61)), (8, fz_i x61), (7, fz_i (x64 + 1)), (11, fz_i 1), (10, fz_i x61), (6, fz_i y60), (5, fz_i y44), (0, fz_r 53), (1, fz_i s), (2, fz_i on), (3, fz_i th), (4, fz_i wh)]) kX11_which rfl (by decide) rfl ?_
                                refine fz_iincN (ls' := [(10, fz_i (x61 + (-1))), (9, fz_i (fz_and x62 x61)), (8, fz_i x61), (7, fz_i (x64 + 1)), (11, fz_i 1), (6, fz_i y60), (5, fz_i y44), (0, fz_r 53), (1, fz_i s), (2, fz_i on), (3, fz_i th), (4, fz_i wh)]) kX11_which rfl (by decide) rfl (by omega) rfl ?_
                                refine fz_goto (tgt := 75) kX11_which rfl (by decide) ?_
                                refine fz_sub (fz_pk_sub (ls' := [(10, fz_i (x61 + (-1))), (9, fz_i (fz_and x62 x61)), (8, fz_i x61), (7, fz_i (x64 + 1)), (6, fz_i y60), (5, fz_i y44), (0, fz_r 53), (1, fz_i s), (2, fz_i on), (3, fz_i th), (4, fz_i wh)]) [0, 1, 2, 3, 5, 6, 7, 8, 9, 10, 11] rfl) ?_
                                exact ih70 (x61 + (-1)) (fz_and x62 x61) x61 (x64 + 1) H111 hI115 hf117 (by omega) (by omega) (by omega) (by omega) (by omega) (by omega)
                              · exfalso; omega
                          · refine fz_goto (tgt := 163) kX11_which rfl (by decide) ?_
                            refine fz_iincN (ls' := [(10, fz_i (x61 + (-1))), (9, fz_i x62), (8, fz_i x63), (7, fz_i x64), (6, fz_i y60), (5, fz_i y44), (0, fz_r 53), (1, fz_i s), (2, fz_i on), (3, fz_i th), (4, fz_i wh)]) kX11_which rfl (by decide) rfl (by omega) rfl ?_
                            refine fz_goto (tgt := 75) kX11_which rfl (by decide) ?_
                            exact ih70 (x61 + (-1)) x62 x63 x64 H65 hI66 hf67 (by omega) (by omega) (by omega) (by omega) (by omega) (by omega)
                    exact lp69 _ y60 y60 (-2) 0 H46 hI50 hf52 (by omega) (by omega) (by omega) (by omega) (by omega) (Nat.lt_succ_self _)
                  · refine fz_iload kX11_which rfl rfl ?_
                    exact fz_iret kX11_which rfl rfl (fun _ => ⟨hI, hf, _, rfl, (by omega)⟩)
                · exfalso; omega
              · refine fz_if_ne (tgt := 34) kX11_which rfl (by decide) (fun c120 => ?_) (fun c120 => ?_)
                · exfalso; omega
                · refine fz_iconst ⟨by decide, by decide⟩ kX11_which rfl ?_
                  exact fz_iret kX11_which rfl rfl (fun _ => ⟨hI, hf, _, rfl, (by omega)⟩)
          · refine fz_if_eq (tgt := 32) kX11_which rfl (by decide) (fun c121 => ?_) (fun c121 => ?_)
            · refine fz_iconst ⟨by decide, by decide⟩ kX11_which rfl ?_
              exact fz_iret kX11_which rfl rfl (fun _ => ⟨hI, hf, _, rfl, (by omega)⟩)
            · exfalso; omega
      · refine fz_if_eq (tgt := 32) kX11_which rfl (by decide) (fun c122 => ?_) (fun c122 => ?_)
        · refine fz_iconst ⟨by decide, by decide⟩ kX11_which rfl ?_
          exact fz_iret kX11_which rfl rfl (fun _ => ⟨hI, hf, _, rfl, (by omega)⟩)
        · exfalso; omega
  · refine fz_if_eq (tgt := 32) kX11_which rfl (by decide) (fun c123 => ?_) (fun c123 => ?_)
    · refine fz_iconst ⟨by decide, by decide⟩ kX11_which rfl ?_
      exact fz_iret kX11_which rfl rfl (fun _ => ⟨hI, hf, _, rfl, (by omega)⟩)
    · exfalso; omega

abbrev qX11_first (h : fz_H) (pm tx wh : Int) : fz_H → Option fz_V → Prop := fun h' r0 => fz_Iv h' ∧ fz_fr [(74, 99999), (75, 99999), (86, 99999), (87, 99999), (88, 99999)] h h' ∧ ∃ r : Int, r0 = some (fz_i r) ∧ ((-2147483648) ≤ r ∧ r ≤ 2147483647)
set_option maxHeartbeats 1000000 in
set_option maxRecDepth 100000 in
theorem sX11_first (h : fz_H) (hI : fz_Iv h) (pm tx wh : Int) : fz_R 4 mX11_first 0 [(0, fz_r 53), (1, fz_i pm), (2, fz_i tx), (3, fz_i wh)] [] h (qX11_first h pm tx wh) := by
  refine fz_knowl (fun hk => ?_)
  have hr_pm : -2147483648 ≤ pm ∧ pm < 2147483648 := hk _ (List.Mem.tail _ (List.Mem.head _))
  have hr_tx : -2147483648 ≤ tx ∧ tx < 2147483648 := hk _ (List.Mem.tail _ (List.Mem.tail _ (List.Mem.head _)))
  have hr_wh : -2147483648 ≤ wh ∧ wh < 2147483648 := hk _ (List.Mem.tail _ (List.Mem.tail _ (List.Mem.tail _ (List.Mem.head _))))
  clear hk
  have hf : fz_fr [(74, 99999), (75, 99999), (86, 99999), (87, 99999), (88, 99999)] h h := fz_fr_rf
  refine fz_iload_n kX11_first rfl rfl ?_
  refine fz_callS (d' := 2) (M' := mX11_isMarked) (As := [fz_i pm]) (st := []) kX11_first rfl rfl vX11_isMarked rfl rfl (Nat.le_of_ble_eq_true rfl) (Nat.le_of_ble_eq_true rfl) (by decide) (sX11_isMarked h hI pm ) (fun H1 r2 q3 o4 => ?_)
  obtain ⟨e5, y6, rfl, p7⟩ := q3
  subst H1
  clear o4
  rcases p7 with ⟨rfl, c8⟩ | ⟨rfl, c8⟩
  · refine fz_if_eq (tgt := 38) kX11_first rfl (by decide) (fun c9 => ?_) (fun c9 => ?_)
    · exfalso; omega
    · refine fz_iload_n kX11_first rfl rfl ?_
      refine fz_if_lt (tgt := 38) kX11_first rfl (by decide) (fun c10 => ?_) (fun c10 => ?_)
      · refine fz_iconst ⟨by decide, by decide⟩ kX11_first rfl ?_
        exact fz_iret kX11_first rfl rfl (fun _ => ⟨hI, hf, _, rfl, (by omega)⟩)
      · refine fz_aload_n kX11_first rfl rfl ?_
        refine fz_iload_n kX11_first rfl rfl ?_
        refine fz_bipush ⟨by decide, by decide⟩ kX11_first rfl ?_
        refine fz_idivN kX11_first rfl (by omega) (by omega) (by omega) ?_
        have b11 : 0 ≤ h 53 0 ∧ h 53 0 ≤ 8 := hI.1 53 _
        refine fz_callV (d' := 1) (M' := mX11_isTown) (As := [fz_i (tx / 100)]) (st := []) kX11_first rfl rfl vX11_isTown rfl rfl rfl rfl (Nat.le_of_ble_eq_true rfl) (Nat.le_of_ble_eq_true rfl) (by decide) (sX11_isTown h hI (tx / 100) ) (fun H12 r13 q14 o15 => ?_)
        obtain ⟨e16, y17, rfl, p18⟩ := q14
        subst H12
        clear o15
        rcases p18 with ⟨rfl, c19⟩ | ⟨rfl, c19⟩
        · refine fz_if_eq (tgt := 38) kX11_first rfl (by decide) (fun c20 => ?_) (fun c20 => ?_)
          · exfalso; omega
          · refine fz_iload_n kX11_first rfl rfl ?_
            refine fz_bipush ⟨by decide, by decide⟩ kX11_first rfl ?_
            refine fz_iremN kX11_first rfl (by omega) (by omega) (by omega) ?_
            refine fz_if_eq (tgt := 38) kX11_first rfl (by decide) (fun c21 => ?_) (fun c21 => ?_)
            · refine fz_iconst ⟨by decide, by decide⟩ kX11_first rfl ?_
              exact fz_iret kX11_first rfl rfl (fun _ => ⟨hI, hf, _, rfl, (by omega)⟩)
            · refine fz_iload_n kX11_first rfl rfl ?_
              refine fz_iconst ⟨by decide, by decide⟩ kX11_first rfl ?_
              refine fz_iconst ⟨by decide, by decide⟩ kX11_first rfl ?_
              refine fz_callS (d' := 0) (M' := mX11_within) (As := [fz_i wh, fz_i 0, fz_i 1]) (st := []) kX11_first rfl rfl vX11_within rfl rfl (Nat.le_of_ble_eq_true rfl) (Nat.le_of_ble_eq_true rfl) (by decide) (sX11_within h hI wh 0 1 ) (fun H22 r23 q24 o25 => ?_)
              obtain ⟨e26, y27, rfl, p28⟩ := q24
              subst H22
              clear o25
              rcases p28 with ⟨rfl, c29⟩ | ⟨rfl, c29⟩
              · refine fz_if_ne (tgt := 40) kX11_first rfl (by decide) (fun c30 => ?_) (fun c30 => ?_)
                · refine fz_aload_n kX11_first rfl rfl ?_
                  refine fz_callV (d' := 3) (M' := mX11_allHear) (As := []) (st := []) kX11_first rfl rfl vX11_allHear rfl rfl rfl rfl (Nat.le_of_ble_eq_true rfl) (Nat.le_of_ble_eq_true rfl) (by decide) (sX11_allHear h hI  ) (fun H31 r32 q33 o34 => ?_)
                  obtain ⟨hI35, hf36, rfl⟩ := q33
                  clear o34
                  have hf37 := fz_fr_tr hf hf36 (show fz_su [(86, 99999), (87, 99999), (88, 99999)] [(74, 99999), (75, 99999), (86, 99999), (87, 99999), (88, 99999)] = true from rfl)
                  refine fz_bipush ⟨by decide, by decide⟩ kX11_first rfl ?_
                  refine fz_istore (ls' := [(4, fz_i (-2)), (0, fz_r 53), (1, fz_i pm), (2, fz_i tx), (3, fz_i wh)]) kX11_first rfl (by decide) rfl ?_
                  refine fz_iconst ⟨by decide, by decide⟩ kX11_first rfl ?_
                  refine fz_istore (ls' := [(5, fz_i 0), (4, fz_i (-2)), (0, fz_r 53), (1, fz_i pm), (2, fz_i tx), (3, fz_i wh)]) kX11_first rfl (by decide) rfl ?_
                  have lp44 : ∀ (n43 : Nat) (x38 : Int) (x39 : Int) (H40 : fz_H), fz_Iv H40 → fz_fr [(74, 99999), (75, 99999), (86, 99999), (87, 99999), (88, 99999)] h H40 → (0 ≤ x38 ∧ x38 ≤ 2147483647) → ((-2147483648) ≤ x39 ∧ x39 ≤ 2147483647) → (1000 - x38).toNat < n43 → fz_R 4 mX11_first 51 [(5, fz_i x38), (4, fz_i x39), (0, fz_r 53), (1, fz_i pm), (2, fz_i tx), (3, fz_i wh)] [] H40 (qX11_first h pm tx wh) := by
                    intro n43
                    induction n43 with
                    | zero => intro x38 x39 H40 hI41 hf42 hv47 hv48 hm46; exact absurd hm46 (by omega)
                    | succ n43 ih45 =>
                      intro x38 x39 H40 hI41 hf42 hv47 hv48 hm46
                      refine fz_iload kX11_first rfl rfl ?_
                      refine fz_sipush ⟨by decide, by decide⟩ kX11_first rfl ?_
                      refine fz_icmp_ge (tgt := 104) kX11_first rfl (by decide) (fun c49 => ?_) (fun c49 => ?_)
                      · refine fz_iload kX11_first rfl rfl ?_
                        exact fz_iret kX11_first rfl rfl (fun _ => ⟨hI41, hf42, _, rfl, (by omega)⟩)
                      · refine fz_aload_n kX11_first rfl rfl ?_
                        refine fz_iload_n kX11_first rfl rfl ?_
                        refine fz_bipush ⟨by decide, by decide⟩ kX11_first rfl ?_
                        refine fz_idivN kX11_first rfl (by omega) (by omega) (by omega) ?_
                        refine fz_iload_n kX11_first rfl rfl ?_
                        refine fz_bipush ⟨by decide, by decide⟩ kX11_first rfl ?_
                        refine fz_iremN kX11_first rfl (by omega) (by omega) (by omega) ?_
                        refine fz_iload_n kX11_first rfl rfl ?_
                        refine fz_bipush ⟨by decide, by decide⟩ kX11_first rfl ?_
                        refine fz_idivN kX11_first rfl (by omega) (by omega) (by omega) ?_
                        refine fz_iload kX11_first rfl rfl ?_
                        refine fz_callV (d' := 3) (M' := mX11_saidOf) (As := [fz_i (pm / 10), fz_i (pm % 10), fz_i (tx / 100), fz_i x38]) (st := []) kX11_first rfl rfl vX11_saidOf rfl rfl rfl rfl (Nat.le_of_ble_eq_true rfl) (Nat.le_of_ble_eq_true rfl) (by decide) (sX11_saidOf H40 hI41 (pm / 10) (pm % 10) (tx / 100) x38 (by omega)) (fun H50 r51 q52 o53 => ?_)
                        obtain ⟨hI54, hf55, y57, rfl, f56⟩ := q52
                        clear o53
                        have hf58 := fz_fr_tr hf42 hf55 (show fz_su [(74, 99999), (75, 99999)] [(74, 99999), (75, 99999), (86, 99999), (87, 99999), (88, 99999)] = true from rfl)
                        refine fz_iload_n kX11_first rfl rfl ?_
                        refine fz_bipush ⟨by decide, by decide⟩ kX11_first rfl ?_
                        refine fz_iremN kX11_first rfl (by omega) (by omega) (by omega) ?_
                        refine fz_icmp_ge (tgt := 87) kX11_first rfl (by decide) (fun c59 => ?_) (fun c59 => ?_)
                        · refine fz_iload kX11_first rfl rfl ?_
                          refine fz_istore (ls' := [(4, fz_i x38), (5, fz_i x38), (0, fz_r 53), (1, fz_i pm), (2, fz_i tx), (3, fz_i wh)]) kX11_first rfl (by decide) rfl ?_
                          refine fz_iload_n kX11_first rfl rfl ?_
                          refine fz_if_ne (tgt := 98) kX11_first rfl (by decide) (fun c60 => ?_) (fun c60 => ?_)
                          · refine fz_iincN (ls' := [(5, fz_i (x38 + 1)), (4, fz_i x38), (0, fz_r 53), (1, fz_i pm), (2, fz_i tx), (3, fz_i wh)]) kX11_first rfl (by decide) rfl (by omega) rfl ?_
                            refine fz_goto (tgt := 51) kX11_first rfl (by decide) ?_
                            exact ih45 (x38 + 1) x38 H50 hI54 hf58 (by omega) (by omega) (by omega)
                          · refine fz_iload kX11_first rfl rfl ?_
                            exact fz_iret kX11_first rfl rfl (fun _ => ⟨hI54, hf58, _, rfl, (by omega)⟩)
                        · refine fz_goto (tgt := 98) kX11_first rfl (by decide) ?_
                          refine fz_iincN (ls' := [(5, fz_i (x38 + 1)), (4, fz_i x39), (0, fz_r 53), (1, fz_i pm), (2, fz_i tx), (3, fz_i wh)]) kX11_first rfl (by decide) rfl (by omega) rfl ?_
                          refine fz_goto (tgt := 51) kX11_first rfl (by decide) ?_
                          exact ih45 (x38 + 1) x39 H50 hI54 hf58 (by omega) (by omega) (by omega)
                  exact lp44 _ 0 (-2) H31 hI35 hf37 (by omega) (by omega) (Nat.lt_succ_self _)
                · exfalso; omega
              · refine fz_if_ne (tgt := 40) kX11_first rfl (by decide) (fun c61 => ?_) (fun c61 => ?_)
                · exfalso; omega
                · refine fz_iconst ⟨by decide, by decide⟩ kX11_first rfl ?_
                  exact fz_iret kX11_first rfl rfl (fun _ => ⟨hI, hf, _, rfl, (by omega)⟩)
        · refine fz_if_eq (tgt := 38) kX11_first rfl (by decide) (fun c62 => ?_) (fun c62 => ?_)
          · refine fz_iconst ⟨by decide, by decide⟩ kX11_first rfl ?_
            exact fz_iret kX11_first rfl rfl (fun _ => ⟨hI, hf, _, rfl, (by omega)⟩)
          · exfalso; omega
  · refine fz_if_eq (tgt := 38) kX11_first rfl (by decide) (fun c63 => ?_) (fun c63 => ?_)
    · refine fz_iconst ⟨by decide, by decide⟩ kX11_first rfl ?_
      exact fz_iret kX11_first rfl rfl (fun _ => ⟨hI, hf, _, rfl, (by omega)⟩)
    · exfalso; omega

abbrev qX11_news (h : fz_H) (d hr : Int) : fz_H → Option fz_V → Prop := fun h' r0 => fz_Iv h' ∧ fz_fr [(86, 99999), (87, 99999)] h h' ∧ ∃ r : Int, r0 = some (fz_i r) ∧ ((-2) ≤ r ∧ r ≤ 8)
set_option maxHeartbeats 1000000 in
set_option maxRecDepth 100000 in
theorem sX11_news (h : fz_H) (hI : fz_Iv h) (d hr : Int) : fz_R 3 mX11_news 0 [(0, fz_r 53), (1, fz_i d), (2, fz_i hr)] [] h (qX11_news h d hr) := by
  refine fz_knowl (fun hk => ?_)
  have hr_d : -2147483648 ≤ d ∧ d < 2147483648 := hk _ (List.Mem.tail _ (List.Mem.head _))
  have hr_hr : -2147483648 ≤ hr ∧ hr < 2147483648 := hk _ (List.Mem.tail _ (List.Mem.tail _ (List.Mem.head _)))
  clear hk
  have hf : fz_fr [(86, 99999), (87, 99999)] h h := fz_fr_rf
  refine fz_aload_n kX11_news rfl rfl ?_
  refine fz_iload_n kX11_news rfl rfl ?_
  have b1 : 0 ≤ h 53 10 ∧ h 53 10 ≤ 11 := hI.1 53 _
  refine fz_callV (d' := 1) (M' := mX11_isDeed) (As := [fz_i d]) (st := []) kX11_news rfl rfl vX11_isDeed rfl rfl rfl rfl (Nat.le_of_ble_eq_true rfl) (Nat.le_of_ble_eq_true rfl) (by decide) (sX11_isDeed h hI d ) (fun H2 r3 q4 o5 => ?_)
  obtain ⟨e6, y7, rfl, p8⟩ := q4
  subst H2
  clear o5
  rcases p8 with ⟨rfl, c9⟩ | ⟨rfl, c9⟩
  · refine fz_if_eq (tgt := 20) kX11_news rfl (by decide) (fun c10 => ?_) (fun c10 => ?_)
    · exfalso; omega
    · refine fz_iload_n kX11_news rfl rfl ?_
      refine fz_bipush ⟨by decide, by decide⟩ kX11_news rfl ?_
      refine fz_sipush ⟨by decide, by decide⟩ kX11_news rfl ?_
      refine fz_callS (d' := 0) (M' := mX11_within) (As := [fz_i hr, fz_i (-2), fz_i 999]) (st := []) kX11_news rfl rfl vX11_within rfl rfl (Nat.le_of_ble_eq_true rfl) (Nat.le_of_ble_eq_true rfl) (by decide) (sX11_within h hI hr (-2) 999 ) (fun H11 r12 q13 o14 => ?_)
      obtain ⟨e15, y16, rfl, p17⟩ := q13
      subst H11
      clear o14
      rcases p17 with ⟨rfl, c18⟩ | ⟨rfl, c18⟩
      · refine fz_if_ne (tgt := 22) kX11_news rfl (by decide) (fun c19 => ?_) (fun c19 => ?_)
        · refine fz_bipush ⟨by decide, by decide⟩ kX11_news rfl ?_
          refine fz_istore_n (ls' := [(3, fz_i (-2)), (0, fz_r 53), (1, fz_i d), (2, fz_i hr)]) kX11_news rfl (by decide) rfl ?_
          refine fz_iconst ⟨by decide, by decide⟩ kX11_news rfl ?_
          refine fz_istore (ls' := [(4, fz_i 0), (3, fz_i (-2)), (0, fz_r 53), (1, fz_i d), (2, fz_i hr)]) kX11_news rfl (by decide) rfl ?_
          refine fz_iconst ⟨by decide, by decide⟩ kX11_news rfl ?_
          refine fz_istore (ls' := [(5, fz_i 0), (4, fz_i 0), (3, fz_i (-2)), (0, fz_r 53), (1, fz_i d), (2, fz_i hr)]) kX11_news rfl (by decide) rfl ?_
          have lp27 : ∀ (n26 : Nat) (x20 : Int) (x21 : Int) (x22 : Int) (H23 : fz_H), fz_Iv H23 → fz_fr [(86, 99999), (87, 99999)] h H23 → (0 ≤ x20 ∧ x20 ≤ 2147483647) → (0 ≤ x21 ∧ x21 ≤ 8) → ((-2) ≤ x22 ∧ x22 ≤ 7) → (x22 ≠ -1) → (x21 ≤ x20) → ((h 53 0) - x20).toNat < n26 → fz_R 3 mX11_news 31 [(5, fz_i x20), (4, fz_i x21), (3, fz_i x22), (0, fz_r 53), (1, fz_i d), (2, fz_i hr)] [] H23 (qX11_news h d hr) := by
            intro n26
            induction n26 with
            | zero => intro x20 x21 x22 H23 hI24 hf25 hv30 hv31 hv32 hv33 hv34 hm29; exact absurd hm29 (by omega)
            | succ n26 ih28 =>
              intro x20 x21 x22 H23 hI24 hf25 hv30 hv31 hv32 hv33 hv34 hm29
              refine fz_iload kX11_news rfl rfl ?_
              refine fz_aload_n kX11_news rfl rfl ?_
              refine fz_getV (v := h 53 0) kX11_news rfl rfl (hf25 53 0 rfl) ?_
              have b35 : 0 ≤ h 53 0 ∧ h 53 0 ≤ 8 := hI.1 53 _
              refine fz_icmp_ge (tgt := 113) kX11_news rfl (by decide) (fun c36 => ?_) (fun c36 => ?_)
              · refine fz_iload_n kX11_news rfl rfl ?_
                refine fz_if_ge (tgt := 121) kX11_news rfl (by decide) (fun c37 => ?_) (fun c37 => ?_)
                · refine fz_iload kX11_news rfl rfl ?_
                  exact fz_iret kX11_news rfl rfl (fun _ => ⟨hI24, hf25, _, rfl, (by omega)⟩)
                · refine fz_iload_n kX11_news rfl rfl ?_
                  refine fz_goto (tgt := 123) kX11_news rfl (by decide) ?_
                  exact fz_iret kX11_news rfl rfl (fun _ => ⟨hI24, hf25, _, rfl, (by omega)⟩)
              · refine fz_aload_n kX11_news rfl rfl ?_
                refine fz_iload_n kX11_news rfl rfl ?_
                refine fz_iload kX11_news rfl rfl ?_
                refine fz_callV (d' := 2) (M' := mX11_heardAt) (As := [fz_i d, fz_i x20]) (st := []) kX11_news rfl rfl vX11_heardAt rfl rfl rfl rfl (Nat.le_of_ble_eq_true rfl) (Nat.le_of_ble_eq_true rfl) (by decide) (sX11_heardAt H23 hI24 d x20 (by omega) (by omega)) (fun H38 r39 q40 o41 => ?_)
                obtain ⟨hI42, hf43, y45, rfl, f44⟩ := q40
                clear o41
                have hf46 := fz_fr_tr hf25 hf43 (show fz_su [(86, 99999), (87, 99999)] [(86, 99999), (87, 99999)] = true from rfl)
                refine fz_istore (ls' := [(6, fz_i y45), (5, fz_i x20), (4, fz_i x21), (3, fz_i x22), (0, fz_r 53), (1, fz_i d), (2, fz_i hr)]) kX11_news rfl (by decide) rfl ?_
                refine fz_iload kX11_news rfl rfl ?_
                refine fz_bipush ⟨by decide, by decide⟩ kX11_news rfl ?_
                refine fz_icmp_ne (tgt := 59) kX11_news rfl (by decide) (fun c47 => ?_) (fun c47 => ?_)
                · refine fz_iload kX11_news rfl rfl ?_
                  refine fz_iload_n kX11_news rfl rfl ?_
                  refine fz_icmp_gt (tgt := 68) kX11_news rfl (by decide) (fun c48 => ?_) (fun c48 => ?_)
                  · refine fz_iload_n kX11_news rfl rfl ?_
                    refine fz_bipush ⟨by decide, by decide⟩ kX11_news rfl ?_
                    refine fz_icmp_eq (tgt := 104) kX11_news rfl (by decide) (fun c49 => ?_) (fun c49 => ?_)
                    · refine fz_iload kX11_news rfl rfl ?_
                      refine fz_istore_n (ls' := [(3, fz_i x20), (6, fz_i y45), (5, fz_i x20), (4, fz_i x21), (0, fz_r 53), (1, fz_i d), (2, fz_i hr)]) kX11_news rfl (by decide) rfl ?_
                      refine fz_iincN (ls' := [(5, fz_i (x20 + 1)), (3, fz_i x20), (6, fz_i y45), (4, fz_i x21), (0, fz_r 53), (1, fz_i d), (2, fz_i hr)]) kX11_news rfl (by decide) rfl (by omega) rfl ?_
                      refine fz_goto (tgt := 31) kX11_news rfl (by decide) ?_
                      refine fz_sub (fz_pk_sub (ls' := [(5, fz_i (x20 + 1)), (4, fz_i x21), (3, fz_i x20), (0, fz_r 53), (1, fz_i d), (2, fz_i hr)]) [0, 3, 1, 4, 5, 6] rfl) ?_
                      exact ih28 (x20 + 1) x21 x20 H38 hI42 hf46 (by omega) (by omega) (by omega) (by omega) (by omega) (by omega)
                    · refine fz_iload_n kX11_news rfl rfl ?_
                      refine fz_iconst ⟨by decide, by decide⟩ kX11_news rfl ?_
                      refine fz_icmp_ne (tgt := 93) kX11_news rfl (by decide) (fun c50 => ?_) (fun c50 => ?_)
                      · refine fz_iload kX11_news rfl rfl ?_
                        refine fz_aload_n kX11_news rfl rfl ?_
                        refine fz_iload_n kX11_news rfl rfl ?_
                        refine fz_iload_n kX11_news rfl rfl ?_
                        refine fz_callV (d' := 2) (M' := mX11_heardAt) (As := [fz_i d, fz_i x22]) (st := [fz_i y45]) kX11_news rfl rfl vX11_heardAt rfl rfl rfl rfl (Nat.le_of_ble_eq_true rfl) (Nat.le_of_ble_eq_true rfl) (by decide) (sX11_heardAt H38 hI42 d x22 (by omega) (by omega)) (fun H51 r52 q53 o54 => ?_)
                        obtain ⟨hI55, hf56, y58, rfl, f57⟩ := q53
                        clear o54
                        have hf59 := fz_fr_tr hf46 hf56 (show fz_su [(86, 99999), (87, 99999)] [(86, 99999), (87, 99999)] = true from rfl)
                        refine fz_icmp_ge (tgt := 107) kX11_news rfl (by decide) (fun c60 => ?_) (fun c60 => ?_)
                        · refine fz_iincN (ls' := [(5, fz_i (x20 + 1)), (6, fz_i y45), (4, fz_i x21), (3, fz_i x22), (0, fz_r 53), (1, fz_i d), (2, fz_i hr)]) kX11_news rfl (by decide) rfl (by omega) rfl ?_
                          refine fz_goto (tgt := 31) kX11_news rfl (by decide) ?_
                          refine fz_sub (fz_pk_sub (ls' := [(5, fz_i (x20 + 1)), (4, fz_i x21), (3, fz_i x22), (0, fz_r 53), (1, fz_i d), (2, fz_i hr)]) [0, 2, 3, 4, 5, 6] rfl) ?_
                          exact ih28 (x20 + 1) x21 x22 H51 hI55 hf59 (by omega) (by omega) (by omega) (by omega) (by omega) (by omega)
                        · refine fz_iload kX11_news rfl rfl ?_
                          refine fz_istore_n (ls' := [(3, fz_i x20), (6, fz_i y45), (5, fz_i x20), (4, fz_i x21), (0, fz_r 53), (1, fz_i d), (2, fz_i hr)]) kX11_news rfl (by decide) rfl ?_
                          refine fz_iincN (ls' := [(5, fz_i (x20 + 1)), (3, fz_i x20), (6, fz_i y45), (4, fz_i x21), (0, fz_r 53), (1, fz_i d), (2, fz_i hr)]) kX11_news rfl (by decide) rfl (by omega) rfl ?_
                          refine fz_goto (tgt := 31) kX11_news rfl (by decide) ?_
                          refine fz_sub (fz_pk_sub (ls' := [(5, fz_i (x20 + 1)), (4, fz_i x21), (3, fz_i x20), (0, fz_r 53), (1, fz_i d), (2, fz_i hr)]) [0, 3, 1, 4, 5, 6] rfl) ?_
                          exact ih28 (x20 + 1) x21 x20 H51 hI55 hf59 (by omega) (by omega) (by omega) (by omega) (by omega) (by omega)
                      · refine fz_iload kX11_news rfl rfl ?_
                        refine fz_aload_n kX11_news rfl rfl ?_
                        refine fz_iload_n kX11_news rfl rfl ?_
                        refine fz_iload_n kX11_news rfl rfl ?_
                        refine fz_callV (d' := 2) (M' := mX11_heardAt) (As := [fz_i d, fz_i x22]) (st := [fz_i y45]) kX11_news rfl rfl vX11_heardAt rfl rfl rfl rfl (Nat.le_of_ble_eq_true rfl) (Nat.le_of_ble_eq_true rfl) (by decide) (sX11_heardAt H38 hI42 d x22 (by omega) (by omega)) (fun H61 r62 q63 o64 => ?_)
                        obtain ⟨hI65, hf66, y68, rfl, f67⟩ := q63
                        clear o64
                        have hf69 := fz_fr_tr hf46 hf66 (show fz_su [(86, 99999), (87, 99999)] [(86, 99999), (87, 99999)] = true from rfl)
                        refine fz_icmp_le (tgt := 107) kX11_news rfl (by decide) (fun c70 => ?_) (fun c70 => ?_)
                        · refine fz_iincN (ls' := [(5, fz_i (x20 + 1)), (6, fz_i y45), (4, fz_i x21), (3, fz_i x22), (0, fz_r 53), (1, fz_i d), (2, fz_i hr)]) kX11_news rfl (by decide) rfl (by omega) rfl ?_
                          refine fz_goto (tgt := 31) kX11_news rfl (by decide) ?_
                          refine fz_sub (fz_pk_sub (ls' := [(5, fz_i (x20 + 1)), (4, fz_i x21), (3, fz_i x22), (0, fz_r 53), (1, fz_i d), (2, fz_i hr)]) [0, 2, 3, 4, 5, 6] rfl) ?_
                          exact ih28 (x20 + 1) x21 x22 H61 hI65 hf69 (by omega) (by omega) (by omega) (by omega) (by omega) (by omega)
                        · refine fz_goto (tgt := 104) kX11_news rfl (by decide) ?_
                          refine fz_iload kX11_news rfl rfl ?_
                          refine fz_istore_n (ls' := [(3, fz_i x20), (6, fz_i y45), (5, fz_i x20), (4, fz_i x21), (0, fz_r 53), (1, fz_i d), (2, fz_i hr)]) kX11_news rfl (by decide) rfl ?_
                          refine fz_iincN (ls' := [(5, fz_i (x20 + 1)), (3, fz_i x20), (6, fz_i y45), (4, fz_i x21), (0, fz_r 53), (1, fz_i d), (2, fz_i hr)]) kX11_news rfl (by decide) rfl (by omega) rfl ?_
                          refine fz_goto (tgt := 31) kX11_news rfl (by decide) ?_
                          refine fz_sub (fz_pk_sub (ls' := [(5, fz_i (x20 + 1)), (4, fz_i x21), (3, fz_i x20), (0, fz_r 53), (1, fz_i d), (2, fz_i hr)]) [0, 3, 1, 4, 5, 6] rfl) ?_
                          exact ih28 (x20 + 1) x21 x20 H61 hI65 hf69 (by omega) (by omega) (by omega) (by omega) (by omega) (by omega)
                  · refine fz_iincN (ls' := [(4, fz_i (x21 + 1)), (6, fz_i y45), (5, fz_i x20), (3, fz_i x22), (0, fz_r 53), (1, fz_i d), (2, fz_i hr)]) kX11_news rfl (by decide) rfl (by omega) rfl ?_
                    refine fz_iload_n kX11_news rfl rfl ?_
                    refine fz_bipush ⟨by decide, by decide⟩ kX11_news rfl ?_
                    refine fz_icmp_eq (tgt := 104) kX11_news rfl (by decide) (fun c71 => ?_) (fun c71 => ?_)
                    · refine fz_iload kX11_news rfl rfl ?_
                      refine fz_istore_n (ls' := [(3, fz_i x20), (4, fz_i (x21 + 1)), (6, fz_i y45), (5, fz_i x20), (0, fz_r 53), (1, fz_i d), (2, fz_i hr)]) kX11_news rfl (by decide) rfl ?_
                      refine fz_iincN (ls' := [(5, fz_i (x20 + 1)), (3, fz_i x20), (4, fz_i (x21 + 1)), (6, fz_i y45), (0, fz_r 53), (1, fz_i d), (2, fz_i hr)]) kX11_news rfl (by decide) rfl (by omega) rfl ?_
                      refine fz_goto (tgt := 31) kX11_news rfl (by decide) ?_
                      refine fz_sub (fz_pk_sub (ls' := [(5, fz_i (x20 + 1)), (4, fz_i (x21 + 1)), (3, fz_i x20), (0, fz_r 53), (1, fz_i d), (2, fz_i hr)]) [0, 2, 1, 4, 5, 6] rfl) ?_
                      exact ih28 (x20 + 1) (x21 + 1) x20 H38 hI42 hf46 (by omega) (by omega) (by omega) (by omega) (by omega) (by omega)
                    · refine fz_iload_n kX11_news rfl rfl ?_
                      refine fz_iconst ⟨by decide, by decide⟩ kX11_news rfl ?_
                      refine fz_icmp_ne (tgt := 93) kX11_news rfl (by decide) (fun c72 => ?_) (fun c72 => ?_)
                      · refine fz_iload kX11_news rfl rfl ?_
                        refine fz_aload_n kX11_news rfl rfl ?_
                        refine fz_iload_n kX11_news rfl rfl ?_
                        refine fz_iload_n kX11_news rfl rfl ?_
                        refine fz_callV (d' := 2) (M' := mX11_heardAt) (As := [fz_i d, fz_i x22]) (st := [fz_i y45]) kX11_news rfl rfl vX11_heardAt rfl rfl rfl rfl (Nat.le_of_ble_eq_true rfl) (Nat.le_of_ble_eq_true rfl) (by decide) (sX11_heardAt H38 hI42 d x22 (by omega) (by omega)) (fun H73 r74 q75 o76 => ?_)
                        obtain ⟨hI77, hf78, y80, rfl, f79⟩ := q75
                        clear o76
                        have hf81 := fz_fr_tr hf46 hf78 (show fz_su [(86, 99999), (87, 99999)] [(86, 99999), (87, 99999)] = true from rfl)
                        refine fz_icmp_ge (tgt := 107) kX11_news rfl (by decide) (fun c82 => ?_) (fun c82 => ?_)
                        · refine fz_iincN (ls' := [(5, fz_i (x20 + 1)), (4, fz_i (x21 + 1)), (6, fz_i y45), (3, fz_i x22), (0, fz_r 53), (1, fz_i d), (2, fz_i hr)]) kX11_news rfl (by decide) rfl (by omega) rfl ?_
                          refine fz_goto (tgt := 31) kX11_news rfl (by decide) ?_
                          refine fz_sub (fz_pk_sub (ls' := [(5, fz_i (x20 + 1)), (4, fz_i (x21 + 1)), (3, fz_i x22), (0, fz_r 53), (1, fz_i d), (2, fz_i hr)]) [0, 1, 3, 4, 5, 6] rfl) ?_
                          exact ih28 (x20 + 1) (x21 + 1) x22 H73 hI77 hf81 (by omega) (by omega) (by omega) (by omega) (by omega) (by omega)
                        · refine fz_iload kX11_news rfl rfl ?_
                          refine fz_istore_n (ls' := [(3, fz_i x20), (4, fz_i (x21 + 1)), (6, fz_i y45), (5, fz_i x20), (0, fz_r 53), (1, fz_i d), (2, fz_i hr)]) kX11_news rfl (by decide) rfl ?_
                          refine fz_iincN (ls' := [(5, fz_i (x20 + 1)), (3, fz_i x20), (4, fz_i (x21 + 1)), (6, fz_i y45), (0, fz_r 53), (1, fz_i d), (2, fz_i hr)]) kX11_news rfl (by decide) rfl (by omega) rfl ?_
                          refine fz_goto (tgt := 31) kX11_news rfl (by decide) ?_
                          refine fz_sub (fz_pk_sub (ls' := [(5, fz_i (x20 + 1)), (4, fz_i (x21 + 1)), (3, fz_i x20), (0, fz_r 53), (1, fz_i d), (2, fz_i hr)]) [0, 2, 1, 4, 5, 6] rfl) ?_
                          exact ih28 (x20 + 1) (x21 + 1) x20 H73 hI77 hf81 (by omega) (by omega) (by omega) (by omega) (by omega) (by omega)
                      · refine fz_iload kX11_news rfl rfl ?_
                        refine fz_aload_n kX11_news rfl rfl ?_
                        refine fz_iload_n kX11_news rfl rfl ?_
                        refine fz_iload_n kX11_news rfl rfl ?_
                        refine fz_callV (d' := 2) (M' := mX11_heardAt) (As := [fz_i d, fz_i x22]) (st := [fz_i y45]) kX11_news rfl rfl vX11_heardAt rfl rfl rfl rfl (Nat.le_of_ble_eq_true rfl) (Nat.le_of_ble_eq_true rfl) (by decide) (sX11_heardAt H38 hI42 d x22 (by omega) (by omega)) (fun H83 r84 q85 o86 => ?_)
                        obtain ⟨hI87, hf88, y90, rfl, f89⟩ := q85
                        clear o86
                        have hf91 := fz_fr_tr hf46 hf88 (show fz_su [(86, 99999), (87, 99999)] [(86, 99999), (87, 99999)] = true from rfl)
                        refine fz_icmp_le (tgt := 107) kX11_news rfl (by decide) (fun c92 => ?_) (fun c92 => ?_)
                        · refine fz_iincN (ls' := [(5, fz_i (x20 + 1)), (4, fz_i (x21 + 1)), (6, fz_i y45), (3, fz_i x22), (0, fz_r 53), (1, fz_i d), (2, fz_i hr)]) kX11_news rfl (by decide) rfl (by omega) rfl ?_
                          refine fz_goto (tgt := 31) kX11_news rfl (by decide) ?_
                          refine fz_sub (fz_pk_sub (ls' := [(5, fz_i (x20 + 1)), (4, fz_i (x21 + 1)), (3, fz_i x22), (0, fz_r 53), (1, fz_i d), (2, fz_i hr)]) [0, 1, 3, 4, 5, 6] rfl) ?_
                          exact ih28 (x20 + 1) (x21 + 1) x22 H83 hI87 hf91 (by omega) (by omega) (by omega) (by omega) (by omega) (by omega)
                        · refine fz_goto (tgt := 104) kX11_news rfl (by decide) ?_
                          refine fz_iload kX11_news rfl rfl ?_
                          refine fz_istore_n (ls' := [(3, fz_i x20), (4, fz_i (x21 + 1)), (6, fz_i y45), (5, fz_i x20), (0, fz_r 53), (1, fz_i d), (2, fz_i hr)]) kX11_news rfl (by decide) rfl ?_
                          refine fz_iincN (ls' := [(5, fz_i (x20 + 1)), (3, fz_i x20), (4, fz_i (x21 + 1)), (6, fz_i y45), (0, fz_r 53), (1, fz_i d), (2, fz_i hr)]) kX11_news rfl (by decide) rfl (by omega) rfl ?_
                          refine fz_goto (tgt := 31) kX11_news rfl (by decide) ?_
                          refine fz_sub (fz_pk_sub (ls' := [(5, fz_i (x20 + 1)), (4, fz_i (x21 + 1)), (3, fz_i x20), (0, fz_r 53), (1, fz_i d), (2, fz_i hr)]) [0, 2, 1, 4, 5, 6] rfl) ?_
                          exact ih28 (x20 + 1) (x21 + 1) x20 H83 hI87 hf91 (by omega) (by omega) (by omega) (by omega) (by omega) (by omega)
                · refine fz_goto (tgt := 107) kX11_news rfl (by decide) ?_
                  refine fz_iincN (ls' := [(5, fz_i (x20 + 1)), (6, fz_i y45), (4, fz_i x21), (3, fz_i x22), (0, fz_r 53), (1, fz_i d), (2, fz_i hr)]) kX11_news rfl (by decide) rfl (by omega) rfl ?_
                  refine fz_goto (tgt := 31) kX11_news rfl (by decide) ?_
                  refine fz_sub (fz_pk_sub (ls' := [(5, fz_i (x20 + 1)), (4, fz_i x21), (3, fz_i x22), (0, fz_r 53), (1, fz_i d), (2, fz_i hr)]) [0, 2, 3, 4, 5, 6] rfl) ?_
                  exact ih28 (x20 + 1) x21 x22 H38 hI42 hf46 (by omega) (by omega) (by omega) (by omega) (by omega) (by omega)
          exact lp27 _ 0 0 (-2) h hI hf (by omega) (by omega) (by omega) (by omega) (by omega) (Nat.lt_succ_self _)
        · exfalso; omega
      · refine fz_if_ne (tgt := 22) kX11_news rfl (by decide) (fun c93 => ?_) (fun c93 => ?_)
        · exfalso; omega
        · refine fz_iconst ⟨by decide, by decide⟩ kX11_news rfl ?_
          exact fz_iret kX11_news rfl rfl (fun _ => ⟨hI, hf, _, rfl, (by omega)⟩)
  · refine fz_if_eq (tgt := 20) kX11_news rfl (by decide) (fun c94 => ?_) (fun c94 => ?_)
    · refine fz_iconst ⟨by decide, by decide⟩ kX11_news rfl ?_
      exact fz_iret kX11_news rfl rfl (fun _ => ⟨hI, hf, _, rfl, (by omega)⟩)
    · exfalso; omega

abbrev qX11_roadsTo (h : fz_H) (d t : Int) : fz_H → Option fz_V → Prop := fun h' r0 => fz_Iv h' ∧ fz_fr [(86, 99999), (87, 99999)] h h' ∧ ∃ r : Int, r0 = some (fz_i r) ∧ ((-2147483648) ≤ r ∧ r ≤ 2147483647)
set_option maxHeartbeats 1000000 in
set_option maxRecDepth 100000 in
theorem sX11_roadsTo (h : fz_H) (hI : fz_Iv h) (d t : Int) (hp0 : 0 ≤ d ∧ d ≤ 10) (hp1 : 0 ≤ t ∧ t ≤ 7) : fz_R 2 mX11_roadsTo 0 [(0, fz_r 53), (1, fz_i d), (2, fz_i t)] [] h (qX11_roadsTo h d t) := by
  refine fz_knowl (fun hk => ?_)
  have hr_d : -2147483648 ≤ d ∧ d < 2147483648 := hk _ (List.Mem.tail _ (List.Mem.head _))
  have hr_t : -2147483648 ≤ t ∧ t < 2147483648 := hk _ (List.Mem.tail _ (List.Mem.tail _ (List.Mem.head _)))
  clear hk
  have hf : fz_fr [(86, 99999), (87, 99999)] h h := fz_fr_rf
  refine fz_aload_n kX11_roadsTo rfl rfl ?_
  refine fz_aload_n kX11_roadsTo rfl rfl ?_
  refine fz_getR (t := 61) kX11_roadsTo rfl rfl ?_
  refine fz_iload_n kX11_roadsTo rfl rfl ?_
  refine fz_ialdV (n := 11) (v := h 61 (d.toNat)) kX11_roadsTo rfl rfl (by omega) (by omega) rfl ?_
  have b1 : 0 ≤ h 61 (d.toNat) ∧ h 61 (d.toNat) ≤ 7 := hI.1 61 _
  refine fz_iconst ⟨by decide, by decide⟩ kX11_roadsTo rfl ?_
  refine fz_callV (d' := 1) (M' := mX11_goesFrom) (As := [fz_i (h 61 (d.toNat)), fz_i 1]) (st := []) kX11_roadsTo rfl rfl vX11_goesFrom rfl rfl rfl rfl (Nat.le_of_ble_eq_true rfl) (Nat.le_of_ble_eq_true rfl) (by decide) (sX11_goesFrom h hI (h 61 (d.toNat)) 1 (by omega) (by omega)) (fun H2 r3 q4 o5 => ?_)
  obtain ⟨hI6, hf7, rfl⟩ := q4
  clear o5
  have hf8 := fz_fr_tr hf hf7 (show fz_su [(86, 99999), (87, 99999)] [(86, 99999), (87, 99999)] = true from rfl)
  refine fz_aload_n kX11_roadsTo rfl rfl ?_
  refine fz_getR (t := 86) kX11_roadsTo rfl rfl ?_
  refine fz_iload_n kX11_roadsTo rfl rfl ?_
  obtain ⟨v9, e10⟩ : ∃ z, H2 86 (t.toNat) = z := ⟨_, rfl⟩
  refine fz_ialdV (n := 8) (v := v9) kX11_roadsTo rfl rfl (by omega) (by omega) e10 ?_
  have b11 : (-2147483648) ≤ v9 ∧ v9 ≤ 2147483647 := by rw [← e10]; exact hI6.1 86 _
  refine fz_bipush ⟨by decide, by decide⟩ kX11_roadsTo rfl ?_
  refine fz_icmp_ne (tgt := 27) kX11_roadsTo rfl (by decide) (fun c12 => ?_) (fun c12 => ?_)
  · refine fz_aload_n kX11_roadsTo rfl rfl ?_
    refine fz_getR (t := 87) kX11_roadsTo rfl rfl ?_
    refine fz_iload_n kX11_roadsTo rfl rfl ?_
    obtain ⟨v13, e14⟩ : ∃ z, H2 87 (t.toNat) = z := ⟨_, rfl⟩
    refine fz_ialdV (n := 8) (v := v13) kX11_roadsTo rfl rfl (by omega) (by omega) e14 ?_
    have b15 : (-2147483648) ≤ v13 ∧ v13 ≤ 2147483647 := by rw [← e14]; exact hI6.1 87 _
    exact fz_iret kX11_roadsTo rfl rfl (fun _ => ⟨hI6, hf8, _, rfl, (by omega)⟩)
  · refine fz_bipush ⟨by decide, by decide⟩ kX11_roadsTo rfl ?_
    refine fz_goto (tgt := 33) kX11_roadsTo rfl (by decide) ?_
    exact fz_iret kX11_roadsTo rfl rfl (fun _ => ⟨hI6, hf8, _, rfl, (by omega)⟩)

abbrev qX11_garbled (h : fz_H) (d t pt : Int) : fz_H → Option fz_V → Prop := fun h' r0 => fz_Iv h' ∧ fz_fr [(86, 99999), (87, 99999)] h h' ∧ ∃ r : Int, r0 = some (fz_l r) ∧ ((-9223372036854775808) ≤ r ∧ r ≤ 9223372036854775807)
set_option maxHeartbeats 1000000 in
set_option maxRecDepth 100000 in
theorem sX11_garbled (h : fz_H) (hI : fz_Iv h) (d t pt : Int) : fz_R 4 mX11_garbled 0 [(0, fz_r 53), (1, fz_i d), (2, fz_i t), (3, fz_i pt)] [] h (qX11_garbled h d t pt) := by
  sorry

abbrev qX11_drawn (h : fz_H) (d t se nw : Int) : fz_H → Option fz_V → Prop := fun h' r0 => fz_Iv h' ∧ fz_fr [(86, 99999), (87, 99999)] h h' ∧ ∃ r : Int, r0 = some (fz_i r) ∧ ((-1) ≤ r ∧ r ≤ 200)
set_option maxHeartbeats 1000000 in
set_option maxRecDepth 100000 in
theorem sX11_drawn (h : fz_H) (hI : fz_Iv h) (d t se nw : Int) : fz_R 3 mX11_drawn 0 [(0, fz_r 53), (1, fz_i d), (2, fz_i t), (3, fz_i se), (4, fz_i nw)] [] h (qX11_drawn h d t se nw) := by
  refine fz_knowl (fun hk => ?_)
  have hr_d : -2147483648 ≤ d ∧ d < 2147483648 := hk _ (List.Mem.tail _ (List.Mem.head _))
  have hr_t : -2147483648 ≤ t ∧ t < 2147483648 := hk _ (List.Mem.tail _ (List.Mem.tail _ (List.Mem.head _)))
  have hr_se : -2147483648 ≤ se ∧ se < 2147483648 := hk _ (List.Mem.tail _ (List.Mem.tail _ (List.Mem.tail _ (List.Mem.head _))))
  have hr_nw : -2147483648 ≤ nw ∧ nw < 2147483648 := hk _ (List.Mem.tail _ (List.Mem.tail _ (List.Mem.tail _ (List.Mem.tail _ (List.Mem.head _)))))
  clear hk
  have hf : fz_fr [(86, 99999), (87, 99999)] h h := fz_fr_rf
  refine fz_aload_n kX11_drawn rfl rfl ?_
  refine fz_iload_n kX11_drawn rfl rfl ?_
  have b1 : 0 ≤ h 53 10 ∧ h 53 10 ≤ 11 := hI.1 53 _
  refine fz_callV (d' := 1) (M' := mX11_isDeed) (As := [fz_i d]) (st := []) kX11_drawn rfl rfl vX11_isDeed rfl rfl rfl rfl (Nat.le_of_ble_eq_true rfl) (Nat.le_of_ble_eq_true rfl) (by decide) (sX11_isDeed h hI d ) (fun H2 r3 q4 o5 => ?_)
  obtain ⟨e6, y7, rfl, p8⟩ := q4
  subst H2
  clear o5
  rcases p8 with ⟨rfl, c9⟩ | ⟨rfl, c9⟩
  · refine fz_if_eq (tgt := 44) kX11_drawn rfl (by decide) (fun c10 => ?_) (fun c10 => ?_)
    · exfalso; omega
    · refine fz_aload_n kX11_drawn rfl rfl ?_
      refine fz_iload_n kX11_drawn rfl rfl ?_
      have b11 : 0 ≤ h 53 0 ∧ h 53 0 ≤ 8 := hI.1 53 _
      refine fz_callV (d' := 1) (M' := mX11_isTown) (As := [fz_i t]) (st := []) kX11_drawn rfl rfl vX11_isTown rfl rfl rfl rfl (Nat.le_of_ble_eq_true rfl) (Nat.le_of_ble_eq_true rfl) (by decide) (sX11_isTown h hI t ) (fun H12 r13 q14 o15 => ?_)
      obtain ⟨e16, y17, rfl, p18⟩ := q14
      subst H12
      clear o15
      rcases p18 with ⟨rfl, c19⟩ | ⟨rfl, c19⟩
      · refine fz_if_eq (tgt := 44) kX11_drawn rfl (by decide) (fun c20 => ?_) (fun c20 => ?_)
        · exfalso; omega
        · refine fz_iload kX11_drawn rfl rfl ?_
          refine fz_if_lt (tgt := 44) kX11_drawn rfl (by decide) (fun c21 => ?_) (fun c21 => ?_)
          · refine fz_iconst ⟨by decide, by decide⟩ kX11_drawn rfl ?_
            exact fz_iret kX11_drawn rfl rfl (fun _ => ⟨hI, hf, _, rfl, (by omega)⟩)
          · refine fz_iload kX11_drawn rfl rfl ?_
            refine fz_bipush ⟨by decide, by decide⟩ kX11_drawn rfl ?_
            refine fz_idivN kX11_drawn rfl (by omega) (by omega) (by omega) ?_
            refine fz_iconst ⟨by decide, by decide⟩ kX11_drawn rfl ?_
            refine fz_bipush ⟨by decide, by decide⟩ kX11_drawn rfl ?_
            refine fz_callS (d' := 0) (M' := mX11_within) (As := [fz_i (nw / 10), fz_i 1, fz_i 50]) (st := []) kX11_drawn rfl rfl vX11_within rfl rfl (Nat.le_of_ble_eq_true rfl) (Nat.le_of_ble_eq_true rfl) (by decide) (sX11_within h hI (nw / 10) 1 50 ) (fun H22 r23 q24 o25 => ?_)
            obtain ⟨e26, y27, rfl, p28⟩ := q24
            subst H22
            clear o25
            rcases p28 with ⟨rfl, c29⟩ | ⟨rfl, c29⟩
            · refine fz_if_eq (tgt := 44) kX11_drawn rfl (by decide) (fun c30 => ?_) (fun c30 => ?_)
              · exfalso; omega
              · refine fz_iload kX11_drawn rfl rfl ?_
                refine fz_bipush ⟨by decide, by decide⟩ kX11_drawn rfl ?_
                refine fz_iremN kX11_drawn rfl (by omega) (by omega) (by omega) ?_
                refine fz_iconst ⟨by decide, by decide⟩ kX11_drawn rfl ?_
                refine fz_icmp_le (tgt := 46) kX11_drawn rfl (by decide) (fun c31 => ?_) (fun c31 => ?_)
                · refine fz_aload_n kX11_drawn rfl rfl ?_
                  refine fz_iload_n kX11_drawn rfl rfl ?_
                  refine fz_iload_n kX11_drawn rfl rfl ?_
                  refine fz_callV (d' := 2) (M' := mX11_roadsTo) (As := [fz_i d, fz_i t]) (st := []) kX11_drawn rfl rfl vX11_roadsTo rfl rfl rfl rfl (Nat.le_of_ble_eq_true rfl) (Nat.le_of_ble_eq_true rfl) (by decide) (sX11_roadsTo h hI d t (by omega) (by omega)) (fun H32 r33 q34 o35 => ?_)
                  obtain ⟨hI36, hf37, y39, rfl, f38⟩ := q34
                  clear o35
                  have hf40 := fz_fr_tr hf hf37 (show fz_su [(86, 99999), (87, 99999)] [(86, 99999), (87, 99999)] = true from rfl)
                  refine fz_istore (ls' := [(5, fz_i y39), (0, fz_r 53), (1, fz_i d), (2, fz_i t), (3, fz_i se), (4, fz_i nw)]) kX11_drawn rfl (by decide) rfl ?_
                  refine fz_iload kX11_drawn rfl rfl ?_
                  refine fz_bipush ⟨by decide, by decide⟩ kX11_drawn rfl ?_
                  refine fz_icmp_ne (tgt := 63) kX11_drawn rfl (by decide) (fun c41 => ?_) (fun c41 => ?_)
                  · refine fz_iload_n kX11_drawn rfl rfl ?_
                    refine fz_istore (ls' := [(6, fz_i se), (5, fz_i y39), (0, fz_r 53), (1, fz_i d), (2, fz_i t), (3, fz_i se), (4, fz_i nw)]) kX11_drawn rfl (by decide) rfl ?_
                    refine fz_iconst ⟨by decide, by decide⟩ kX11_drawn rfl ?_
                    refine fz_istore (ls' := [(7, fz_i 0), (6, fz_i se), (5, fz_i y39), (0, fz_r 53), (1, fz_i d), (2, fz_i t), (3, fz_i se), (4, fz_i nw)]) kX11_drawn rfl (by decide) rfl ?_
                    refine fz_iconst ⟨by decide, by decide⟩ kX11_drawn rfl ?_
                    refine fz_istore (ls' := [(8, fz_i 0), (7, fz_i 0), (6, fz_i se), (5, fz_i y39), (0, fz_r 53), (1, fz_i d), (2, fz_i t), (3, fz_i se), (4, fz_i nw)]) kX11_drawn rfl (by decide) rfl ?_
                    refine fz_iconst ⟨by decide, by decide⟩ kX11_drawn rfl ?_
                    refine fz_istore (ls' := [(9, fz_i 0), (8, fz_i 0), (7, fz_i 0), (6, fz_i se), (5, fz_i y39), (0, fz_r 53), (1, fz_i d), (2, fz_i t), (3, fz_i se), (4, fz_i nw)]) kX11_drawn rfl (by decide) rfl ?_
                    have lp47 : ∀ (n46 : Nat) (x42 : Int) (x43 : Int) (x44 : Int) (x45 : Int), (0 ≤ x42 ∧ x42 ≤ 2147483647) → (0 ≤ x43 ∧ x43 ≤ 200) → (0 ≤ x44 ∧ x44 ≤ 50) → ((-2147483648) ≤ x45 ∧ x45 ≤ 2147483647) → (x44 ≤ x42) → (x43 ≤ 4 * x42) → ((nw / 10) - x42).toNat < n46 → fz_R 3 mX11_drawn 75 [(9, fz_i x42), (8, fz_i x43), (7, fz_i x44), (6, fz_i x45), (5, fz_i y39), (0, fz_r 53), (1, fz_i d), (2, fz_i t), (3, fz_i se), (4, fz_i nw)] [] H32 (qX11_drawn h d t se nw) := by
                      intro n46
                      induction n46 with
                      | zero => intro x42 x43 x44 x45 hv50 hv51 hv52 hv53 hv54 hv55 hm49; exact absurd hm49 (by omega)
                      | succ n46 ih48 =>
                        intro x42 x43 x44 x45 hv50 hv51 hv52 hv53 hv54 hv55 hm49
                        refine fz_iload kX11_drawn rfl rfl ?_
                        refine fz_iload kX11_drawn rfl rfl ?_
                        refine fz_bipush ⟨by decide, by decide⟩ kX11_drawn rfl ?_
                        refine fz_idivN kX11_drawn rfl (by omega) (by omega) (by omega) ?_
                        refine fz_icmp_ge (tgt := 171) kX11_drawn rfl (by decide) (fun c56 => ?_) (fun c56 => ?_)
                        · refine fz_iload kX11_drawn rfl rfl ?_
                          refine fz_bipush ⟨by decide, by decide⟩ kX11_drawn rfl ?_
                          refine fz_iremN kX11_drawn rfl (by omega) (by omega) (by omega) ?_
                          refine fz_if_ne (tgt := 184) kX11_drawn rfl (by decide) (fun c57 => ?_) (fun c57 => ?_)
                          · refine fz_iload kX11_drawn rfl rfl ?_
                            exact fz_iret kX11_drawn rfl rfl (fun _ => ⟨hI36, hf40, _, rfl, (by omega)⟩)
                          · refine fz_iload kX11_drawn rfl rfl ?_
                            refine fz_goto (tgt := 186) kX11_drawn rfl (by decide) ?_
                            exact fz_iret kX11_drawn rfl rfl (fun _ => ⟨hI36, hf40, _, rfl, (by omega)⟩)
                        · refine fz_aload_n kX11_drawn rfl rfl ?_
                          refine fz_getR (t := 63) kX11_drawn rfl rfl ?_
                          refine fz_iload_n kX11_drawn rfl rfl ?_
                          refine fz_ialdV (n := 11) (v := h 63 (d.toNat)) kX11_drawn rfl rfl (by omega) (by omega) (hf40 63 _ rfl) ?_
                          have b58 : 0 ≤ h 63 (d.toNat) ∧ h 63 (d.toNat) ≤ 4 := hI.1 63 _
                          refine fz_istore (ls' := [(10, fz_i (h 63 (d.toNat))), (9, fz_i x42), (8, fz_i x43), (7, fz_i x44), (6, fz_i x45), (5, fz_i y39), (0, fz_r 53), (1, fz_i d), (2, fz_i t), (3, fz_i se), (4, fz_i nw)]) kX11_drawn rfl (by decide) rfl ?_
                          refine fz_iconst ⟨by decide, by decide⟩ kX11_drawn rfl ?_
                          refine fz_istore (ls' := [(11, fz_i 0), (10, fz_i (h 63 (d.toNat))), (9, fz_i x42), (8, fz_i x43), (7, fz_i x44), (6, fz_i x45), (5, fz_i y39), (0, fz_r 53), (1, fz_i d), (2, fz_i t), (3, fz_i se), (4, fz_i nw)]) kX11_drawn rfl (by decide) rfl ?_
                          have lp63 : ∀ (n62 : Nat) (x59 : Int) (x60 : Int) (x61 : Int), (0 ≤ x59 ∧ x59 ≤ 2147483647) → (0 ≤ x60 ∧ x60 ≤ 4) → ((-2147483648) ≤ x61 ∧ x61 ≤ 2147483647) → (y39 - x59).toNat < n62 → fz_R 3 mX11_drawn 96 [(11, fz_i x59), (10, fz_i x60), (9, fz_i x42), (8, fz_i x43), (7, fz_i x44), (6, fz_i x61), (5, fz_i y39), (0, fz_r 53), (1, fz_i d), (2, fz_i t), (3, fz_i se), (4, fz_i nw)] [] H32 (qX11_drawn h d t se nw) := by
                            intro n62
                            induction n62 with
                            | zero => intro x59 x60 x61 hv66 hv67 hv68 hm65; exact absurd hm65 (by omega)
                            | succ n62 ih64 =>
                              intro x59 x60 x61 hv66 hv67 hv68 hm65
                              refine fz_iload kX11_drawn rfl rfl ?_
                              refine fz_iload kX11_drawn rfl rfl ?_
                              refine fz_icmp_ge (tgt := 144) kX11_drawn rfl (by decide) (fun c69 => ?_) (fun c69 => ?_)
                              · refine fz_iload kX11_drawn rfl rfl ?_
                                refine fz_aload_n kX11_drawn rfl rfl ?_
                                refine fz_getR (t := 63) kX11_drawn rfl rfl ?_
                                refine fz_iload_n kX11_drawn rfl rfl ?_
                                refine fz_ialdV (n := 11) (v := h 63 (d.toNat)) kX11_drawn rfl rfl (by omega) (by omega) (hf40 63 _ rfl) ?_
                                refine fz_icmp_ne (tgt := 158) kX11_drawn rfl (by decide) (fun c70 => ?_) (fun c70 => ?_)
                                · refine fz_iload kX11_drawn rfl rfl ?_
                                  refine fz_iload kX11_drawn rfl rfl ?_
                                  refine fz_iaddN kX11_drawn rfl (by omega) ?_
                                  refine fz_istore (ls' := [(8, fz_i (x43 + x60)), (11, fz_i x59), (10, fz_i x60), (9, fz_i x42), (7, fz_i x44), (6, fz_i x61), (5, fz_i y39), (0, fz_r 53), (1, fz_i d), (2, fz_i t), (3, fz_i se), (4, fz_i nw)]) kX11_drawn rfl (by decide) rfl ?_
                                  refine fz_iincN (ls' := [(9, fz_i (x42 + 1)), (8, fz_i (x43 + x60)), (11, fz_i x59), (10, fz_i x60), (7, fz_i x44), (6, fz_i x61), (5, fz_i y39), (0, fz_r 53), (1, fz_i d), (2, fz_i t), (3, fz_i se), (4, fz_i nw)]) kX11_drawn rfl (by decide) rfl (by omega) rfl ?_
                                  refine fz_goto (tgt := 75) kX11_drawn rfl (by decide) ?_
                                  refine fz_sub (fz_pk_sub (ls' := [(9, fz_i (x42 + 1)), (8, fz_i (x43 + x60)), (7, fz_i x44), (6, fz_i x61), (5, fz_i y39), (0, fz_r 53), (1, fz_i d), (2, fz_i t), (3, fz_i se), (4, fz_i nw)]) [0, 1, 4, 5, 6, 7, 8, 9, 10, 11] rfl) ?_
                                  exact ih48 (x42 + 1) (x43 + x60) x44 x61 (by omega) (by omega) (by omega) (by omega) (by omega) (by omega) (by omega)
                                · refine fz_iincN (ls' := [(7, fz_i (x44 + 1)), (11, fz_i x59), (10, fz_i x60), (9, fz_i x42), (8, fz_i x43), (6, fz_i x61), (5, fz_i y39), (0, fz_r 53), (1, fz_i d), (2, fz_i t), (3, fz_i se), (4, fz_i nw)]) kX11_drawn rfl (by decide) rfl (by omega) rfl ?_
                                  refine fz_iload kX11_drawn rfl rfl ?_
                                  refine fz_iload kX11_drawn rfl rfl ?_
                                  refine fz_iaddN kX11_drawn rfl (by omega) ?_
                                  refine fz_istore (ls' := [(8, fz_i (x43 + x60)), (7, fz_i (x44 + 1)), (11, fz_i x59), (10, fz_i x60), (9, fz_i x42), (6, fz_i x61), (5, fz_i y39), (0, fz_r 53), (1, fz_i d), (2, fz_i t), (3, fz_i se), (4, fz_i nw)]) kX11_drawn rfl (by decide) rfl ?_
                                  refine fz_iincN (ls' := [(9, fz_i (x42 + 1)), (8, fz_i (x43 + x60)), (7, fz_i (x44 + 1)), (11, fz_i x59), (10, fz_i x60), (6, fz_i x61), (5, fz_i y39), (0, fz_r 53), (1, fz_i d), (2, fz_i t), (3, fz_i se), (4, fz_i nw)]) kX11_drawn rfl (by decide) rfl (by omega) rfl ?_
                                  refine fz_goto (tgt := 75) kX11_drawn rfl (by decide) ?_
                                  refine fz_sub (fz_pk_sub (ls' := [(9, fz_i (x42 + 1)), (8, fz_i (x43 + x60)), (7, fz_i (x44 + 1)), (6, fz_i x61), (5, fz_i y39), (0, fz_r 53), (1, fz_i d), (2, fz_i t), (3, fz_i se), (4, fz_i nw)]) [0, 1, 2, 5, 6, 7, 8, 9, 10, 11] rfl) ?_
                                  exact ih48 (x42 + 1) (x43 + x60) (x44 + 1) x61 (by omega) (by omega) (by omega) (by omega) (by omega) (by omega) (by omega)
                              · refine fz_iload kX11_drawn rfl rfl ?_
                                refine fz_ldcw (x := 1103515245) kX11_drawn rfl rfl rfl ?_
                                refine fz_imul kX11_drawn rfl ?_
                                refine fz_nmw (fun z71 e72 => ?_)
                                refine fz_sipush ⟨by decide, by decide⟩ kX11_drawn rfl ?_
                                refine fz_iadd kX11_drawn rfl ?_
                                refine fz_nmw (fun z73 e74 => ?_)
                                refine fz_istore (ls' := [(6, fz_i z73), (11, fz_i x59), (10, fz_i x60), (9, fz_i x42), (8, fz_i x43), (7, fz_i x44), (5, fz_i y39), (0, fz_r 53), (1, fz_i d), (2, fz_i t), (3, fz_i se), (4, fz_i nw)]) kX11_drawn rfl (by decide) rfl ?_
                                refine fz_iload kX11_drawn rfl rfl ?_
                                refine fz_bipush ⟨by decide, by decide⟩ kX11_drawn rfl ?_
                                refine fz_iushr kX11_drawn rfl ?_
                                have b75 : -2147483648 ≤ (fz_ush z73 8) ∧ (fz_ush z73 8) < 2147483648 := fz_b32 _
                                refine fz_bipush ⟨by decide, by decide⟩ kX11_drawn rfl ?_
                                refine fz_iremT kX11_drawn rfl (by decide) (by decide) (fun z76 r77 e78 e79 e80 e81 e82 e83 => ?_)
                                refine fz_aload_n kX11_drawn rfl rfl ?_
                                refine fz_getV (v := h 53 9) kX11_drawn rfl rfl (hf40 53 9 rfl) ?_
                                have b85 : 0 ≤ h 53 9 ∧ h 53 9 ≤ 12 := hI.1 53 _
                                refine fz_icmp_ge (tgt := 138) kX11_drawn rfl (by decide) (fun c86 => ?_) (fun c86 => ?_)
                                · refine fz_iincN (ls' := [(11, fz_i (x59 + 1)), (6, fz_i z73), (10, fz_i x60), (9, fz_i x42), (8, fz_i x43), (7, fz_i x44), (5, fz_i y39), (0, fz_r 53), (1, fz_i d), (2, fz_i t), (3, fz_i se), (4, fz_i nw)]) kX11_drawn rfl (by decide) rfl (by omega) rfl ?_
                                  refine fz_goto (tgt := 96) kX11_drawn rfl (by decide) ?_
                                  refine fz_sub (fz_pk_sub (ls' := [(11, fz_i (x59 + 1)), (10, fz_i x60), (9, fz_i x42), (8, fz_i x43), (7, fz_i x44), (6, fz_i z73), (5, fz_i y39), (0, fz_r 53), (1, fz_i d), (2, fz_i t), (3, fz_i se), (4, fz_i nw)]) [0, 2, 3, 4, 5, 1, 6, 7, 8, 9, 10, 11] rfl) ?_
                                  exact ih64 (x59 + 1) x60 z73 (by omega) (by omega) (by omega) (by omega)
                                · refine fz_iload kX11_drawn rfl rfl ?_
                                  refine fz_iconst ⟨by decide, by decide⟩ kX11_drawn rfl ?_
                                  refine fz_iaddN kX11_drawn rfl (by omega) ?_
                                  refine fz_iconst ⟨by decide, by decide⟩ kX11_drawn rfl ?_
                                  refine fz_iremN kX11_drawn rfl (by omega) (by omega) (by omega) ?_
                                  refine fz_istore (ls' := [(10, fz_i ((x60 + 1) % 5)), (6, fz_i z73), (11, fz_i x59), (9, fz_i x42), (8, fz_i x43), (7, fz_i x44), (5, fz_i y39), (0, fz_r 53), (1, fz_i d), (2, fz_i t), (3, fz_i se), (4, fz_i nw)]) kX11_drawn rfl (by decide) rfl ?_
                                  refine fz_iincN (ls' := [(11, fz_i (x59 + 1)), (10, fz_i ((x60 + 1) % 5)), (6, fz_i z73), (9, fz_i x42), (8, fz_i x43), (7, fz_i x44), (5, fz_i y39), (0, fz_r 53), (1, fz_i d), (2, fz_i t), (3, fz_i se), (4, fz_i nw)]) kX11_drawn rfl (by decide) rfl (by omega) rfl ?_
                                  refine fz_goto (tgt := 96) kX11_drawn rfl (by decide) ?_
                                  refine fz_sub (fz_pk_sub (ls' := [(11, fz_i (x59 + 1)), (10, fz_i ((x60 + 1) % 5)), (9, fz_i x42), (8, fz_i x43), (7, fz_i x44), (6, fz_i z73), (5, fz_i y39), (0, fz_r 53), (1, fz_i d), (2, fz_i t), (3, fz_i se), (4, fz_i nw)]) [0, 1, 3, 4, 5, 2, 6, 7, 8, 9, 10, 11] rfl) ?_
                                  exact ih64 (x59 + 1) ((x60 + 1) % 5) z73 (by omega) (by omega) (by omega) (by omega)
                          exact lp63 _ 0 (h 63 (d.toNat)) x45 (by omega) (by omega) (by omega) (Nat.lt_succ_self _)
                    exact lp47 _ 0 0 0 se (by omega) (by omega) (by omega) (by omega) (by omega) (by omega) (Nat.lt_succ_self _)
                  · refine fz_iconst ⟨by decide, by decide⟩ kX11_drawn rfl ?_
                    exact fz_iret kX11_drawn rfl rfl (fun _ => ⟨hI36, hf40, _, rfl, (by omega)⟩)
                · refine fz_iconst ⟨by decide, by decide⟩ kX11_drawn rfl ?_
                  exact fz_iret kX11_drawn rfl rfl (fun _ => ⟨hI, hf, _, rfl, (by omega)⟩)
            · refine fz_if_eq (tgt := 44) kX11_drawn rfl (by decide) (fun c87 => ?_) (fun c87 => ?_)
              · refine fz_iconst ⟨by decide, by decide⟩ kX11_drawn rfl ?_
                exact fz_iret kX11_drawn rfl rfl (fun _ => ⟨hI, hf, _, rfl, (by omega)⟩)
              · exfalso; omega
      · refine fz_if_eq (tgt := 44) kX11_drawn rfl (by decide) (fun c88 => ?_) (fun c88 => ?_)
        · refine fz_iconst ⟨by decide, by decide⟩ kX11_drawn rfl ?_
          exact fz_iret kX11_drawn rfl rfl (fun _ => ⟨hI, hf, _, rfl, (by omega)⟩)
        · exfalso; omega
  · refine fz_if_eq (tgt := 44) kX11_drawn rfl (by decide) (fun c89 => ?_) (fun c89 => ?_)
    · refine fz_iconst ⟨by decide, by decide⟩ kX11_drawn rfl ?_
      exact fz_iret kX11_drawn rfl rfl (fun _ => ⟨hI, hf, _, rfl, (by omega)⟩)
    · exfalso; omega

abbrev qX11_walk (h : fz_H) (on rd : Int) : fz_H → Option fz_V → Prop := fun h' r0 => fz_Iv h' ∧ fz_fr [(53, 34), (74, 99999), (75, 99999), (76, 99999), (77, 99999), (86, 99999), (87, 99999), (88, 99999)] h h' ∧ ∃ r : Int, r0 = some (fz_i r) ∧ ((-5) ≤ r ∧ r ≤ 7)
set_option maxHeartbeats 1000000 in
set_option maxRecDepth 100000 in
theorem sX11_walk (h : fz_H) (hI : fz_Iv h) (on rd : Int) : fz_R 5 mX11_walk 0 [(0, fz_r 53), (1, fz_i on), (2, fz_i rd)] [] h (qX11_walk h on rd) := by
  refine fz_knowl (fun hk => ?_)
  have hr_on : -2147483648 ≤ on ∧ on < 2147483648 := hk _ (List.Mem.tail _ (List.Mem.head _))
  have hr_rd : -2147483648 ≤ rd ∧ rd < 2147483648 := hk _ (List.Mem.tail _ (List.Mem.tail _ (List.Mem.head _)))
  clear hk
  have hf : fz_fr [(53, 34), (74, 99999), (75, 99999), (76, 99999), (77, 99999), (86, 99999), (87, 99999), (88, 99999)] h h := fz_fr_rf
  refine fz_iload_n kX11_walk rfl rfl ?_
  refine fz_callS (d' := 1) (M' := mX11_isPerson) (As := [fz_i on]) (st := []) kX11_walk rfl rfl vX11_isPerson rfl rfl (Nat.le_of_ble_eq_true rfl) (Nat.le_of_ble_eq_true rfl) (by decide) (sX11_isPerson h hI on ) (fun H1 r2 q3 o4 => ?_)
  obtain ⟨e5, y6, rfl, p7⟩ := q3
  subst H1
  clear o4
  rcases p7 with ⟨rfl, c8⟩ | ⟨rfl, c8⟩
  · refine fz_if_eq (tgt := 15) kX11_walk rfl (by decide) (fun c9 => ?_) (fun c9 => ?_)
    · exfalso; omega
    · refine fz_aload_n kX11_walk rfl rfl ?_
      refine fz_iload_n kX11_walk rfl rfl ?_
      have b10 : 0 ≤ h 53 2 ∧ h 53 2 ≤ 12 := hI.1 53 _
      refine fz_callV (d' := 1) (M' := mX11_isRoad) (As := [fz_i rd]) (st := []) kX11_walk rfl rfl vX11_isRoad rfl rfl rfl rfl (Nat.le_of_ble_eq_true rfl) (Nat.le_of_ble_eq_true rfl) (by decide) (sX11_isRoad h hI rd ) (fun H11 r12 q13 o14 => ?_)
      obtain ⟨e15, y16, rfl, p17⟩ := q13
      subst H11
      clear o14
      rcases p17 with ⟨rfl, c18⟩ | ⟨rfl, c18⟩
      · refine fz_if_ne (tgt := 17) kX11_walk rfl (by decide) (fun c19 => ?_) (fun c19 => ?_)
        · refine fz_aload_n kX11_walk rfl rfl ?_
          refine fz_getR (t := 76) kX11_walk rfl rfl ?_
          refine fz_iload_n kX11_walk rfl rfl ?_
          refine fz_ialdV (n := 4) (v := h 76 (on.toNat)) kX11_walk rfl rfl (by omega) (by omega) rfl ?_
          have b20 : 0 ≤ h 76 (on.toNat) ∧ h 76 (on.toNat) ≤ 7 := hI.1 76 _
          refine fz_istore_n (ls' := [(3, fz_i (h 76 (on.toNat))), (0, fz_r 53), (1, fz_i on), (2, fz_i rd)]) kX11_walk rfl (by decide) rfl ?_
          refine fz_aload_n kX11_walk rfl rfl ?_
          refine fz_getR (t := 55) kX11_walk rfl rfl ?_
          refine fz_iload_n kX11_walk rfl rfl ?_
          refine fz_ialdV (n := 12) (v := h 55 (rd.toNat)) kX11_walk rfl rfl (by omega) (by omega) rfl ?_
          have b21 : 0 ≤ h 55 (rd.toNat) ∧ h 55 (rd.toNat) ≤ 7 := hI.1 55 _
          refine fz_iload_n kX11_walk rfl rfl ?_
          refine fz_icmp_eq (tgt := 47) kX11_walk rfl (by decide) (fun c22 => ?_) (fun c22 => ?_)
          · refine fz_aload_n kX11_walk rfl rfl ?_
            refine fz_getV (v := h 53 34) kX11_walk rfl rfl rfl ?_
            have b23 : 0 ≤ h 53 34 ∧ h 53 34 ≤ 999 := hI.1 53 _
            refine fz_aload_n kX11_walk rfl rfl ?_
            refine fz_getR (t := 57) kX11_walk rfl rfl ?_
            refine fz_iload_n kX11_walk rfl rfl ?_
            refine fz_ialdV (n := 12) (v := h 57 (rd.toNat)) kX11_walk rfl rfl (by omega) (by omega) rfl ?_
            have b24 : 0 ≤ h 57 (rd.toNat) ∧ h 57 (rd.toNat) ≤ 24 := hI.1 57 _
            refine fz_iaddN kX11_walk rfl (by omega) ?_
            refine fz_sipush ⟨by decide, by decide⟩ kX11_walk rfl ?_
            refine fz_icmp_le (tgt := 67) kX11_walk rfl (by decide) (fun c25 => ?_) (fun c25 => ?_)
            · refine fz_aload_n kX11_walk rfl rfl ?_
              refine fz_dup rfl kX11_walk rfl ?_
              refine fz_getV (v := h 53 34) kX11_walk rfl rfl rfl ?_
              refine fz_aload_n kX11_walk rfl rfl ?_
              refine fz_getR (t := 57) kX11_walk rfl rfl ?_
              refine fz_iload_n kX11_walk rfl rfl ?_
              refine fz_ialdV (n := 12) (v := h 57 (rd.toNat)) kX11_walk rfl rfl (by omega) (by omega) rfl ?_
              refine fz_iaddN kX11_walk rfl (by omega) ?_
              refine fz_putI kX11_walk rfl rfl rfl ?_
              refine fz_nmu (S := [(53, 34), (74, 99999), (75, 99999), (76, 99999), (77, 99999), (86, 99999), (87, 99999), (88, 99999)]) (h0 := h) (fz_Iv_up hI (by decide) (show 0 ≤ ((h 53 34) + (h 57 (rd.toNat))) by omega) (show ((h 53 34) + (h 57 (rd.toNat))) ≤ 999 by omega)) (fz_fr_up hf rfl) (fun H26 hI27 hf28 e29 => ?_)
              have k30 : H26 53 34 = ((h 53 34) + (h 57 (rd.toNat))) := by rw [e29]; exact fz_up_e
              clear e29
              refine fz_aload_n kX11_walk rfl rfl ?_
              refine fz_getR (t := 76) kX11_walk rfl rfl ?_
              refine fz_iload_n kX11_walk rfl rfl ?_
              refine fz_aload_n kX11_walk rfl rfl ?_
              refine fz_getR (t := 55) kX11_walk rfl rfl ?_
              refine fz_iload_n kX11_walk rfl rfl ?_
              refine fz_ialdV (n := 12) (v := h 55 (rd.toNat)) kX11_walk rfl rfl (by omega) (by omega) (hf28 55 _ rfl) ?_
              refine fz_iload_n kX11_walk rfl rfl ?_
              refine fz_icmp_ne (tgt := 106) kX11_walk rfl (by decide) (fun c31 => ?_) (fun c31 => ?_)
              · refine fz_aload_n kX11_walk rfl rfl ?_
                refine fz_getR (t := 55) kX11_walk rfl rfl ?_
                refine fz_iload_n kX11_walk rfl rfl ?_
                refine fz_ialdV (n := 12) (v := h 55 (rd.toNat)) kX11_walk rfl rfl (by omega) (by omega) (hf28 55 _ rfl) ?_
                refine fz_iast (n := 4) kX11_walk rfl rfl (by omega) (by omega) ?_
                refine fz_nmu (S := [(53, 34), (74, 99999), (75, 99999), (76, 99999), (77, 99999), (86, 99999), (87, 99999), (88, 99999)]) (h0 := h) (fz_Iv_up hI27 (by decide) (show 0 ≤ (h 55 (rd.toNat)) by omega) (show (h 55 (rd.toNat)) ≤ 7 by omega)) (fz_fr_up hf28 rfl) (fun H32 hI33 hf34 e35 => ?_)
                have k36 : H32 53 34 = ((h 53 34) + (h 57 (rd.toNat))) := by rw [e35]; exact (fz_up_o (by decide)).trans k30
                clear e35
                refine fz_aload_n kX11_walk rfl rfl ?_
                refine fz_getR (t := 77) kX11_walk rfl rfl ?_
                refine fz_iconst ⟨by decide, by decide⟩ kX11_walk rfl ?_
                refine fz_dup2 rfl rfl kX11_walk rfl ?_
                obtain ⟨v37, e38⟩ : ∃ z, H32 77 (0) = z := ⟨_, rfl⟩
                refine fz_ialdV (n := 4) (v := v37) kX11_walk rfl rfl (by omega) (by omega) e38 ?_
                have b39 : (-2147483648) ≤ v37 ∧ v37 ≤ 2147483647 := by rw [← e38]; exact hI33.1 77 _
                refine fz_iconst ⟨by decide, by decide⟩ kX11_walk rfl ?_
                refine fz_iadd kX11_walk rfl ?_
                refine fz_nmw (fun z40 e41 => ?_)
                refine fz_iast (n := 4) kX11_walk rfl rfl (by omega) (by omega) ?_
                refine fz_nmu (S := [(53, 34), (74, 99999), (75, 99999), (76, 99999), (77, 99999), (86, 99999), (87, 99999), (88, 99999)]) (h0 := h) (fz_Iv_up hI33 (by decide) (show (-2147483648) ≤ z40 by omega) (show z40 ≤ 2147483647 by omega)) (fz_fr_up hf34 rfl) (fun H42 hI43 hf44 e45 => ?_)
                have k46 : H42 53 34 = ((h 53 34) + (h 57 (rd.toNat))) := by rw [e45]; exact (fz_up_o (by decide)).trans k36
                clear e45
                refine fz_aload_n kX11_walk rfl rfl ?_
                refine fz_getR (t := 77) kX11_walk rfl rfl ?_
                refine fz_iconst ⟨by decide, by decide⟩ kX11_walk rfl ?_
                refine fz_dup2 rfl rfl kX11_walk rfl ?_
                obtain ⟨v47, e48⟩ : ∃ z, H42 77 (1) = z := ⟨_, rfl⟩
                refine fz_ialdV (n := 4) (v := v47) kX11_walk rfl rfl (by omega) (by omega) e48 ?_
                have b49 : (-2147483648) ≤ v47 ∧ v47 ≤ 2147483647 := by rw [← e48]; exact hI43.1 77 _
                refine fz_aload_n kX11_walk rfl rfl ?_
                refine fz_getR (t := 57) kX11_walk rfl rfl ?_
                refine fz_iload_n kX11_walk rfl rfl ?_
                refine fz_ialdV (n := 12) (v := h 57 (rd.toNat)) kX11_walk rfl rfl (by omega) (by omega) (hf44 57 _ rfl) ?_
                refine fz_iadd kX11_walk rfl ?_
                refine fz_nmw (fun z50 e51 => ?_)
                refine fz_iast (n := 4) kX11_walk rfl rfl (by omega) (by omega) ?_
                refine fz_nmu (S := [(53, 34), (74, 99999), (75, 99999), (76, 99999), (77, 99999), (86, 99999), (87, 99999), (88, 99999)]) (h0 := h) (fz_Iv_up hI43 (by decide) (show (-2147483648) ≤ z50 by omega) (show z50 ≤ 2147483647 by omega)) (fz_fr_up hf44 rfl) (fun H52 hI53 hf54 e55 => ?_)
                have k56 : H52 53 34 = ((h 53 34) + (h 57 (rd.toNat))) := by rw [e55]; exact (fz_up_o (by decide)).trans k46
                clear e55
                refine fz_aload_n kX11_walk rfl rfl ?_
                refine fz_callV (d' := 3) (M' := mX11_allHear) (As := []) (st := []) kX11_walk rfl rfl vX11_allHear rfl rfl rfl rfl (Nat.le_of_ble_eq_true rfl) (Nat.le_of_ble_eq_true rfl) (by decide) (sX11_allHear H52 hI53  ) (fun H57 r58 q59 o60 => ?_)
                obtain ⟨hI61, hf62, rfl⟩ := q59
                clear o60
                have hf63 := fz_fr_tr hf54 hf62 (show fz_su [(86, 99999), (87, 99999), (88, 99999)] [(53, 34), (74, 99999), (75, 99999), (76, 99999), (77, 99999), (86, 99999), (87, 99999), (88, 99999)] = true from rfl)
                have k64 : H57 53 34 = ((h 53 34) + (h 57 (rd.toNat))) := (hf62 53 34 rfl).trans k56
                refine fz_aload_n kX11_walk rfl rfl ?_
                refine fz_iload_n kX11_walk rfl rfl ?_
                refine fz_aload_n kX11_walk rfl rfl ?_
                refine fz_getR (t := 76) kX11_walk rfl rfl ?_
                refine fz_iload_n kX11_walk rfl rfl ?_
                obtain ⟨v65, e66⟩ : ∃ z, H57 76 (on.toNat) = z := ⟨_, rfl⟩
                refine fz_ialdV (n := 4) (v := v65) kX11_walk rfl rfl (by omega) (by omega) e66 ?_
                have b67 : 0 ≤ v65 ∧ v65 ≤ 7 := by rw [← e66]; exact hI61.1 76 _
                refine fz_aload_n kX11_walk rfl rfl ?_
                refine fz_getV (v := ((h 53 34) + (h 57 (rd.toNat)))) kX11_walk rfl rfl k64 ?_
                refine fz_callV (d' := 4) (M' := mX11_isArrested) (As := [fz_i on, fz_i v65, fz_i ((h 53 34) + (h 57 (rd.toNat)))]) (st := []) kX11_walk rfl rfl vX11_isArrested rfl rfl rfl rfl (Nat.le_of_ble_eq_true rfl) (Nat.le_of_ble_eq_true rfl) (by decide) (sX11_isArrested H57 hI61 on v65 ((h 53 34) + (h 57 (rd.toNat))) (by omega)) (fun H68 r69 q70 o71 => ?_)
                obtain ⟨hI72, hf73, y74, rfl, p75⟩ := q70
                clear o71
                have hf76 := fz_fr_tr hf63 hf73 (show fz_su [(74, 99999), (75, 99999)] [(53, 34), (74, 99999), (75, 99999), (76, 99999), (77, 99999), (86, 99999), (87, 99999), (88, 99999)] = true from rfl)
                have k77 : H68 53 34 = ((h 53 34) + (h 57 (rd.toNat))) := (hf73 53 34 rfl).trans k64
                refine fz_if_eq (tgt := 170) kX11_walk rfl (by decide) (fun c78 => ?_) (fun c78 => ?_)
                · refine fz_aload_n kX11_walk rfl rfl ?_
                  refine fz_getR (t := 76) kX11_walk rfl rfl ?_
                  refine fz_iload_n kX11_walk rfl rfl ?_
                  obtain ⟨v79, e80⟩ : ∃ z, H68 76 (on.toNat) = z := ⟨_, rfl⟩
                  refine fz_ialdV (n := 4) (v := v79) kX11_walk rfl rfl (by omega) (by omega) e80 ?_
                  have b81 : 0 ≤ v79 ∧ v79 ≤ 7 := by rw [← e80]; exact hI72.1 76 _
                  exact fz_iret kX11_walk rfl rfl (fun _ => ⟨hI72, hf76, _, rfl, (by omega)⟩)
                · refine fz_aload_n kX11_walk rfl rfl ?_
                  refine fz_getR (t := 77) kX11_walk rfl rfl ?_
                  refine fz_iconst ⟨by decide, by decide⟩ kX11_walk rfl ?_
                  refine fz_dup2 rfl rfl kX11_walk rfl ?_
                  obtain ⟨v82, e83⟩ : ∃ z, H68 77 (2) = z := ⟨_, rfl⟩
                  refine fz_ialdV (n := 4) (v := v82) kX11_walk rfl rfl (by omega) (by omega) e83 ?_
                  have b84 : (-2147483648) ≤ v82 ∧ v82 ≤ 2147483647 := by rw [← e83]; exact hI72.1 77 _
                  refine fz_iconst ⟨by decide, by decide⟩ kX11_walk rfl ?_
                  refine fz_iadd kX11_walk rfl ?_
                  refine fz_nmw (fun z85 e86 => ?_)
                  refine fz_iast (n := 4) kX11_walk rfl rfl (by omega) (by omega) ?_
                  refine fz_nmu (S := [(53, 34), (74, 99999), (75, 99999), (76, 99999), (77, 99999), (86, 99999), (87, 99999), (88, 99999)]) (h0 := h) (fz_Iv_up hI72 (by decide) (show (-2147483648) ≤ z85 by omega) (show z85 ≤ 2147483647 by omega)) (fz_fr_up hf76 rfl) (fun H87 hI88 hf89 e90 => ?_)
                  have k91 : H87 53 34 = ((h 53 34) + (h 57 (rd.toNat))) := by rw [e90]; exact (fz_up_o (by decide)).trans k77
                  clear e90
                  refine fz_aload_n kX11_walk rfl rfl ?_
                  refine fz_getR (t := 76) kX11_walk rfl rfl ?_
                  refine fz_iload_n kX11_walk rfl rfl ?_
                  obtain ⟨v92, e93⟩ : ∃ z, H87 76 (on.toNat) = z := ⟨_, rfl⟩
                  refine fz_ialdV (n := 4) (v := v92) kX11_walk rfl rfl (by omega) (by omega) e93 ?_
                  have b94 : 0 ≤ v92 ∧ v92 ≤ 7 := by rw [← e93]; exact hI88.1 76 _
                  exact fz_iret kX11_walk rfl rfl (fun _ => ⟨hI88, hf89, _, rfl, (by omega)⟩)
              · refine fz_aload_n kX11_walk rfl rfl ?_
                refine fz_getR (t := 56) kX11_walk rfl rfl ?_
                refine fz_iload_n kX11_walk rfl rfl ?_
                refine fz_ialdV (n := 12) (v := h 56 (rd.toNat)) kX11_walk rfl rfl (by omega) (by omega) (hf28 56 _ rfl) ?_
                have b95 : 0 ≤ h 56 (rd.toNat) ∧ h 56 (rd.toNat) ≤ 7 := hI.1 56 _
                refine fz_goto (tgt := 112) kX11_walk rfl (by decide) ?_
                refine fz_iast (n := 4) kX11_walk rfl rfl (by omega) (by omega) ?_
                refine fz_nmu (S := [(53, 34), (74, 99999), (75, 99999), (76, 99999), (77, 99999), (86, 99999), (87, 99999), (88, 99999)]) (h0 := h) (fz_Iv_up hI27 (by decide) (show 0 ≤ (h 56 (rd.toNat)) by omega) (show (h 56 (rd.toNat)) ≤ 7 by omega)) (fz_fr_up hf28 rfl) (fun H96 hI97 hf98 e99 => ?_)
                have k100 : H96 53 34 = ((h 53 34) + (h 57 (rd.toNat))) := by rw [e99]; exact (fz_up_o (by decide)).trans k30
                clear e99
                refine fz_aload_n kX11_walk rfl rfl ?_
                refine fz_getR (t := 77) kX11_walk rfl rfl ?_
                refine fz_iconst ⟨by decide, by decide⟩ kX11_walk rfl ?_
                refine fz_dup2 rfl rfl kX11_walk rfl ?_
                obtain ⟨v101, e102⟩ : ∃ z, H96 77 (0) = z := ⟨_, rfl⟩
                refine fz_ialdV (n := 4) (v := v101) kX11_walk rfl rfl (by omega) (by omega) e102 ?_
                have b103 : (-2147483648) ≤ v101 ∧ v101 ≤ 2147483647 := by rw [← e102]; exact hI97.1 77 _
                refine fz_iconst ⟨by decide, by decide⟩ kX11_walk rfl ?_
                refine fz_iadd kX11_walk rfl ?_
                refine fz_nmw (fun z104 e105 => ?_)
                refine fz_iast (n := 4) kX11_walk rfl rfl (by omega) (by omega) ?_
                refine fz_nmu (S := [(53, 34), (74, 99999), (75, 99999), (76, 99999), (77, 99999), (86, 99999), (87, 99999), (88, 99999)]) (h0 := h) (fz_Iv_up hI97 (by decide) (show (-2147483648) ≤ z104 by omega) (show z104 ≤ 2147483647 by omega)) (fz_fr_up hf98 rfl) (fun H106 hI107 hf108 e109 => ?_)
                have k110 : H106 53 34 = ((h 53 34) + (h 57 (rd.toNat))) := by rw [e109]; exact (fz_up_o (by decide)).trans k100
                clear e109
                refine fz_aload_n kX11_walk rfl rfl ?_
                refine fz_getR (t := 77) kX11_walk rfl rfl ?_
                refine fz_iconst ⟨by decide, by decide⟩ kX11_walk rfl ?_
                refine fz_dup2 rfl rfl kX11_walk rfl ?_
                obtain ⟨v111, e112⟩ : ∃ z, H106 77 (1) = z := ⟨_, rfl⟩
                refine fz_ialdV (n := 4) (v := v111) kX11_walk rfl rfl (by omega) (by omega) e112 ?_
                have b113 : (-2147483648) ≤ v111 ∧ v111 ≤ 2147483647 := by rw [← e112]; exact hI107.1 77 _
                refine fz_aload_n kX11_walk rfl rfl ?_
                refine fz_getR (t := 57) kX11_walk rfl rfl ?_
                refine fz_iload_n kX11_walk rfl rfl ?_
                refine fz_ialdV (n := 12) (v := h 57 (rd.toNat)) kX11_walk rfl rfl (by omega) (by omega) (hf108 57 _ rfl) ?_
                refine fz_iadd kX11_walk rfl ?_
                refine fz_nmw (fun z114 e115 => ?_)
                refine fz_iast (n := 4) kX11_walk rfl rfl (by omega) (by omega) ?_
                refine fz_nmu (S := [(53, 34), (74, 99999), (75, 99999), (76, 99999), (77, 99999), (86, 99999), (87, 99999), (88, 99999)]) (h0 := h) (fz_Iv_up hI107 (by decide) (show (-2147483648) ≤ z114 by omega) (show z114 ≤ 2147483647 by omega)) (fz_fr_up hf108 rfl) (fun H116 hI117 hf118 e119 => ?_)
                have k120 : H116 53 34 = ((h 53 34) + (h 57 (rd.toNat))) := by rw [e119]; exact (fz_up_o (by decide)).trans k110
                clear e119
                refine fz_aload_n kX11_walk rfl rfl ?_
                refine fz_callV (d' := 3) (M' := mX11_allHear) (As := []) (st := []) kX11_walk rfl rfl vX11_allHear rfl rfl rfl rfl (Nat.le_of_ble_eq_true rfl) (Nat.le_of_ble_eq_true rfl) (by decide) (sX11_allHear H116 hI117  ) (fun H121 r122 q123 o124 => ?_)
                obtain ⟨hI125, hf126, rfl⟩ := q123
                clear o124
                have hf127 := fz_fr_tr hf118 hf126 (show fz_su [(86, 99999), (87, 99999), (88, 99999)] [(53, 34), (74, 99999), (75, 99999), (76, 99999), (77, 99999), (86, 99999), (87, 99999), (88, 99999)] = true from rfl)
                have k128 : H121 53 34 = ((h 53 34) + (h 57 (rd.toNat))) := (hf126 53 34 rfl).trans k120
                refine fz_aload_n kX11_walk rfl rfl ?_
                refine fz_iload_n kX11_walk rfl rfl ?_
                refine fz_aload_n kX11_walk rfl rfl ?_
                refine fz_getR (t := 76) kX11_walk rfl rfl ?_
                refine fz_iload_n kX11_walk rfl rfl ?_
                obtain ⟨v129, e130⟩ : ∃ z, H121 76 (on.toNat) = z := ⟨_, rfl⟩
                refine fz_ialdV (n := 4) (v := v129) kX11_walk rfl rfl (by omega) (by omega) e130 ?_
                have b131 : 0 ≤ v129 ∧ v129 ≤ 7 := by rw [← e130]; exact hI125.1 76 _
                refine fz_aload_n kX11_walk rfl rfl ?_
                refine fz_getV (v := ((h 53 34) + (h 57 (rd.toNat)))) kX11_walk rfl rfl k128 ?_
                refine fz_callV (d' := 4) (M' := mX11_isArrested) (As := [fz_i on, fz_i v129, fz_i ((h 53 34) + (h 57 (rd.toNat)))]) (st := []) kX11_walk rfl rfl vX11_isArrested rfl rfl rfl rfl (Nat.le_of_ble_eq_true rfl) (Nat.le_of_ble_eq_true rfl) (by decide) (sX11_isArrested H121 hI125 on v129 ((h 53 34) + (h 57 (rd.toNat))) (by omega)) (fun H132 r133 q134 o135 => ?_)
                obtain ⟨hI136, hf137, y138, rfl, p139⟩ := q134
                clear o135
                have hf140 := fz_fr_tr hf127 hf137 (show fz_su [(74, 99999), (75, 99999)] [(53, 34), (74, 99999), (75, 99999), (76, 99999), (77, 99999), (86, 99999), (87, 99999), (88, 99999)] = true from rfl)
                have k141 : H132 53 34 = ((h 53 34) + (h 57 (rd.toNat))) := (hf137 53 34 rfl).trans k128
                refine fz_if_eq (tgt := 170) kX11_walk rfl (by decide) (fun c142 => ?_) (fun c142 => ?_)
                · refine fz_aload_n kX11_walk rfl rfl ?_
                  refine fz_getR (t := 76) kX11_walk rfl rfl ?_
                  refine fz_iload_n kX11_walk rfl rfl ?_
                  obtain ⟨v143, e144⟩ : ∃ z, H132 76 (on.toNat) = z := ⟨_, rfl⟩
                  refine fz_ialdV (n := 4) (v := v143) kX11_walk rfl rfl (by omega) (by omega) e144 ?_
                  have b145 : 0 ≤ v143 ∧ v143 ≤ 7 := by rw [← e144]; exact hI136.1 76 _
                  exact fz_iret kX11_walk rfl rfl (fun _ => ⟨hI136, hf140, _, rfl, (by omega)⟩)
                · refine fz_aload_n kX11_walk rfl rfl ?_
                  refine fz_getR (t := 77) kX11_walk rfl rfl ?_
                  refine fz_iconst ⟨by decide, by decide⟩ kX11_walk rfl ?_
                  refine fz_dup2 rfl rfl kX11_walk rfl ?_
                  obtain ⟨v146, e147⟩ : ∃ z, H132 77 (2) = z := ⟨_, rfl⟩
                  refine fz_ialdV (n := 4) (v := v146) kX11_walk rfl rfl (by omega) (by omega) e147 ?_
                  have b148 : (-2147483648) ≤ v146 ∧ v146 ≤ 2147483647 := by rw [← e147]; exact hI136.1 77 _
                  refine fz_iconst ⟨by decide, by decide⟩ kX11_walk rfl ?_
                  refine fz_iadd kX11_walk rfl ?_
                  refine fz_nmw (fun z149 e150 => ?_)
                  refine fz_iast (n := 4) kX11_walk rfl rfl (by omega) (by omega) ?_
                  refine fz_nmu (S := [(53, 34), (74, 99999), (75, 99999), (76, 99999), (77, 99999), (86, 99999), (87, 99999), (88, 99999)]) (h0 := h) (fz_Iv_up hI136 (by decide) (show (-2147483648) ≤ z149 by omega) (show z149 ≤ 2147483647 by omega)) (fz_fr_up hf140 rfl) (fun H151 hI152 hf153 e154 => ?_)
                  have k155 : H151 53 34 = ((h 53 34) + (h 57 (rd.toNat))) := by rw [e154]; exact (fz_up_o (by decide)).trans k141
                  clear e154
                  refine fz_aload_n kX11_walk rfl rfl ?_
                  refine fz_getR (t := 76) kX11_walk rfl rfl ?_
                  refine fz_iload_n kX11_walk rfl rfl ?_
                  obtain ⟨v156, e157⟩ : ∃ z, H151 76 (on.toNat) = z := ⟨_, rfl⟩
                  refine fz_ialdV (n := 4) (v := v156) kX11_walk rfl rfl (by omega) (by omega) e157 ?_
                  have b158 : 0 ≤ v156 ∧ v156 ≤ 7 := by rw [← e157]; exact hI152.1 76 _
                  exact fz_iret kX11_walk rfl rfl (fun _ => ⟨hI152, hf153, _, rfl, (by omega)⟩)
            · refine fz_bipush ⟨by decide, by decide⟩ kX11_walk rfl ?_
              exact fz_iret kX11_walk rfl rfl (fun _ => ⟨hI, hf, _, rfl, (by omega)⟩)
          · refine fz_aload_n kX11_walk rfl rfl ?_
            refine fz_getR (t := 56) kX11_walk rfl rfl ?_
            refine fz_iload_n kX11_walk rfl rfl ?_
            refine fz_ialdV (n := 12) (v := h 56 (rd.toNat)) kX11_walk rfl rfl (by omega) (by omega) rfl ?_
            have b159 : 0 ≤ h 56 (rd.toNat) ∧ h 56 (rd.toNat) ≤ 7 := hI.1 56 _
            refine fz_iload_n kX11_walk rfl rfl ?_
            refine fz_icmp_eq (tgt := 47) kX11_walk rfl (by decide) (fun c160 => ?_) (fun c160 => ?_)
            · refine fz_aload_n kX11_walk rfl rfl ?_
              refine fz_getV (v := h 53 34) kX11_walk rfl rfl rfl ?_
              have b161 : 0 ≤ h 53 34 ∧ h 53 34 ≤ 999 := hI.1 53 _
              refine fz_aload_n kX11_walk rfl rfl ?_
              refine fz_getR (t := 57) kX11_walk rfl rfl ?_
              refine fz_iload_n kX11_walk rfl rfl ?_
              refine fz_ialdV (n := 12) (v := h 57 (rd.toNat)) kX11_walk rfl rfl (by omega) (by omega) rfl ?_
              have b162 : 0 ≤ h 57 (rd.toNat) ∧ h 57 (rd.toNat) ≤ 24 := hI.1 57 _
              refine fz_iaddN kX11_walk rfl (by omega) ?_
              refine fz_sipush ⟨by decide, by decide⟩ kX11_walk rfl ?_
              refine fz_icmp_le (tgt := 67) kX11_walk rfl (by decide) (fun c163 => ?_) (fun c163 => ?_)
              · refine fz_aload_n kX11_walk rfl rfl ?_
                refine fz_dup rfl kX11_walk rfl ?_
                refine fz_getV (v := h 53 34) kX11_walk rfl rfl rfl ?_
                refine fz_aload_n kX11_walk rfl rfl ?_
                refine fz_getR (t := 57) kX11_walk rfl rfl ?_
                refine fz_iload_n kX11_walk rfl rfl ?_
                refine fz_ialdV (n := 12) (v := h 57 (rd.toNat)) kX11_walk rfl rfl (by omega) (by omega) rfl ?_
                refine fz_iaddN kX11_walk rfl (by omega) ?_
                refine fz_putI kX11_walk rfl rfl rfl ?_
                refine fz_nmu (S := [(53, 34), (74, 99999), (75, 99999), (76, 99999), (77, 99999), (86, 99999), (87, 99999), (88, 99999)]) (h0 := h) (fz_Iv_up hI (by decide) (show 0 ≤ ((h 53 34) + (h 57 (rd.toNat))) by omega) (show ((h 53 34) + (h 57 (rd.toNat))) ≤ 999 by omega)) (fz_fr_up hf rfl) (fun H164 hI165 hf166 e167 => ?_)
                have k168 : H164 53 34 = ((h 53 34) + (h 57 (rd.toNat))) := by rw [e167]; exact fz_up_e
                clear e167
                refine fz_aload_n kX11_walk rfl rfl ?_
                refine fz_getR (t := 76) kX11_walk rfl rfl ?_
                refine fz_iload_n kX11_walk rfl rfl ?_
                refine fz_aload_n kX11_walk rfl rfl ?_
                refine fz_getR (t := 55) kX11_walk rfl rfl ?_
                refine fz_iload_n kX11_walk rfl rfl ?_
                refine fz_ialdV (n := 12) (v := h 55 (rd.toNat)) kX11_walk rfl rfl (by omega) (by omega) (hf166 55 _ rfl) ?_
                refine fz_iload_n kX11_walk rfl rfl ?_
                refine fz_icmp_ne (tgt := 106) kX11_walk rfl (by decide) (fun c169 => ?_) (fun c169 => ?_)
                · refine fz_aload_n kX11_walk rfl rfl ?_
                  refine fz_getR (t := 55) kX11_walk rfl rfl ?_
                  refine fz_iload_n kX11_walk rfl rfl ?_
                  refine fz_ialdV (n := 12) (v := h 55 (rd.toNat)) kX11_walk rfl rfl (by omega) (by omega) (hf166 55 _ rfl) ?_
                  refine fz_iast (n := 4) kX11_walk rfl rfl (by omega) (by omega) ?_
                  refine fz_nmu (S := [(53, 34), (74, 99999), (75, 99999), (76, 99999), (77, 99999), (86, 99999), (87, 99999), (88, 99999)]) (h0 := h) (fz_Iv_up hI165 (by decide) (show 0 ≤ (h 55 (rd.toNat)) by omega) (show (h 55 (rd.toNat)) ≤ 7 by omega)) (fz_fr_up hf166 rfl) (fun H170 hI171 hf172 e173 => ?_)
                  have k174 : H170 53 34 = ((h 53 34) + (h 57 (rd.toNat))) := by rw [e173]; exact (fz_up_o (by decide)).trans k168
                  clear e173
                  refine fz_aload_n kX11_walk rfl rfl ?_
                  refine fz_getR (t := 77) kX11_walk rfl rfl ?_
                  refine fz_iconst ⟨by decide, by decide⟩ kX11_walk rfl ?_
                  refine fz_dup2 rfl rfl kX11_walk rfl ?_
                  obtain ⟨v175, e176⟩ : ∃ z, H170 77 (0) = z := ⟨_, rfl⟩
                  refine fz_ialdV (n := 4) (v := v175) kX11_walk rfl rfl (by omega) (by omega) e176 ?_
                  have b177 : (-2147483648) ≤ v175 ∧ v175 ≤ 2147483647 := by rw [← e176]; exact hI171.1 77 _
                  refine fz_iconst ⟨by decide, by decide⟩ kX11_walk rfl ?_
                  refine fz_iadd kX11_walk rfl ?_
                  refine fz_nmw (fun z178 e179 => ?_)
                  refine fz_iast (n := 4) kX11_walk rfl rfl (by omega) (by omega) ?_
                  refine fz_nmu (S := [(53, 34), (74, 99999), (75, 99999), (76, 99999), (77, 99999), (86, 99999), (87, 99999), (88, 99999)]) (h0 := h) (fz_Iv_up hI171 (by decide) (show (-2147483648) ≤ z178 by omega) (show z178 ≤ 2147483647 by omega)) (fz_fr_up hf172 rfl) (fun H180 hI181 hf182 e183 => ?_)
                  have k184 : H180 53 34 = ((h 53 34) + (h 57 (rd.toNat))) := by rw [e183]; exact (fz_up_o (by decide)).trans k174
                  clear e183
                  refine fz_aload_n kX11_walk rfl rfl ?_
                  refine fz_getR (t := 77) kX11_walk rfl rfl ?_
                  refine fz_iconst ⟨by decide, by decide⟩ kX11_walk rfl ?_
                  refine fz_dup2 rfl rfl kX11_walk rfl ?_
                  obtain ⟨v185, e186⟩ : ∃ z, H180 77 (1) = z := ⟨_, rfl⟩
                  refine fz_ialdV (n := 4) (v := v185) kX11_walk rfl rfl (by omega) (by omega) e186 ?_
                  have b187 : (-2147483648) ≤ v185 ∧ v185 ≤ 2147483647 := by rw [← e186]; exact hI181.1 77 _
                  refine fz_aload_n kX11_walk rfl rfl ?_
                  refine fz_getR (t := 57) kX11_walk rfl rfl ?_
                  refine fz_iload_n kX11_walk rfl rfl ?_
                  refine fz_ialdV (n := 12) (v := h 57 (rd.toNat)) kX11_walk rfl rfl (by omega) (by omega) (hf182 57 _ rfl) ?_
                  refine fz_iadd kX11_walk rfl ?_
                  refine fz_nmw (fun z188 e189 => ?_)
                  refine fz_iast (n := 4) kX11_walk rfl rfl (by omega) (by omega) ?_
                  refine fz_nmu (S := [(53, 34), (74, 99999), (75, 99999), (76, 99999), (77, 99999), (86, 99999), (87, 99999), (88, 99999)]) (h0 := h) (fz_Iv_up hI181 (by decide) (show (-2147483648) ≤ z188 by omega) (show z188 ≤ 2147483647 by omega)) (fz_fr_up hf182 rfl) (fun H190 hI191 hf192 e193 => ?_)
                  have k194 : H190 53 34 = ((h 53 34) + (h 57 (rd.toNat))) := by rw [e193]; exact (fz_up_o (by decide)).trans k184
                  clear e193
                  refine fz_aload_n kX11_walk rfl rfl ?_
                  refine fz_callV (d' := 3) (M' := mX11_allHear) (As := []) (st := []) kX11_walk rfl rfl vX11_allHear rfl rfl rfl rfl (Nat.le_of_ble_eq_true rfl) (Nat.le_of_ble_eq_true rfl) (by decide) (sX11_allHear H190 hI191  ) (fun H195 r196 q197 o198 => ?_)
                  obtain ⟨hI199, hf200, rfl⟩ := q197
                  clear o198
                  have hf201 := fz_fr_tr hf192 hf200 (show fz_su [(86, 99999), (87, 99999), (88, 99999)] [(53, 34), (74, 99999), (75, 99999), (76, 99999), (77, 99999), (86, 99999), (87, 99999), (88, 99999)] = true from rfl)
                  have k202 : H195 53 34 = ((h 53 34) + (h 57 (rd.toNat))) := (hf200 53 34 rfl).trans k194
                  refine fz_aload_n kX11_walk rfl rfl ?_
                  refine fz_iload_n kX11_walk rfl rfl ?_
                  refine fz_aload_n kX11_walk rfl rfl ?_
                  refine fz_getR (t := 76) kX11_walk rfl rfl ?_
                  refine fz_iload_n kX11_walk rfl rfl ?_
                  obtain ⟨v203, e204⟩ : ∃ z, H195 76 (on.toNat) = z := ⟨_, rfl⟩
                  refine fz_ialdV (n := 4) (v := v203) kX11_walk rfl rfl (by omega) (by omega) e204 ?_
                  have b205 : 0 ≤ v203 ∧ v203 ≤ 7 := by rw [← e204]; exact hI199.1 76 _
                  refine fz_aload_n kX11_walk rfl rfl ?_
                  refine fz_getV (v := ((h 53 34) + (h 57 (rd.toNat)))) kX11_walk rfl rfl k202 ?_
                  refine fz_callV (d' := 4) (M' := mX11_isArrested) (As := [fz_i on, fz_i v203, fz_i ((h 53 34) + (h 57 (rd.toNat)))]) (st := []) kX11_walk rfl rfl vX11_isArrested rfl rfl rfl rfl (Nat.le_of_ble_eq_true rfl) (Nat.le_of_ble_eq_true rfl) (by decide) (sX11_isArrested H195 hI199 on v203 ((h 53 34) + (h 57 (rd.toNat))) (by omega)) (fun H206 r207 q208 o209 => ?_)
                  obtain ⟨hI210, hf211, y212, rfl, p213⟩ := q208
                  clear o209
                  have hf214 := fz_fr_tr hf201 hf211 (show fz_su [(74, 99999), (75, 99999)] [(53, 34), (74, 99999), (75, 99999), (76, 99999), (77, 99999), (86, 99999), (87, 99999), (88, 99999)] = true from rfl)
                  have k215 : H206 53 34 = ((h 53 34) + (h 57 (rd.toNat))) := (hf211 53 34 rfl).trans k202
                  refine fz_if_eq (tgt := 170) kX11_walk rfl (by decide) (fun c216 => ?_) (fun c216 => ?_)
                  · refine fz_aload_n kX11_walk rfl rfl ?_
                    refine fz_getR (t := 76) kX11_walk rfl rfl ?_
                    refine fz_iload_n kX11_walk rfl rfl ?_
                    obtain ⟨v217, e218⟩ : ∃ z, H206 76 (on.toNat) = z := ⟨_, rfl⟩
                    refine fz_ialdV (n := 4) (v := v217) kX11_walk rfl rfl (by omega) (by omega) e218 ?_
                    have b219 : 0 ≤ v217 ∧ v217 ≤ 7 := by rw [← e218]; exact hI210.1 76 _
                    exact fz_iret kX11_walk rfl rfl (fun _ => ⟨hI210, hf214, _, rfl, (by omega)⟩)
                  · refine fz_aload_n kX11_walk rfl rfl ?_
                    refine fz_getR (t := 77) kX11_walk rfl rfl ?_
                    refine fz_iconst ⟨by decide, by decide⟩ kX11_walk rfl ?_
                    refine fz_dup2 rfl rfl kX11_walk rfl ?_
                    obtain ⟨v220, e221⟩ : ∃ z, H206 77 (2) = z := ⟨_, rfl⟩
                    refine fz_ialdV (n := 4) (v := v220) kX11_walk rfl rfl (by omega) (by omega) e221 ?_
                    have b222 : (-2147483648) ≤ v220 ∧ v220 ≤ 2147483647 := by rw [← e221]; exact hI210.1 77 _
                    refine fz_iconst ⟨by decide, by decide⟩ kX11_walk rfl ?_
                    refine fz_iadd kX11_walk rfl ?_
                    refine fz_nmw (fun z223 e224 => ?_)
                    refine fz_iast (n := 4) kX11_walk rfl rfl (by omega) (by omega) ?_
                    refine fz_nmu (S := [(53, 34), (74, 99999), (75, 99999), (76, 99999), (77, 99999), (86, 99999), (87, 99999), (88, 99999)]) (h0 := h) (fz_Iv_up hI210 (by decide) (show (-2147483648) ≤ z223 by omega) (show z223 ≤ 2147483647 by omega)) (fz_fr_up hf214 rfl) (fun H225 hI226 hf227 e228 => ?_)
                    have k229 : H225 53 34 = ((h 53 34) + (h 57 (rd.toNat))) := by rw [e228]; exact (fz_up_o (by decide)).trans k215
                    clear e228
                    refine fz_aload_n kX11_walk rfl rfl ?_
                    refine fz_getR (t := 76) kX11_walk rfl rfl ?_
                    refine fz_iload_n kX11_walk rfl rfl ?_
                    obtain ⟨v230, e231⟩ : ∃ z, H225 76 (on.toNat) = z := ⟨_, rfl⟩
                    refine fz_ialdV (n := 4) (v := v230) kX11_walk rfl rfl (by omega) (by omega) e231 ?_
                    have b232 : 0 ≤ v230 ∧ v230 ≤ 7 := by rw [← e231]; exact hI226.1 76 _
                    exact fz_iret kX11_walk rfl rfl (fun _ => ⟨hI226, hf227, _, rfl, (by omega)⟩)
                · refine fz_aload_n kX11_walk rfl rfl ?_
                  refine fz_getR (t := 56) kX11_walk rfl rfl ?_
                  refine fz_iload_n kX11_walk rfl rfl ?_
                  refine fz_ialdV (n := 12) (v := h 56 (rd.toNat)) kX11_walk rfl rfl (by omega) (by omega) (hf166 56 _ rfl) ?_
                  refine fz_goto (tgt := 112) kX11_walk rfl (by decide) ?_
                  refine fz_iast (n := 4) kX11_walk rfl rfl (by omega) (by omega) ?_
                  refine fz_nmu (S := [(53, 34), (74, 99999), (75, 99999), (76, 99999), (77, 99999), (86, 99999), (87, 99999), (88, 99999)]) (h0 := h) (fz_Iv_up hI165 (by decide) (show 0 ≤ (h 56 (rd.toNat)) by omega) (show (h 56 (rd.toNat)) ≤ 7 by omega)) (fz_fr_up hf166 rfl) (fun H233 hI234 hf235 e236 => ?_)
                  have k237 : H233 53 34 = ((h 53 34) + (h 57 (rd.toNat))) := by rw [e236]; exact (fz_up_o (by decide)).trans k168
                  clear e236
                  refine fz_aload_n kX11_walk rfl rfl ?_
                  refine fz_getR (t := 77) kX11_walk rfl rfl ?_
                  refine fz_iconst ⟨by decide, by decide⟩ kX11_walk rfl ?_
                  refine fz_dup2 rfl rfl kX11_walk rfl ?_
                  obtain ⟨v238, e239⟩ : ∃ z, H233 77 (0) = z := ⟨_, rfl⟩
                  refine fz_ialdV (n := 4) (v := v238) kX11_walk rfl rfl (by omega) (by omega) e239 ?_
                  have b240 : (-2147483648) ≤ v238 ∧ v238 ≤ 2147483647 := by rw [← e239]; exact hI234.1 77 _
                  refine fz_iconst ⟨by decide, by decide⟩ kX11_walk rfl ?_
                  refine fz_iadd kX11_walk rfl ?_
                  refine fz_nmw (fun z241 e242 => ?_)
                  refine fz_iast (n := 4) kX11_walk rfl rfl (by omega) (by omega) ?_
                  refine fz_nmu (S := [(53, 34), (74, 99999), (75, 99999), (76, 99999), (77, 99999), (86, 99999), (87, 99999), (88, 99999)]) (h0 := h) (fz_Iv_up hI234 (by decide) (show (-2147483648) ≤ z241 by omega) (show z241 ≤ 2147483647 by omega)) (fz_fr_up hf235 rfl) (fun H243 hI244 hf245 e246 => ?_)
                  have k247 : H243 53 34 = ((h 53 34) + (h 57 (rd.toNat))) := by rw [e246]; exact (fz_up_o (by decide)).trans k237
                  clear e246
                  refine fz_aload_n kX11_walk rfl rfl ?_
                  refine fz_getR (t := 77) kX11_walk rfl rfl ?_
                  refine fz_iconst ⟨by decide, by decide⟩ kX11_walk rfl ?_
                  refine fz_dup2 rfl rfl kX11_walk rfl ?_
                  obtain ⟨v248, e249⟩ : ∃ z, H243 77 (1) = z := ⟨_, rfl⟩
                  refine fz_ialdV (n := 4) (v := v248) kX11_walk rfl rfl (by omega) (by omega) e249 ?_
                  have b250 : (-2147483648) ≤ v248 ∧ v248 ≤ 2147483647 := by rw [← e249]; exact hI244.1 77 _
                  refine fz_aload_n kX11_walk rfl rfl ?_
                  refine fz_getR (t := 57) kX11_walk rfl rfl ?_
                  refine fz_iload_n kX11_walk rfl rfl ?_
                  refine fz_ialdV (n := 12) (v := h 57 (rd.toNat)) kX11_walk rfl rfl (by omega) (by omega) (hf245 57 _ rfl) ?_
                  refine fz_iadd kX11_walk rfl ?_
                  refine fz_nmw (fun z251 e252 => ?_)
                  refine fz_iast (n := 4) kX11_walk rfl rfl (by omega) (by omega) ?_
                  refine fz_nmu (S := [(53, 34), (74, 99999), (75, 99999), (76, 99999), (77, 99999), (86, 99999), (87, 99999), (88, 99999)]) (h0 := h) (fz_Iv_up hI244 (by decide) (show (-2147483648) ≤ z251 by omega) (show z251 ≤ 2147483647 by omega)) (fz_fr_up hf245 rfl) (fun H253 hI254 hf255 e256 => ?_)
                  have k257 : H253 53 34 = ((h 53 34) + (h 57 (rd.toNat))) := by rw [e256]; exact (fz_up_o (by decide)).trans k247
                  clear e256
                  refine fz_aload_n kX11_walk rfl rfl ?_
                  refine fz_callV (d' := 3) (M' := mX11_allHear) (As := []) (st := []) kX11_walk rfl rfl vX11_allHear rfl rfl rfl rfl (Nat.le_of_ble_eq_true rfl) (Nat.le_of_ble_eq_true rfl) (by decide) (sX11_allHear H253 hI254  ) (fun H258 r259 q260 o261 => ?_)
                  obtain ⟨hI262, hf263, rfl⟩ := q260
                  clear o261
                  have hf264 := fz_fr_tr hf255 hf263 (show fz_su [(86, 99999), (87, 99999), (88, 99999)] [(53, 34), (74, 99999), (75, 99999), (76, 99999), (77, 99999), (86, 99999), (87, 99999), (88, 99999)] = true from rfl)
                  have k265 : H258 53 34 = ((h 53 34) + (h 57 (rd.toNat))) := (hf263 53 34 rfl).trans k257
                  refine fz_aload_n kX11_walk rfl rfl ?_
                  refine fz_iload_n kX11_walk rfl rfl ?_
                  refine fz_aload_n kX11_walk rfl rfl ?_
                  refine fz_getR (t := 76) kX11_walk rfl rfl ?_
                  refine fz_iload_n kX11_walk rfl rfl ?_
                  obtain ⟨v266, e267⟩ : ∃ z, H258 76 (on.toNat) = z := ⟨_, rfl⟩
                  refine fz_ialdV (n := 4) (v := v266) kX11_walk rfl rfl (by omega) (by omega) e267 ?_
                  have b268 : 0 ≤ v266 ∧ v266 ≤ 7 := by rw [← e267]; exact hI262.1 76 _
                  refine fz_aload_n kX11_walk rfl rfl ?_
                  refine fz_getV (v := ((h 53 34) + (h 57 (rd.toNat)))) kX11_walk rfl rfl k265 ?_
                  refine fz_callV (d' := 4) (M' := mX11_isArrested) (As := [fz_i on, fz_i v266, fz_i ((h 53 34) + (h 57 (rd.toNat)))]) (st := []) kX11_walk rfl rfl vX11_isArrested rfl rfl rfl rfl (Nat.le_of_ble_eq_true rfl) (Nat.le_of_ble_eq_true rfl) (by decide) (sX11_isArrested H258 hI262 on v266 ((h 53 34) + (h 57 (rd.toNat))) (by omega)) (fun H269 r270 q271 o272 => ?_)
                  obtain ⟨hI273, hf274, y275, rfl, p276⟩ := q271
                  clear o272
                  have hf277 := fz_fr_tr hf264 hf274 (show fz_su [(74, 99999), (75, 99999)] [(53, 34), (74, 99999), (75, 99999), (76, 99999), (77, 99999), (86, 99999), (87, 99999), (88, 99999)] = true from rfl)
                  have k278 : H269 53 34 = ((h 53 34) + (h 57 (rd.toNat))) := (hf274 53 34 rfl).trans k265
                  refine fz_if_eq (tgt := 170) kX11_walk rfl (by decide) (fun c279 => ?_) (fun c279 => ?_)
                  · refine fz_aload_n kX11_walk rfl rfl ?_
                    refine fz_getR (t := 76) kX11_walk rfl rfl ?_
                    refine fz_iload_n kX11_walk rfl rfl ?_
                    obtain ⟨v280, e281⟩ : ∃ z, H269 76 (on.toNat) = z := ⟨_, rfl⟩
                    refine fz_ialdV (n := 4) (v := v280) kX11_walk rfl rfl (by omega) (by omega) e281 ?_
                    have b282 : 0 ≤ v280 ∧ v280 ≤ 7 := by rw [← e281]; exact hI273.1 76 _
                    exact fz_iret kX11_walk rfl rfl (fun _ => ⟨hI273, hf277, _, rfl, (by omega)⟩)
                  · refine fz_aload_n kX11_walk rfl rfl ?_
                    refine fz_getR (t := 77) kX11_walk rfl rfl ?_
                    refine fz_iconst ⟨by decide, by decide⟩ kX11_walk rfl ?_
                    refine fz_dup2 rfl rfl kX11_walk rfl ?_
                    obtain ⟨v283, e284⟩ : ∃ z, H269 77 (2) = z := ⟨_, rfl⟩
                    refine fz_ialdV (n := 4) (v := v283) kX11_walk rfl rfl (by omega) (by omega) e284 ?_
                    have b285 : (-2147483648) ≤ v283 ∧ v283 ≤ 2147483647 := by rw [← e284]; exact hI273.1 77 _
                    refine fz_iconst ⟨by decide, by decide⟩ kX11_walk rfl ?_
                    refine fz_iadd kX11_walk rfl ?_
                    refine fz_nmw (fun z286 e287 => ?_)
                    refine fz_iast (n := 4) kX11_walk rfl rfl (by omega) (by omega) ?_
                    refine fz_nmu (S := [(53, 34), (74, 99999), (75, 99999), (76, 99999), (77, 99999), (86, 99999), (87, 99999), (88, 99999)]) (h0 := h) (fz_Iv_up hI273 (by decide) (show (-2147483648) ≤ z286 by omega) (show z286 ≤ 2147483647 by omega)) (fz_fr_up hf277 rfl) (fun H288 hI289 hf290 e291 => ?_)
                    have k292 : H288 53 34 = ((h 53 34) + (h 57 (rd.toNat))) := by rw [e291]; exact (fz_up_o (by decide)).trans k278
                    clear e291
                    refine fz_aload_n kX11_walk rfl rfl ?_
                    refine fz_getR (t := 76) kX11_walk rfl rfl ?_
                    refine fz_iload_n kX11_walk rfl rfl ?_
                    obtain ⟨v293, e294⟩ : ∃ z, H288 76 (on.toNat) = z := ⟨_, rfl⟩
                    refine fz_ialdV (n := 4) (v := v293) kX11_walk rfl rfl (by omega) (by omega) e294 ?_
                    have b295 : 0 ≤ v293 ∧ v293 ≤ 7 := by rw [← e294]; exact hI289.1 76 _
                    exact fz_iret kX11_walk rfl rfl (fun _ => ⟨hI289, hf290, _, rfl, (by omega)⟩)
              · refine fz_bipush ⟨by decide, by decide⟩ kX11_walk rfl ?_
                exact fz_iret kX11_walk rfl rfl (fun _ => ⟨hI, hf, _, rfl, (by omega)⟩)
            · refine fz_bipush ⟨by decide, by decide⟩ kX11_walk rfl ?_
              exact fz_iret kX11_walk rfl rfl (fun _ => ⟨hI, hf, _, rfl, (by omega)⟩)
        · exfalso; omega
      · refine fz_if_ne (tgt := 17) kX11_walk rfl (by decide) (fun c296 => ?_) (fun c296 => ?_)
        · exfalso; omega
        · refine fz_iconst ⟨by decide, by decide⟩ kX11_walk rfl ?_
          exact fz_iret kX11_walk rfl rfl (fun _ => ⟨hI, hf, _, rfl, (by omega)⟩)
  · refine fz_if_eq (tgt := 15) kX11_walk rfl (by decide) (fun c297 => ?_) (fun c297 => ?_)
    · refine fz_iconst ⟨by decide, by decide⟩ kX11_walk rfl ?_
      exact fz_iret kX11_walk rfl rfl (fun _ => ⟨hI, hf, _, rfl, (by omega)⟩)
    · exfalso; omega

abbrev qX11_does (h : fz_H) (pm wt : Int) : fz_H → Option fz_V → Prop := fun h' r0 => fz_Iv h' ∧ fz_fr [(53, 10), (60, 99999), (61, 99999), (62, 99999), (63, 99999), (64, 99999), (77, 99999)] h h' ∧ ∃ r : Int, r0 = some (fz_i r) ∧ ((-3) ≤ r ∧ r ≤ 10) ∧ (h' 53 10 ≤ 10)
set_option maxHeartbeats 1000000 in
set_option maxRecDepth 100000 in
theorem sX11_does (h : fz_H) (hI : fz_Iv h) (pm wt : Int) (hp0 : h 53 10 ≤ 10) : fz_R 3 mX11_does 0 [(0, fz_r 53), (1, fz_i pm), (2, fz_i wt)] [] h (qX11_does h pm wt) := by
  refine fz_knowl (fun hk => ?_)
  have hr_pm : -2147483648 ≤ pm ∧ pm < 2147483648 := hk _ (List.Mem.tail _ (List.Mem.head _))
  have hr_wt : -2147483648 ≤ wt ∧ wt < 2147483648 := hk _ (List.Mem.tail _ (List.Mem.tail _ (List.Mem.head _)))
  clear hk
  have hf : fz_fr [(53, 10), (60, 99999), (61, 99999), (62, 99999), (63, 99999), (64, 99999), (77, 99999)] h h := fz_fr_rf
  have b1 : 0 ≤ h 53 10 ∧ h 53 10 ≤ 11 := hI.1 53 _
  refine fz_iload_n kX11_does rfl rfl ?_
  refine fz_callS (d' := 2) (M' := mX11_isMarked) (As := [fz_i pm]) (st := []) kX11_does rfl rfl vX11_isMarked rfl rfl (Nat.le_of_ble_eq_true rfl) (Nat.le_of_ble_eq_true rfl) (by decide) (sX11_isMarked h hI pm ) (fun H2 r3 q4 o5 => ?_)
  obtain ⟨e6, y7, rfl, p8⟩ := q4
  subst H2
  clear o5
  rcases p8 with ⟨rfl, c9⟩ | ⟨rfl, c9⟩
  · refine fz_if_eq (tgt := 24) kX11_does rfl (by decide) (fun c10 => ?_) (fun c10 => ?_)
    · exfalso; omega
    · refine fz_iload_n kX11_does rfl rfl ?_
      refine fz_iconst ⟨by decide, by decide⟩ kX11_does rfl ?_
      refine fz_bipush ⟨by decide, by decide⟩ kX11_does rfl ?_
      refine fz_callS (d' := 0) (M' := mX11_within) (As := [fz_i wt, fz_i 1, fz_i 9]) (st := []) kX11_does rfl rfl vX11_within rfl rfl (Nat.le_of_ble_eq_true rfl) (Nat.le_of_ble_eq_true rfl) (by decide) (sX11_within h hI wt 1 9 ) (fun H11 r12 q13 o14 => ?_)
      obtain ⟨e15, y16, rfl, p17⟩ := q13
      subst H11
      clear o14
      rcases p17 with ⟨rfl, c18⟩ | ⟨rfl, c18⟩
      · refine fz_if_eq (tgt := 24) kX11_does rfl (by decide) (fun c19 => ?_) (fun c19 => ?_)
        · exfalso; omega
        · refine fz_aload_n kX11_does rfl rfl ?_
          refine fz_getV (v := h 53 0) kX11_does rfl rfl rfl ?_
          have b20 : 0 ≤ h 53 0 ∧ h 53 0 ≤ 8 := hI.1 53 _
          refine fz_if_ne (tgt := 26) kX11_does rfl (by decide) (fun c21 => ?_) (fun c21 => ?_)
          · refine fz_aload_n kX11_does rfl rfl ?_
            refine fz_getV (v := h 53 10) kX11_does rfl rfl rfl ?_
            have b22 : 0 ≤ h 53 10 ∧ h 53 10 ≤ 11 := hI.1 53 _
            refine fz_bipush ⟨by decide, by decide⟩ kX11_does rfl ?_
            refine fz_icmp_ne (tgt := 38) kX11_does rfl (by decide) (fun c23 => ?_) (fun c23 => ?_)
            · refine fz_aload_n kX11_does rfl rfl ?_
              refine fz_getR (t := 77) kX11_does rfl rfl ?_
              refine fz_iconst ⟨by decide, by decide⟩ kX11_does rfl ?_
              refine fz_dup2 rfl rfl kX11_does rfl ?_
              refine fz_ialdV (n := 4) (v := h 77 3) kX11_does rfl rfl (by omega) (by omega) rfl ?_
              have b24 : (-2147483648) ≤ h 77 3 ∧ h 77 3 ≤ 2147483647 := hI.1 77 _
              refine fz_iconst ⟨by decide, by decide⟩ kX11_does rfl ?_
              refine fz_iadd kX11_does rfl ?_
              refine fz_nmw (fun z25 e26 => ?_)
              refine fz_iast (n := 4) kX11_does rfl rfl (by omega) (by omega) ?_
              refine fz_nmu (S := [(53, 10), (60, 99999), (61, 99999), (62, 99999), (63, 99999), (64, 99999), (77, 99999)]) (h0 := h) (fz_Iv_up hI (by decide) (show (-2147483648) ≤ z25 by omega) (show z25 ≤ 2147483647 by omega)) (fz_fr_up hf rfl) (fun H27 hI28 hf29 e30 => ?_)
              have k31 : H27 53 10 = (h 53 10) := by rw [e30]; exact (fz_up_o (by decide)).trans rfl
              clear e30
              refine fz_aload_n kX11_does rfl rfl ?_
              refine fz_iload_n kX11_does rfl rfl ?_
              refine fz_bipush ⟨by decide, by decide⟩ kX11_does rfl ?_
              refine fz_idivN kX11_does rfl (by omega) (by omega) (by omega) ?_
              refine fz_aload_n kX11_does rfl rfl ?_
              refine fz_getR (t := 76) kX11_does rfl rfl ?_
              refine fz_iload_n kX11_does rfl rfl ?_
              refine fz_bipush ⟨by decide, by decide⟩ kX11_does rfl ?_
              refine fz_idivN kX11_does rfl (by omega) (by omega) (by omega) ?_
              refine fz_ialdV (n := 4) (v := h 76 ((pm / 10).toNat)) kX11_does rfl rfl (by omega) (by omega) (hf29 76 _ rfl) ?_
              have b32 : 0 ≤ h 76 ((pm / 10).toNat) ∧ h 76 ((pm / 10).toNat) ≤ 7 := hI.1 76 _
              refine fz_aload_n kX11_does rfl rfl ?_
              refine fz_getV (v := h 53 34) kX11_does rfl rfl (hf29 53 34 rfl) ?_
              have b33 : 0 ≤ h 53 34 ∧ h 53 34 ≤ 999 := hI.1 53 _
              refine fz_iload_n kX11_does rfl rfl ?_
              refine fz_bipush ⟨by decide, by decide⟩ kX11_does rfl ?_
              refine fz_iremN kX11_does rfl (by omega) (by omega) (by omega) ?_
              refine fz_iload_n kX11_does rfl rfl ?_
              have b34 : 0 ≤ H27 53 10 ∧ H27 53 10 ≤ 11 := hI28.1 53 _
              refine fz_callV (d' := 0) (M' := mX11_newDeed) (As := [fz_i (pm / 10), fz_i (h 76 ((pm / 10).toNat)), fz_i (h 53 34), fz_i (pm % 10), fz_i wt]) (st := []) kX11_does rfl rfl vX11_newDeed rfl rfl rfl rfl (Nat.le_of_ble_eq_true rfl) (Nat.le_of_ble_eq_true rfl) (by decide) (sX11_newDeed H27 hI28 (pm / 10) (h 76 ((pm / 10).toNat)) (h 53 34) (pm % 10) wt (by omega) (by omega) (by omega) (by omega) (by omega)) (fun H35 r36 q37 o38 => ?_)
              obtain ⟨hI39, hf40, y43, rfl, f41, f42⟩ := q37
              clear o38
              have hf44 := fz_fr_tr hf29 hf40 (show fz_su [(53, 10), (60, 99999), (61, 99999), (62, 99999), (63, 99999), (64, 99999)] [(53, 10), (60, 99999), (61, 99999), (62, 99999), (63, 99999), (64, 99999), (77, 99999)] = true from rfl)
              exact fz_iret kX11_does rfl rfl (fun _ => ⟨hI39, hf44, _, rfl, (by omega), (by omega)⟩)
            · refine fz_bipush ⟨by decide, by decide⟩ kX11_does rfl ?_
              exact fz_iret kX11_does rfl rfl (fun _ => ⟨hI, hf, _, rfl, (by omega), (by omega)⟩)
          · refine fz_iconst ⟨by decide, by decide⟩ kX11_does rfl ?_
            exact fz_iret kX11_does rfl rfl (fun _ => ⟨hI, hf, _, rfl, (by omega), (by omega)⟩)
      · refine fz_if_eq (tgt := 24) kX11_does rfl (by decide) (fun c45 => ?_) (fun c45 => ?_)
        · refine fz_iconst ⟨by decide, by decide⟩ kX11_does rfl ?_
          exact fz_iret kX11_does rfl rfl (fun _ => ⟨hI, hf, _, rfl, (by omega), (by omega)⟩)
        · exfalso; omega
  · refine fz_if_eq (tgt := 24) kX11_does rfl (by decide) (fun c46 => ?_) (fun c46 => ?_)
    · refine fz_iconst ⟨by decide, by decide⟩ kX11_does rfl ?_
      exact fz_iret kX11_does rfl rfl (fun _ => ⟨hI, hf, _, rfl, (by omega), (by omega)⟩)
    · exfalso; omega
