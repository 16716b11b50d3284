/-! ===== what the methods keep ===== -/
abbrev qX10_needs (h : fz_H) (pm th to x : Int) : fz_H → Option fz_V → Prop := fun h' r0 => fz_Iv h' ∧ fz_fr [(10, 99999), (11, 99999), (12, 99999), (13, 99999), (14, 99999), (18, 99999), (19, 99999)] h h' ∧ ∃ r : Int, r0 = some (fz_i r) ∧ ((-2) ≤ r ∧ r ≤ 9) ∧ (fz_apC h h' 0 (fun _ => (0, 0, 0, 0, 0))) ∧ (fl_ndC h pm th to x r)
set_option maxHeartbeats 1000000 in
set_option maxRecDepth 100000 in
theorem sX10_needs (h : fz_H) (hI : fz_Iv h) (pm th to x : Int) : fz_R 5 mX10_needs 0 [(0, fz_r 0), (1, fz_i pm), (2, fz_i th), (3, fz_i to), (4, fz_i x)] [] h (qX10_needs h pm th to x) := by
  refine fz_knowl (fun hk => ?_)
  have hr_pm : -2147483648 ≤ pm ∧ pm < 2147483648 := hk _ (List.Mem.tail _ (List.Mem.head _))
  have hr_th : -2147483648 ≤ th ∧ th < 2147483648 := hk _ (List.Mem.tail _ (List.Mem.tail _ (List.Mem.head _)))
  have hr_to : -2147483648 ≤ to ∧ to < 2147483648 := hk _ (List.Mem.tail _ (List.Mem.tail _ (List.Mem.tail _ (List.Mem.head _))))
  have hr_x : -2147483648 ≤ x ∧ x < 2147483648 := hk _ (List.Mem.tail _ (List.Mem.tail _ (List.Mem.tail _ (List.Mem.tail _ (List.Mem.head _)))))
  clear hk
  have hf : fz_fr [(10, 99999), (11, 99999), (12, 99999), (13, 99999), (14, 99999), (18, 99999), (19, 99999)] h h := fz_fr_rf
  have k1 : 0 ≤ h 9 5 ∧ h 9 5 ≤ 10 := hI.1 9 _
  refine fz_aload_n kX10_needs rfl rfl ?_
  refine fz_iload_n kX10_needs rfl rfl ?_
  refine fz_callV (d' := 1) (M' := mX10_isMarkOfOne) (As := [fz_i pm]) (st := []) kX10_needs rfl rfl vX10_isMarkOfOne rfl rfl rfl rfl (Nat.le_of_ble_eq_true rfl) (Nat.le_of_ble_eq_true rfl) (by decide) (sX10_isMarkOfOne h hI pm ) (fun H2 r3 q4 o5 => ?_)
  obtain ⟨e6, y7, rfl, p8⟩ := q4
  subst H2
  clear o5
  rcases p8 with ⟨rfl, c9⟩ | ⟨rfl, c9⟩
  · refine fz_if_eq (tgt := 33) kX10_needs rfl (by decide) (fun c10 => ?_) (fun c10 => ?_)
    · exfalso; omega
    · refine fz_aload_n kX10_needs rfl rfl ?_
      refine fz_iload_n kX10_needs rfl rfl ?_
      have b11 : 0 ≤ h 1 7 ∧ h 1 7 ≤ 8 := hI.1 1 _
      refine fz_callV (d' := 1) (M' := mX10_isTownAndHour) (As := [fz_i th]) (st := []) kX10_needs rfl rfl vX10_isTownAndHour rfl rfl rfl rfl (Nat.le_of_ble_eq_true rfl) (Nat.le_of_ble_eq_true rfl) (by decide) (sX10_isTownAndHour h hI th ) (fun H12 r13 q14 o15 => ?_)
      obtain ⟨e16, y17, rfl, p18⟩ := q14
      subst H12
      clear o15
      rcases p18 with ⟨rfl, c19⟩ | ⟨rfl, c19⟩
      · refine fz_if_eq (tgt := 33) kX10_needs rfl (by decide) (fun c20 => ?_) (fun c20 => ?_)
        · exfalso; omega
        · refine fz_aload_n kX10_needs rfl rfl ?_
          refine fz_iload_n kX10_needs rfl rfl ?_
          refine fz_callV (d' := 1) (M' := mX10_isTownAndHour) (As := [fz_i to]) (st := []) kX10_needs rfl rfl vX10_isTownAndHour rfl rfl rfl rfl (Nat.le_of_ble_eq_true rfl) (Nat.le_of_ble_eq_true rfl) (by decide) (sX10_isTownAndHour h hI to ) (fun H21 r22 q23 o24 => ?_)
          obtain ⟨e25, y26, rfl, p27⟩ := q23
          subst H21
          clear o24
          rcases p27 with ⟨rfl, c28⟩ | ⟨rfl, c28⟩
          · refine fz_if_eq (tgt := 33) kX10_needs rfl (by decide) (fun c29 => ?_) (fun c29 => ?_)
            · exfalso; omega
            · refine fz_aload_n kX10_needs rfl rfl ?_
              refine fz_iload kX10_needs rfl rfl ?_
              refine fz_callV (d' := 0) (M' := mX10_isVolume) (As := [fz_i x]) (st := []) kX10_needs rfl rfl vX10_isVolume rfl rfl rfl rfl (Nat.le_of_ble_eq_true rfl) (Nat.le_of_ble_eq_true rfl) (by decide) (sX10_isVolume h hI x ) (fun H30 r31 q32 o33 => ?_)
              obtain ⟨e34, y35, rfl, p36⟩ := q32
              subst H30
              clear o33
              rcases p36 with ⟨rfl, c37⟩ | ⟨rfl, c37⟩
              · refine fz_if_ne (tgt := 35) kX10_needs rfl (by decide) (fun c38 => ?_) (fun c38 => ?_)
                · refine fz_aload_n kX10_needs rfl rfl ?_
                  refine fz_getR (t := 27) kX10_needs rfl rfl ?_
                  refine fz_iload_n kX10_needs rfl rfl ?_
                  refine fz_iload_n kX10_needs rfl rfl ?_
                  refine fz_sipush ⟨by decide, by decide⟩ kX10_needs rfl ?_
                  refine fz_idivN kX10_needs rfl (by omega) (by omega) (by omega) ?_
                  refine fz_iload_n kX10_needs rfl rfl ?_
                  refine fz_sipush ⟨by decide, by decide⟩ kX10_needs rfl ?_
                  refine fz_iremN kX10_needs rfl (by omega) (by omega) (by omega) ?_
                  refine fz_callV (d' := 4) (M' := mX8_loudestOf) (As := [fz_i pm, fz_i (to / 1000), fz_i (to % 1000)]) (st := []) kX10_needs rfl rfl vX8_loudestOf rfl rfl rfl rfl (Nat.le_of_ble_eq_true rfl) (Nat.le_of_ble_eq_true rfl) (by decide) (sX8_loudestOf h hI pm (to / 1000) (to % 1000) (by omega) (by omega)) (fun H39 r40 q41 o42 => ?_)
                  obtain ⟨hI43, hf44, y47, rfl, f45, f46⟩ := q41
                  clear o42
                  have hf48 := fz_fr_tr hf hf44 (show fz_su [(18, 99999), (19, 99999)] [(10, 99999), (11, 99999), (12, 99999), (13, 99999), (14, 99999), (18, 99999), (19, 99999)] = true from rfl)
                  have t49 : H39 9 5 = h 9 5 := hf44 9 5 rfl
                  refine fz_iload kX10_needs rfl rfl ?_
                  refine fz_icmp_lt (tgt := 60) kX10_needs rfl (by decide) (fun c50 => ?_) (fun c50 => ?_)
                  · refine fz_iconst ⟨by decide, by decide⟩ kX10_needs rfl ?_
                    refine fz_istore (ls' := [(5, fz_i 1), (0, fz_r 0), (1, fz_i pm), (2, fz_i th), (3, fz_i to), (4, fz_i x)]) kX10_needs rfl (by decide) rfl ?_
                    have lp56 : ∀ (n55 : Nat) (x51 : Int) (H52 : fz_H), fz_Iv H52 → fz_fr [(10, 99999), (11, 99999), (12, 99999), (13, 99999), (14, 99999), (18, 99999), (19, 99999)] h H52 → (1 ≤ x51 ∧ x51 ≤ 2147483647) → (H52 9 5 = h 9 5) → (fz_apC h H52 0 (fun _ => (0, 0, 0, 0, 0))) → (fl_up1 (fl_nxC h pm th to) x 1 x51) → (9 + 1 - x51).toNat < n55 → fz_R 5 mX10_needs 63 [(5, fz_i x51), (0, fz_r 0), (1, fz_i pm), (2, fz_i th), (3, fz_i to), (4, fz_i x)] [] H52 (qX10_needs h pm th to x) := by
                      intro n55
                      induction n55 with
                      | zero => intro x51 H52 hI53 hf54 hv59 hv60 hv61 hv62 hm58; exact absurd hm58 (by omega)
                      | succ n55 ih57 =>
                        intro x51 H52 hI53 hf54 hv59 hv60 hv61 hv62 hm58
                        refine fz_iload kX10_needs rfl rfl ?_
                        refine fz_bipush ⟨by decide, by decide⟩ kX10_needs rfl ?_
                        refine fz_icmp_gt (tgt := 127) kX10_needs rfl (by decide) (fun c63 => ?_) (fun c63 => ?_)
                        · refine fz_bipush ⟨by decide, by decide⟩ kX10_needs rfl ?_
                          exact fz_iret kX10_needs rfl rfl (fun _ => ⟨hI53, hf54, _, rfl, (by omega), (by first | exact fz_apC_f (fz_apC_s0 hv61 lost (by omega) (by omega) (by omega) rfl) (funext fun s => lost 10 s rfl) (funext fun s => lost 11 s rfl) (funext fun s => lost 12 s rfl) (funext fun s => lost 13 s rfl) (funext fun s => lost 14 s rfl) | exact hv61 | exact fz_apC_f (fz_apC_z (by omega)) (funext fun s => hf44 10 s rfl) (funext fun s => hf44 11 s rfl) (funext fun s => hf44 12 s rfl) (funext fun s => hf44 13 s rfl) (funext fun s => hf44 14 s rfl) | exact fz_apC_z (by omega)), (by first | exact Or.inl ⟨(by unfold fl_oN; omega), fl_fsA f46 (by omega) rfl (by decide)⟩ | exact Or.inl ⟨(by unfold fl_oN; omega), fl_fsB f46 (by omega) hv62 lost (by omega) (by omega)⟩ | exact Or.inl ⟨(by unfold fl_oN; omega), fl_fsC f46 (by omega) hv62 (by omega) rfl⟩ | exact Or.inr ⟨(by unfold fl_oN; omega), rfl⟩)⟩)
                        · refine fz_aload_n kX10_needs rfl rfl ?_
                          refine fz_getR (t := 9) kX10_needs rfl rfl ?_
                          refine fz_iload_n kX10_needs rfl rfl ?_
                          refine fz_iload_n kX10_needs rfl rfl ?_
                          refine fz_sipush ⟨by decide, by decide⟩ kX10_needs rfl ?_
                          refine fz_idivN kX10_needs rfl (by omega) (by omega) (by omega) ?_
                          refine fz_iload_n kX10_needs rfl rfl ?_
                          refine fz_sipush ⟨by decide, by decide⟩ kX10_needs rfl ?_
                          refine fz_iremN kX10_needs rfl (by omega) (by omega) (by omega) ?_
                          refine fz_iload kX10_needs rfl rfl ?_
                          refine fz_callV (d' := 1) (M' := mX4_imagine) (As := [fz_i pm, fz_i (th / 1000), fz_i (th % 1000), fz_i x51]) (st := []) kX10_needs rfl rfl vX4_imagine rfl rfl rfl rfl (Nat.le_of_ble_eq_true rfl) (Nat.le_of_ble_eq_true rfl) (by decide) (sX4_imagine H52 hI53 pm (th / 1000) (th % 1000) x51 (by omega) (by omega) (by omega) (by omega) (by omega)) (fun H66 r67 q68 o69 => ?_)
                          obtain ⟨hI70, hf71, rfl, f72, f73⟩ := q68
                          clear o69
                          have hf74 := fz_fr_tr hf54 hf71 (show fz_su [(10, 99999), (11, 99999), (12, 99999), (13, 99999), (14, 99999)] [(10, 99999), (11, 99999), (12, 99999), (13, 99999), (14, 99999), (18, 99999), (19, 99999)] = true from rfl)
                          have t75 : H66 9 5 = H52 9 5 := hf71 9 5 rfl
                          refine fz_aload_n kX10_needs rfl rfl ?_
                          refine fz_getR (t := 27) kX10_needs rfl rfl ?_
                          refine fz_bipush ⟨by decide, by decide⟩ kX10_needs rfl ?_
                          refine fz_iload_n kX10_needs rfl rfl ?_
                          refine fz_bipush ⟨by decide, by decide⟩ kX10_needs rfl ?_
                          refine fz_idivN kX10_needs rfl (by omega) (by omega) (by omega) ?_
                          refine fz_iload_n kX10_needs rfl rfl ?_
                          refine fz_sipush ⟨by decide, by decide⟩ kX10_needs rfl ?_
                          refine fz_idivN kX10_needs rfl (by omega) (by omega) (by omega) ?_
                          refine fz_iload_n kX10_needs rfl rfl ?_
                          refine fz_sipush ⟨by decide, by decide⟩ kX10_needs rfl ?_
                          refine fz_iremN kX10_needs rfl (by omega) (by omega) (by omega) ?_
                          refine fz_callV (d' := 3) (M' := mX8_loudness) (As := [fz_i 10, fz_i (pm / 10), fz_i (to / 1000), fz_i (to % 1000)]) (st := []) kX10_needs rfl rfl vX8_loudness rfl rfl rfl rfl (Nat.le_of_ble_eq_true rfl) (Nat.le_of_ble_eq_true rfl) (by decide) (sX8_loudness H66 hI70 10 (pm / 10) (to / 1000) (to % 1000) (by omega) (by omega)) (fun H76 r77 q78 o79 => ?_)
                          obtain ⟨hI80, hf81, y84, rfl, f82, f83⟩ := q78
                          clear o79
                          have hf85 := fz_fr_tr hf74 hf81 (show fz_su [(18, 99999), (19, 99999)] [(10, 99999), (11, 99999), (12, 99999), (13, 99999), (14, 99999), (18, 99999), (19, 99999)] = true from rfl)
                          have t86 : H76 9 5 = H66 9 5 := hf81 9 5 rfl
                          have k87 : y84 = fl_nxC h pm th to x51 := fl_lx_im f73 hf54 rfl f83
                          refine fz_iload kX10_needs rfl rfl ?_
                          refine fz_icmp_lt (tgt := 121) kX10_needs rfl (by decide) (fun c89 => ?_) (fun c89 => ?_)
                          · refine fz_iincN (ls' := [(5, fz_i (x51 + 1)), (0, fz_r 0), (1, fz_i pm), (2, fz_i th), (3, fz_i to), (4, fz_i x)]) kX10_needs rfl (by decide) rfl (by omega) rfl ?_
                            refine fz_goto (tgt := 63) kX10_needs rfl (by decide) ?_
                            exact ih57 (x51 + 1) H76 hI80 hf85 (by omega) (by omega) (fz_apC_f (fz_apC_s0 hv61 f72 (by omega) (by omega) (by omega) rfl) (funext fun s => hf81 10 s rfl) (funext fun s => hf81 11 s rfl) (funext fun s => hf81 12 s rfl) (funext fun s => hf81 13 s rfl) (funext fun s => hf81 14 s rfl)) (fl_up1_s hv62 k87 (by omega)) (by omega)
                          · refine fz_iload kX10_needs rfl rfl ?_
                            exact fz_iret kX10_needs rfl rfl (fun _ => ⟨hI80, hf85, _, rfl, (by omega), (by first | exact fz_apC_f (fz_apC_s0 hv61 f72 (by omega) (by omega) (by omega) rfl) (funext fun s => hf81 10 s rfl) (funext fun s => hf81 11 s rfl) (funext fun s => hf81 12 s rfl) (funext fun s => hf81 13 s rfl) (funext fun s => hf81 14 s rfl) | exact hv61 | exact fz_apC_f (fz_apC_z (by omega)) (funext fun s => hf44 10 s rfl) (funext fun s => hf44 11 s rfl) (funext fun s => hf44 12 s rfl) (funext fun s => hf44 13 s rfl) (funext fun s => hf44 14 s rfl) | exact fz_apC_z (by omega)), (by first | exact Or.inl ⟨(by unfold fl_oN; omega), fl_fsA f46 (by omega) rfl (by decide)⟩ | exact Or.inl ⟨(by unfold fl_oN; omega), fl_fsB f46 (by omega) hv62 k87 (by omega) (by omega)⟩ | exact Or.inl ⟨(by unfold fl_oN; omega), fl_fsC f46 (by omega) hv62 (by omega) rfl⟩ | exact Or.inr ⟨(by unfold fl_oN; omega), rfl⟩)⟩)
                    exact lp56 _ 1 H39 hI43 hf48 (by omega) (by omega) (fz_apC_f (fz_apC_z (by omega)) (funext fun s => hf44 10 s rfl) (funext fun s => hf44 11 s rfl) (funext fun s => hf44 12 s rfl) (funext fun s => hf44 13 s rfl) (funext fun s => hf44 14 s rfl)) (fl_up1_0 (by omega)) (Nat.lt_succ_self _)
                  · refine fz_iconst ⟨by decide, by decide⟩ kX10_needs rfl ?_
                    exact fz_iret kX10_needs rfl rfl (fun _ => ⟨hI43, hf48, _, rfl, (by omega), (by first | exact fz_apC_f (fz_apC_s0 lost lost (by omega) (by omega) (by omega) rfl) (funext fun s => lost 10 s rfl) (funext fun s => lost 11 s rfl) (funext fun s => lost 12 s rfl) (funext fun s => lost 13 s rfl) (funext fun s => lost 14 s rfl) | exact lost | exact fz_apC_f (fz_apC_z (by omega)) (funext fun s => hf44 10 s rfl) (funext fun s => hf44 11 s rfl) (funext fun s => hf44 12 s rfl) (funext fun s => hf44 13 s rfl) (funext fun s => hf44 14 s rfl) | exact fz_apC_z (by omega)), (by first | exact Or.inl ⟨(by unfold fl_oN; omega), fl_fsA f46 (by omega) rfl (by decide)⟩ | exact Or.inl ⟨(by unfold fl_oN; omega), fl_fsB f46 (by omega) lost lost (by omega) (by omega)⟩ | exact Or.inl ⟨(by unfold fl_oN; omega), fl_fsC f46 (by omega) lost (by omega) rfl⟩ | exact Or.inr ⟨(by unfold fl_oN; omega), rfl⟩)⟩)
                · exfalso; omega
              · refine fz_if_ne (tgt := 35) kX10_needs rfl (by decide) (fun c98 => ?_) (fun c98 => ?_)
                · exfalso; omega
                · refine fz_iconst ⟨by decide, by decide⟩ kX10_needs rfl ?_
                  exact fz_iret kX10_needs rfl rfl (fun _ => ⟨hI, hf, _, rfl, (by omega), (by first | exact fz_apC_f (fz_apC_s0 lost lost (by omega) (by omega) (by omega) rfl) (funext fun s => lost 10 s rfl) (funext fun s => lost 11 s rfl) (funext fun s => lost 12 s rfl) (funext fun s => lost 13 s rfl) (funext fun s => lost 14 s rfl) | exact lost | exact fz_apC_f (fz_apC_z (by omega)) (funext fun s => lost 10 s rfl) (funext fun s => lost 11 s rfl) (funext fun s => lost 12 s rfl) (funext fun s => lost 13 s rfl) (funext fun s => lost 14 s rfl) | exact fz_apC_z (by omega)), (by first | exact Or.inl ⟨(by unfold fl_oN; omega), fl_fsA lost (by omega) rfl (by decide)⟩ | exact Or.inl ⟨(by unfold fl_oN; omega), fl_fsB lost (by omega) lost lost (by omega) (by omega)⟩ | exact Or.inl ⟨(by unfold fl_oN; omega), fl_fsC lost (by omega) lost (by omega) rfl⟩ | exact Or.inr ⟨(by unfold fl_oN; omega), rfl⟩)⟩)
          · refine fz_if_eq (tgt := 33) kX10_needs rfl (by decide) (fun c101 => ?_) (fun c101 => ?_)
            · refine fz_iconst ⟨by decide, by decide⟩ kX10_needs rfl ?_
              exact fz_iret kX10_needs rfl rfl (fun _ => ⟨hI, hf, _, rfl, (by omega), (by first | exact fz_apC_f (fz_apC_s0 lost lost (by omega) (by omega) (by omega) rfl) (funext fun s => lost 10 s rfl) (funext fun s => lost 11 s rfl) (funext fun s => lost 12 s rfl) (funext fun s => lost 13 s rfl) (funext fun s => lost 14 s rfl) | exact lost | exact fz_apC_f (fz_apC_z (by omega)) (funext fun s => lost 10 s rfl) (funext fun s => lost 11 s rfl) (funext fun s => lost 12 s rfl) (funext fun s => lost 13 s rfl) (funext fun s => lost 14 s rfl) | exact fz_apC_z (by omega)), (by first | exact Or.inl ⟨(by unfold fl_oN; omega), fl_fsA lost (by omega) rfl (by decide)⟩ | exact Or.inl ⟨(by unfold fl_oN; omega), fl_fsB lost (by omega) lost lost (by omega) (by omega)⟩ | exact Or.inl ⟨(by unfold fl_oN; omega), fl_fsC lost (by omega) lost (by omega) rfl⟩ | exact Or.inr ⟨(by unfold fl_oN; omega), rfl⟩)⟩)
            · exfalso; omega
      · refine fz_if_eq (tgt := 33) kX10_needs rfl (by decide) (fun c104 => ?_) (fun c104 => ?_)
        · refine fz_iconst ⟨by decide, by decide⟩ kX10_needs rfl ?_
          exact fz_iret kX10_needs rfl rfl (fun _ => ⟨hI, hf, _, rfl, (by omega), (by first | exact fz_apC_f (fz_apC_s0 lost lost (by omega) (by omega) (by omega) rfl) (funext fun s => lost 10 s rfl) (funext fun s => lost 11 s rfl) (funext fun s => lost 12 s rfl) (funext fun s => lost 13 s rfl) (funext fun s => lost 14 s rfl) | exact lost | exact fz_apC_f (fz_apC_z (by omega)) (funext fun s => lost 10 s rfl) (funext fun s => lost 11 s rfl) (funext fun s => lost 12 s rfl) (funext fun s => lost 13 s rfl) (funext fun s => lost 14 s rfl) | exact fz_apC_z (by omega)), (by first | exact Or.inl ⟨(by unfold fl_oN; omega), fl_fsA lost (by omega) rfl (by decide)⟩ | exact Or.inl ⟨(by unfold fl_oN; omega), fl_fsB lost (by omega) lost lost (by omega) (by omega)⟩ | exact Or.inl ⟨(by unfold fl_oN; omega), fl_fsC lost (by omega) lost (by omega) rfl⟩ | exact Or.inr ⟨(by unfold fl_oN; omega), rfl⟩)⟩)
        · exfalso; omega
  · refine fz_if_eq (tgt := 33) kX10_needs rfl (by decide) (fun c107 => ?_) (fun c107 => ?_)
    · refine fz_iconst ⟨by decide, by decide⟩ kX10_needs rfl ?_
      exact fz_iret kX10_needs rfl rfl (fun _ => ⟨hI, hf, _, rfl, (by omega), (by first | exact fz_apC_f (fz_apC_s0 lost lost (by omega) (by omega) (by omega) rfl) (funext fun s => lost 10 s rfl) (funext fun s => lost 11 s rfl) (funext fun s => lost 12 s rfl) (funext fun s => lost 13 s rfl) (funext fun s => lost 14 s rfl) | exact lost | exact fz_apC_f (fz_apC_z (by omega)) (funext fun s => lost 10 s rfl) (funext fun s => lost 11 s rfl) (funext fun s => lost 12 s rfl) (funext fun s => lost 13 s rfl) (funext fun s => lost 14 s rfl) | exact fz_apC_z (by omega)), (by first | exact Or.inl ⟨(by unfold fl_oN; omega), fl_fsA lost (by omega) rfl (by decide)⟩ | exact Or.inl ⟨(by unfold fl_oN; omega), fl_fsB lost (by omega) lost lost (by omega) (by omega)⟩ | exact Or.inl ⟨(by unfold fl_oN; omega), fl_fsC lost (by omega) lost (by omega) rfl⟩ | exact Or.inr ⟨(by unfold fl_oN; omega), rfl⟩)⟩)
    · exfalso; omega

abbrev qX10_latest (h : fz_H) (pm t to wx : Int) : fz_H → Option fz_V → Prop := fun h' r0 => fz_Iv h' ∧ fz_fr [(10, 99999), (11, 99999), (12, 99999), (13, 99999), (14, 99999), (18, 99999), (19, 99999)] h h' ∧ ∃ r : Int, r0 = some (fz_i r) ∧ ((-2) ≤ r ∧ r ≤ 999) ∧ (fz_apC h h' 0 (fun _ => (0, 0, 0, 0, 0))) ∧ (fl_lyCC h pm t to wx r)
set_option maxHeartbeats 1000000 in
set_option maxRecDepth 100000 in
theorem sX10_latest (h : fz_H) (hI : fz_Iv h) (pm t to wx : Int) : fz_R 5 mX10_latest 0 [(0, fz_r 0), (1, fz_i pm), (2, fz_i t), (3, fz_i to), (4, fz_i wx)] [] h (qX10_latest h pm t to wx) := by
  refine fz_knowl (fun hk => ?_)
  have hr_pm : -2147483648 ≤ pm ∧ pm < 2147483648 := hk _ (List.Mem.tail _ (List.Mem.head _))
  have hr_t : -2147483648 ≤ t ∧ t < 2147483648 := hk _ (List.Mem.tail _ (List.Mem.tail _ (List.Mem.head _)))
  have hr_to : -2147483648 ≤ to ∧ to < 2147483648 := hk _ (List.Mem.tail _ (List.Mem.tail _ (List.Mem.tail _ (List.Mem.head _))))
  have hr_wx : -2147483648 ≤ wx ∧ wx < 2147483648 := hk _ (List.Mem.tail _ (List.Mem.tail _ (List.Mem.tail _ (List.Mem.tail _ (List.Mem.head _)))))
  clear hk
  have hf : fz_fr [(10, 99999), (11, 99999), (12, 99999), (13, 99999), (14, 99999), (18, 99999), (19, 99999)] h h := fz_fr_rf
  have k1 : 0 ≤ h 9 5 ∧ h 9 5 ≤ 10 := hI.1 9 _
  refine fz_iload kX10_latest rfl rfl ?_
  refine fz_bipush ⟨by decide, by decide⟩ kX10_latest rfl ?_
  refine fz_iremT kX10_latest rfl (by decide) (by decide) (fun z2 r3 e4 e5 e6 e7 e8 e9 => ?_)
  refine fz_istore (ls' := [(5, fz_i z2), (0, fz_r 0), (1, fz_i pm), (2, fz_i t), (3, fz_i to), (4, fz_i wx)]) kX10_latest rfl (by decide) rfl ?_
  refine fz_iload kX10_latest rfl rfl ?_
  refine fz_bipush ⟨by decide, by decide⟩ kX10_latest rfl ?_
  refine fz_idivT kX10_latest rfl (by decide) (by omega) (fun z11 r12 e13 e14 e15 e16 e17 e18 e19 => ?_)
  refine fz_istore (ls' := [(6, fz_i z11), (5, fz_i z2), (0, fz_r 0), (1, fz_i pm), (2, fz_i t), (3, fz_i to), (4, fz_i wx)]) kX10_latest rfl (by decide) rfl ?_
  refine fz_aload_n kX10_latest rfl rfl ?_
  refine fz_iload_n kX10_latest rfl rfl ?_
  refine fz_callV (d' := 1) (M' := mX10_isMarkOfOne) (As := [fz_i pm]) (st := []) kX10_latest rfl rfl vX10_isMarkOfOne rfl rfl rfl rfl (Nat.le_of_ble_eq_true rfl) (Nat.le_of_ble_eq_true rfl) (by decide) (sX10_isMarkOfOne h hI pm ) (fun H20 r21 q22 o23 => ?_)
  obtain ⟨e24, y25, rfl, p26⟩ := q22
  subst H20
  clear o23
  rcases p26 with ⟨rfl, c27⟩ | ⟨rfl, c27⟩
  · refine fz_if_eq (tgt := 59) kX10_latest rfl (by decide) (fun c28 => ?_) (fun c28 => ?_)
    · exfalso; omega
    · refine fz_aload_n kX10_latest rfl rfl ?_
      refine fz_getR (t := 1) kX10_latest rfl rfl ?_
      refine fz_iload_n kX10_latest rfl rfl ?_
      have b29 : 0 ≤ h 1 7 ∧ h 1 7 ≤ 8 := hI.1 1 _
      refine fz_callV (d' := 0) (M' := mX2_isTown) (As := [fz_i t]) (st := []) kX10_latest rfl rfl vX2_isTown rfl rfl rfl rfl (Nat.le_of_ble_eq_true rfl) (Nat.le_of_ble_eq_true rfl) (by decide) (sX2_isTown h hI t ) (fun H30 r31 q32 o33 => ?_)
      obtain ⟨e34, y35, rfl, p36⟩ := q32
      subst H30
      clear o33
      rcases p36 with ⟨rfl, c37⟩ | ⟨rfl, c37⟩
      · refine fz_if_eq (tgt := 59) kX10_latest rfl (by decide) (fun c38 => ?_) (fun c38 => ?_)
        · exfalso; omega
        · refine fz_aload_n kX10_latest rfl rfl ?_
          refine fz_iload_n kX10_latest rfl rfl ?_
          refine fz_callV (d' := 1) (M' := mX10_isTownAndHour) (As := [fz_i to]) (st := []) kX10_latest rfl rfl vX10_isTownAndHour rfl rfl rfl rfl (Nat.le_of_ble_eq_true rfl) (Nat.le_of_ble_eq_true rfl) (by decide) (sX10_isTownAndHour h hI to ) (fun H39 r40 q41 o42 => ?_)
          obtain ⟨e43, y44, rfl, p45⟩ := q41
          subst H39
          clear o42
          rcases p45 with ⟨rfl, c46⟩ | ⟨rfl, c46⟩
          · refine fz_if_eq (tgt := 59) kX10_latest rfl (by decide) (fun c47 => ?_) (fun c47 => ?_)
            · exfalso; omega
            · refine fz_aload_n kX10_latest rfl rfl ?_
              refine fz_iload kX10_latest rfl rfl ?_
              refine fz_callV (d' := 0) (M' := mX10_isWeight) (As := [fz_i z11]) (st := []) kX10_latest rfl rfl vX10_isWeight rfl rfl rfl rfl (Nat.le_of_ble_eq_true rfl) (Nat.le_of_ble_eq_true rfl) (by decide) (sX10_isWeight h hI z11 ) (fun H48 r49 q50 o51 => ?_)
              obtain ⟨e52, y53, rfl, p54⟩ := q50
              subst H48
              clear o51
              rcases p54 with ⟨rfl, c55⟩ | ⟨rfl, c55⟩
              · refine fz_if_eq (tgt := 59) kX10_latest rfl (by decide) (fun c56 => ?_) (fun c56 => ?_)
                · exfalso; omega
                · refine fz_aload_n kX10_latest rfl rfl ?_
                  refine fz_iload kX10_latest rfl rfl ?_
                  refine fz_callV (d' := 0) (M' := mX10_isVolume) (As := [fz_i z2]) (st := []) kX10_latest rfl rfl vX10_isVolume rfl rfl rfl rfl (Nat.le_of_ble_eq_true rfl) (Nat.le_of_ble_eq_true rfl) (by decide) (sX10_isVolume h hI z2 ) (fun H57 r58 q59 o60 => ?_)
                  obtain ⟨e61, y62, rfl, p63⟩ := q59
                  subst H57
                  clear o60
                  rcases p63 with ⟨rfl, c64⟩ | ⟨rfl, c64⟩
                  · refine fz_if_ne (tgt := 61) kX10_latest rfl (by decide) (fun c65 => ?_) (fun c65 => ?_)
                    · refine fz_aload_n kX10_latest rfl rfl ?_
                      refine fz_getR (t := 27) kX10_latest rfl rfl ?_
                      refine fz_iload_n kX10_latest rfl rfl ?_
                      refine fz_iload_n kX10_latest rfl rfl ?_
                      refine fz_sipush ⟨by decide, by decide⟩ kX10_latest rfl ?_
                      refine fz_idivN kX10_latest rfl (by omega) (by omega) (by omega) ?_
                      refine fz_iload_n kX10_latest rfl rfl ?_
                      refine fz_sipush ⟨by decide, by decide⟩ kX10_latest rfl ?_
                      refine fz_iremN kX10_latest rfl (by omega) (by omega) (by omega) ?_
                      refine fz_callV (d' := 4) (M' := mX8_loudestOf) (As := [fz_i pm, fz_i (to / 1000), fz_i (to % 1000)]) (st := []) kX10_latest rfl rfl vX8_loudestOf rfl rfl rfl rfl (Nat.le_of_ble_eq_true rfl) (Nat.le_of_ble_eq_true rfl) (by decide) (sX8_loudestOf h hI pm (to / 1000) (to % 1000) (by omega) (by omega)) (fun H66 r67 q68 o69 => ?_)
                      obtain ⟨hI70, hf71, y74, rfl, f72, f73⟩ := q68
                      clear o69
                      have hf75 := fz_fr_tr hf hf71 (show fz_su [(18, 99999), (19, 99999)] [(10, 99999), (11, 99999), (12, 99999), (13, 99999), (14, 99999), (18, 99999), (19, 99999)] = true from rfl)
                      have t76 : H66 9 5 = h 9 5 := hf71 9 5 rfl
                      refine fz_iload kX10_latest rfl rfl ?_
                      refine fz_icmp_lt (tgt := 88) kX10_latest rfl (by decide) (fun c77 => ?_) (fun c77 => ?_)
                      · refine fz_sipush ⟨by decide, by decide⟩ kX10_latest rfl ?_
                        refine fz_istore (ls' := [(7, fz_i 999), (6, fz_i z11), (5, fz_i z2), (0, fz_r 0), (1, fz_i pm), (2, fz_i t), (3, fz_i to), (4, fz_i wx)]) kX10_latest rfl (by decide) rfl ?_
                        have lp83 : ∀ (n82 : Nat) (x78 : Int) (H79 : fz_H), fz_Iv H79 → fz_fr [(10, 99999), (11, 99999), (12, 99999), (13, 99999), (14, 99999), (18, 99999), (19, 99999)] h H79 → ((-2147483648) ≤ x78 ∧ x78 ≤ 999) → (H79 9 5 = h 9 5) → (fz_apC h H79 0 (fun _ => (0, 0, 0, 0, 0))) → (fl_dn1 (fl_lyC h pm t to (wx / 100)) (wx % 100) x78 999) → (x78 + 1 - 0).toNat < n82 → fz_R 5 mX10_latest 93 [(7, fz_i x78), (6, fz_i z11), (5, fz_i z2), (0, fz_r 0), (1, fz_i pm), (2, fz_i t), (3, fz_i to), (4, fz_i wx)] [] H79 (qX10_latest h pm t to wx) := by
                          intro n82
                          induction n82 with
                          | zero => intro x78 H79 hI80 hf81 hv86 hv87 hv88 hv89 hm85; exact absurd hm85 (by omega)
                          | succ n82 ih84 =>
                            intro x78 H79 hI80 hf81 hv86 hv87 hv88 hv89 hm85
                            refine fz_iload kX10_latest rfl rfl ?_
                            refine fz_if_lt (tgt := 148) kX10_latest rfl (by decide) (fun c90 => ?_) (fun c90 => ?_)
                            · refine fz_bipush ⟨by decide, by decide⟩ kX10_latest rfl ?_
                              exact fz_iret kX10_latest rfl rfl (fun _ => ⟨hI80, hf81, _, rfl, (by omega), (by first | exact fz_apC_f (fz_apC_s0 hv88 lost (by omega) (by omega) (by omega) rfl) (funext fun s => lost 10 s rfl) (funext fun s => lost 11 s rfl) (funext fun s => lost 12 s rfl) (funext fun s => lost 13 s rfl) (funext fun s => lost 14 s rfl) | exact hv88 | exact fz_apC_f (fz_apC_z (by omega)) (funext fun s => hf71 10 s rfl) (funext fun s => hf71 11 s rfl) (funext fun s => hf71 12 s rfl) (funext fun s => hf71 13 s rfl) (funext fun s => hf71 14 s rfl) | exact fz_apC_z (by omega)), (by first | exact Or.inl ⟨(by unfold fl_oL2; omega), fl_lsA f73 (by omega) rfl (by decide)⟩ | exact Or.inl ⟨(by unfold fl_oL2; omega), fl_lsB f73 (by omega) hv89 lost (by omega) (by omega)⟩ | exact Or.inl ⟨(by unfold fl_oL2; omega), fl_lsC f73 (by omega) hv89 (by omega) rfl⟩ | exact Or.inr ⟨(by unfold fl_oL2; omega), rfl⟩)⟩)
                            · refine fz_aload_n kX10_latest rfl rfl ?_
                              refine fz_getR (t := 9) kX10_latest rfl rfl ?_
                              refine fz_iload_n kX10_latest rfl rfl ?_
                              refine fz_iload_n kX10_latest rfl rfl ?_
                              refine fz_iload kX10_latest rfl rfl ?_
                              refine fz_iload kX10_latest rfl rfl ?_
                              refine fz_callV (d' := 1) (M' := mX4_imagine) (As := [fz_i pm, fz_i t, fz_i x78, fz_i z11]) (st := []) kX10_latest rfl rfl vX4_imagine rfl rfl rfl rfl (Nat.le_of_ble_eq_true rfl) (Nat.le_of_ble_eq_true rfl) (by decide) (sX4_imagine H79 hI80 pm t x78 z11 (by omega) (by omega) (by omega) (by omega) (by omega)) (fun H93 r94 q95 o96 => ?_)
                              obtain ⟨hI97, hf98, rfl, f99, f100⟩ := q95
                              clear o96
                              have hf101 := fz_fr_tr hf81 hf98 (show fz_su [(10, 99999), (11, 99999), (12, 99999), (13, 99999), (14, 99999)] [(10, 99999), (11, 99999), (12, 99999), (13, 99999), (14, 99999), (18, 99999), (19, 99999)] = true from rfl)
                              have t102 : H93 9 5 = H79 9 5 := hf98 9 5 rfl
                              refine fz_aload_n kX10_latest rfl rfl ?_
                              refine fz_getR (t := 27) kX10_latest rfl rfl ?_
                              refine fz_bipush ⟨by decide, by decide⟩ kX10_latest rfl ?_
                              refine fz_iload_n kX10_latest rfl rfl ?_
                              refine fz_bipush ⟨by decide, by decide⟩ kX10_latest rfl ?_
                              refine fz_idivN kX10_latest rfl (by omega) (by omega) (by omega) ?_
                              refine fz_iload_n kX10_latest rfl rfl ?_
                              refine fz_sipush ⟨by decide, by decide⟩ kX10_latest rfl ?_
                              refine fz_idivN kX10_latest rfl (by omega) (by omega) (by omega) ?_
                              refine fz_iload_n kX10_latest rfl rfl ?_
                              refine fz_sipush ⟨by decide, by decide⟩ kX10_latest rfl ?_
                              refine fz_iremN kX10_latest rfl (by omega) (by omega) (by omega) ?_
                              refine fz_callV (d' := 3) (M' := mX8_loudness) (As := [fz_i 10, fz_i (pm / 10), fz_i (to / 1000), fz_i (to % 1000)]) (st := []) kX10_latest rfl rfl vX8_loudness rfl rfl rfl rfl (Nat.le_of_ble_eq_true rfl) (Nat.le_of_ble_eq_true rfl) (by decide) (sX8_loudness H93 hI97 10 (pm / 10) (to / 1000) (to % 1000) (by omega) (by omega)) (fun H103 r104 q105 o106 => ?_)
                              obtain ⟨hI107, hf108, y111, rfl, f109, f110⟩ := q105
                              clear o106
                              have hf112 := fz_fr_tr hf101 hf108 (show fz_su [(18, 99999), (19, 99999)] [(10, 99999), (11, 99999), (12, 99999), (13, 99999), (14, 99999), (18, 99999), (19, 99999)] = true from rfl)
                              have t113 : H103 9 5 = H93 9 5 := hf108 9 5 rfl
                              have k114 : y111 = fl_lyC h pm t to (wx / 100) x78 := by rw [show wx / 100 = z11 by omega]; exact fl_lx_im f100 hf81 rfl f110
                              refine fz_iload kX10_latest rfl rfl ?_
                              refine fz_icmp_lt (tgt := 142) kX10_latest rfl (by decide) (fun c116 => ?_) (fun c116 => ?_)
                              · refine fz_iincN (ls' := [(7, fz_i (x78 + (-1))), (6, fz_i z11), (5, fz_i z2), (0, fz_r 0), (1, fz_i pm), (2, fz_i t), (3, fz_i to), (4, fz_i wx)]) kX10_latest rfl (by decide) rfl (by omega) rfl ?_
                                refine fz_goto (tgt := 93) kX10_latest rfl (by decide) ?_
                                exact ih84 (x78 + (-1)) H103 hI107 hf112 (by omega) (by omega) (fz_apC_f (fz_apC_s0 hv88 f99 (by omega) (by omega) (by omega) rfl) (funext fun s => hf108 10 s rfl) (funext fun s => hf108 11 s rfl) (funext fun s => hf108 12 s rfl) (funext fun s => hf108 13 s rfl) (funext fun s => hf108 14 s rfl)) (fl_dn1_s hv89 k114 (by omega) (by omega)) (by omega)
                              · refine fz_iload kX10_latest rfl rfl ?_
                                exact fz_iret kX10_latest rfl rfl (fun _ => ⟨hI107, hf112, _, rfl, (by omega), (by first | exact fz_apC_f (fz_apC_s0 hv88 f99 (by omega) (by omega) (by omega) rfl) (funext fun s => hf108 10 s rfl) (funext fun s => hf108 11 s rfl) (funext fun s => hf108 12 s rfl) (funext fun s => hf108 13 s rfl) (funext fun s => hf108 14 s rfl) | exact hv88 | exact fz_apC_f (fz_apC_z (by omega)) (funext fun s => hf71 10 s rfl) (funext fun s => hf71 11 s rfl) (funext fun s => hf71 12 s rfl) (funext fun s => hf71 13 s rfl) (funext fun s => hf71 14 s rfl) | exact fz_apC_z (by omega)), (by first | exact Or.inl ⟨(by unfold fl_oL2; omega), fl_lsA f73 (by omega) rfl (by decide)⟩ | exact Or.inl ⟨(by unfold fl_oL2; omega), fl_lsB f73 (by omega) hv89 k114 (by omega) (by omega)⟩ | exact Or.inl ⟨(by unfold fl_oL2; omega), fl_lsC f73 (by omega) hv89 (by omega) rfl⟩ | exact Or.inr ⟨(by unfold fl_oL2; omega), rfl⟩)⟩)
                        exact lp83 _ 999 H66 hI70 hf75 (by omega) (by omega) (fz_apC_f (fz_apC_z (by omega)) (funext fun s => hf71 10 s rfl) (funext fun s => hf71 11 s rfl) (funext fun s => hf71 12 s rfl) (funext fun s => hf71 13 s rfl) (funext fun s => hf71 14 s rfl)) (fl_dn1_0 (by omega)) (Nat.lt_succ_self _)
                      · refine fz_sipush ⟨by decide, by decide⟩ kX10_latest rfl ?_
                        exact fz_iret kX10_latest rfl rfl (fun _ => ⟨hI70, hf75, _, rfl, (by omega), (by first | exact fz_apC_f (fz_apC_s0 lost lost (by omega) (by omega) (by omega) rfl) (funext fun s => lost 10 s rfl) (funext fun s => lost 11 s rfl) (funext fun s => lost 12 s rfl) (funext fun s => lost 13 s rfl) (funext fun s => lost 14 s rfl) | exact lost | exact fz_apC_f (fz_apC_z (by omega)) (funext fun s => hf71 10 s rfl) (funext fun s => hf71 11 s rfl) (funext fun s => hf71 12 s rfl) (funext fun s => hf71 13 s rfl) (funext fun s => hf71 14 s rfl) | exact fz_apC_z (by omega)), (by first | exact Or.inl ⟨(by unfold fl_oL2; omega), fl_lsA f73 (by omega) rfl (by decide)⟩ | exact Or.inl ⟨(by unfold fl_oL2; omega), fl_lsB f73 (by omega) lost lost (by omega) (by omega)⟩ | exact Or.inl ⟨(by unfold fl_oL2; omega), fl_lsC f73 (by omega) lost (by omega) rfl⟩ | exact Or.inr ⟨(by unfold fl_oL2; omega), rfl⟩)⟩)
                    · exfalso; omega
                  · refine fz_if_ne (tgt := 61) kX10_latest rfl (by decide) (fun c125 => ?_) (fun c125 => ?_)
                    · exfalso; omega
                    · refine fz_iconst ⟨by decide, by decide⟩ kX10_latest rfl ?_
                      exact fz_iret kX10_latest rfl rfl (fun _ => ⟨hI, hf, _, rfl, (by omega), (by first | exact fz_apC_f (fz_apC_s0 lost lost (by omega) (by omega) (by omega) rfl) (funext fun s => lost 10 s rfl) (funext fun s => lost 11 s rfl) (funext fun s => lost 12 s rfl) (funext fun s => lost 13 s rfl) (funext fun s => lost 14 s rfl) | exact lost | exact fz_apC_f (fz_apC_z (by omega)) (funext fun s => lost 10 s rfl) (funext fun s => lost 11 s rfl) (funext fun s => lost 12 s rfl) (funext fun s => lost 13 s rfl) (funext fun s => lost 14 s rfl) | exact fz_apC_z (by omega)), (by first | exact Or.inl ⟨(by unfold fl_oL2; omega), fl_lsA lost (by omega) rfl (by decide)⟩ | exact Or.inl ⟨(by unfold fl_oL2; omega), fl_lsB lost (by omega) lost lost (by omega) (by omega)⟩ | exact Or.inl ⟨(by unfold fl_oL2; omega), fl_lsC lost (by omega) lost (by omega) rfl⟩ | exact Or.inr ⟨(by unfold fl_oL2; omega), rfl⟩)⟩)
              · refine fz_if_eq (tgt := 59) kX10_latest rfl (by decide) (fun c128 => ?_) (fun c128 => ?_)
                · refine fz_iconst ⟨by decide, by decide⟩ kX10_latest rfl ?_
                  exact fz_iret kX10_latest rfl rfl (fun _ => ⟨hI, hf, _, rfl, (by omega), (by first | exact fz_apC_f (fz_apC_s0 lost lost (by omega) (by omega) (by omega) rfl) (funext fun s => lost 10 s rfl) (funext fun s => lost 11 s rfl) (funext fun s => lost 12 s rfl) (funext fun s => lost 13 s rfl) (funext fun s => lost 14 s rfl) | exact lost | exact fz_apC_f (fz_apC_z (by omega)) (funext fun s => lost 10 s rfl) (funext fun s => lost 11 s rfl) (funext fun s => lost 12 s rfl) (funext fun s => lost 13 s rfl) (funext fun s => lost 14 s rfl) | exact fz_apC_z (by omega)), (by first | exact Or.inl ⟨(by unfold fl_oL2; omega), fl_lsA lost (by omega) rfl (by decide)⟩ | exact Or.inl ⟨(by unfold fl_oL2; omega), fl_lsB lost (by omega) lost lost (by omega) (by omega)⟩ | exact Or.inl ⟨(by unfold fl_oL2; omega), fl_lsC lost (by omega) lost (by omega) rfl⟩ | exact Or.inr ⟨(by unfold fl_oL2; omega), rfl⟩)⟩)
                · exfalso; omega
          · refine fz_if_eq (tgt := 59) kX10_latest rfl (by decide) (fun c131 => ?_) (fun c131 => ?_)
            · refine fz_iconst ⟨by decide, by decide⟩ kX10_latest rfl ?_
              exact fz_iret kX10_latest rfl rfl (fun _ => ⟨hI, hf, _, rfl, (by omega), (by first | exact fz_apC_f (fz_apC_s0 lost lost (by omega) (by omega) (by omega) rfl) (funext fun s => lost 10 s rfl) (funext fun s => lost 11 s rfl) (funext fun s => lost 12 s rfl) (funext fun s => lost 13 s rfl) (funext fun s => lost 14 s rfl) | exact lost | exact fz_apC_f (fz_apC_z (by omega)) (funext fun s => lost 10 s rfl) (funext fun s => lost 11 s rfl) (funext fun s => lost 12 s rfl) (funext fun s => lost 13 s rfl) (funext fun s => lost 14 s rfl) | exact fz_apC_z (by omega)), (by first | exact Or.inl ⟨(by unfold fl_oL2; omega), fl_lsA lost (by omega) rfl (by decide)⟩ | exact Or.inl ⟨(by unfold fl_oL2; omega), fl_lsB lost (by omega) lost lost (by omega) (by omega)⟩ | exact Or.inl ⟨(by unfold fl_oL2; omega), fl_lsC lost (by omega) lost (by omega) rfl⟩ | exact Or.inr ⟨(by unfold fl_oL2; omega), rfl⟩)⟩)
            · exfalso; omega
      · refine fz_if_eq (tgt := 59) kX10_latest rfl (by decide) (fun c134 => ?_) (fun c134 => ?_)
        · refine fz_iconst ⟨by decide, by decide⟩ kX10_latest rfl ?_
          exact fz_iret kX10_latest rfl rfl (fun _ => ⟨hI, hf, _, rfl, (by omega), (by first | exact fz_apC_f (fz_apC_s0 lost lost (by omega) (by omega) (by omega) rfl) (funext fun s => lost 10 s rfl) (funext fun s => lost 11 s rfl) (funext fun s => lost 12 s rfl) (funext fun s => lost 13 s rfl) (funext fun s => lost 14 s rfl) | exact lost | exact fz_apC_f (fz_apC_z (by omega)) (funext fun s => lost 10 s rfl) (funext fun s => lost 11 s rfl) (funext fun s => lost 12 s rfl) (funext fun s => lost 13 s rfl) (funext fun s => lost 14 s rfl) | exact fz_apC_z (by omega)), (by first | exact Or.inl ⟨(by unfold fl_oL2; omega), fl_lsA lost (by omega) rfl (by decide)⟩ | exact Or.inl ⟨(by unfold fl_oL2; omega), fl_lsB lost (by omega) lost lost (by omega) (by omega)⟩ | exact Or.inl ⟨(by unfold fl_oL2; omega), fl_lsC lost (by omega) lost (by omega) rfl⟩ | exact Or.inr ⟨(by unfold fl_oL2; omega), rfl⟩)⟩)
        · exfalso; omega
  · refine fz_if_eq (tgt := 59) kX10_latest rfl (by decide) (fun c137 => ?_) (fun c137 => ?_)
    · refine fz_iconst ⟨by decide, by decide⟩ kX10_latest rfl ?_
      exact fz_iret kX10_latest rfl rfl (fun _ => ⟨hI, hf, _, rfl, (by omega), (by first | exact fz_apC_f (fz_apC_s0 lost lost (by omega) (by omega) (by omega) rfl) (funext fun s => lost 10 s rfl) (funext fun s => lost 11 s rfl) (funext fun s => lost 12 s rfl) (funext fun s => lost 13 s rfl) (funext fun s => lost 14 s rfl) | exact lost | exact fz_apC_f (fz_apC_z (by omega)) (funext fun s => lost 10 s rfl) (funext fun s => lost 11 s rfl) (funext fun s => lost 12 s rfl) (funext fun s => lost 13 s rfl) (funext fun s => lost 14 s rfl) | exact fz_apC_z (by omega)), (by first | exact Or.inl ⟨(by unfold fl_oL2; omega), fl_lsA lost (by omega) rfl (by decide)⟩ | exact Or.inl ⟨(by unfold fl_oL2; omega), fl_lsB lost (by omega) lost lost (by omega) (by omega)⟩ | exact Or.inl ⟨(by unfold fl_oL2; omega), fl_lsC lost (by omega) lost (by omega) rfl⟩ | exact Or.inr ⟨(by unfold fl_oL2; omega), rfl⟩)⟩)
    · exfalso; omega

abbrev qX10_cut (h : fz_H) (d t wh : Int) : fz_H → Option fz_V → Prop := fun h' r0 => h' = h ∧ ∃ r : Int, r0 = some (fz_i r) ∧ ((-2147483648) ≤ r ∧ r ≤ 2147483647) ∧ (fl_cuC h d t wh r)
set_option maxHeartbeats 1000000 in
set_option maxRecDepth 100000 in
theorem sX10_cut (h : fz_H) (hI : fz_Iv h) (d t wh : Int) (hRE : fz_RE h) (hRP2 : fz_RP2 h) : fz_R 1 mX10_cut 0 [(0, fz_r 0), (1, fz_i d), (2, fz_i t), (3, fz_i wh)] [] h (qX10_cut h d t wh) := by
  refine fz_knowl (fun hk => ?_)
  have hr_d : -2147483648 ≤ d ∧ d < 2147483648 := hk _ (List.Mem.tail _ (List.Mem.head _))
  have hr_t : -2147483648 ≤ t ∧ t < 2147483648 := hk _ (List.Mem.tail _ (List.Mem.tail _ (List.Mem.head _)))
  have hr_wh : -2147483648 ≤ wh ∧ wh < 2147483648 := hk _ (List.Mem.tail _ (List.Mem.tail _ (List.Mem.tail _ (List.Mem.head _))))
  clear hk
  have k1 : 0 ≤ h 1 7 ∧ h 1 7 ≤ 8 := hI.1 1 _
  have k2 : 0 ≤ h 9 5 ∧ h 9 5 ≤ 10 := hI.1 9 _
  have k3 : 0 ≤ h 1 8 ∧ h 1 8 ≤ 12 := hI.1 1 _
  refine fz_aload_n kX10_cut rfl rfl ?_
  refine fz_getR (t := 9) kX10_cut rfl rfl ?_
  refine fz_iload_n kX10_cut rfl rfl ?_
  have b4 : 0 ≤ h 9 5 ∧ h 9 5 ≤ 10 := hI.1 9 _
  refine fz_callV (d' := 0) (M' := mX4_isDeed) (As := [fz_i d]) (st := []) kX10_cut rfl rfl vX4_isDeed rfl rfl rfl rfl (Nat.le_of_ble_eq_true rfl) (Nat.le_of_ble_eq_true rfl) (by decide) (sX4_isDeed h hI d ) (fun H5 r6 q7 o8 => ?_)
  obtain ⟨e9, y10, rfl, p11⟩ := q7
  subst H5
  clear o8
  rcases p11 with ⟨rfl, c12⟩ | ⟨rfl, c12⟩
  · refine fz_if_eq (tgt := 31) kX10_cut rfl (by decide) (fun c13 => ?_) (fun c13 => ?_)
    · exfalso; omega
    · refine fz_aload_n kX10_cut rfl rfl ?_
      refine fz_getR (t := 1) kX10_cut rfl rfl ?_
      refine fz_iload_n kX10_cut rfl rfl ?_
      have b14 : 0 ≤ h 1 7 ∧ h 1 7 ≤ 8 := hI.1 1 _
      refine fz_callV (d' := 0) (M' := mX2_isTown) (As := [fz_i t]) (st := []) kX10_cut rfl rfl vX2_isTown rfl rfl rfl rfl (Nat.le_of_ble_eq_true rfl) (Nat.le_of_ble_eq_true rfl) (by decide) (sX2_isTown h hI t ) (fun H15 r16 q17 o18 => ?_)
      obtain ⟨e19, y20, rfl, p21⟩ := q17
      subst H15
      clear o18
      rcases p21 with ⟨rfl, c22⟩ | ⟨rfl, c22⟩
      · refine fz_if_eq (tgt := 31) kX10_cut rfl (by decide) (fun c23 => ?_) (fun c23 => ?_)
        · exfalso; omega
        · refine fz_iload_n kX10_cut rfl rfl ?_
          refine fz_if_lt (tgt := 31) kX10_cut rfl (by decide) (fun c24 => ?_) (fun c24 => ?_)
          · refine fz_iconst ⟨by decide, by decide⟩ kX10_cut rfl ?_
            exact fz_iret kX10_cut rfl rfl (fun _ => ⟨rfl, _, rfl, (by omega), (by first | exact Or.inl ⟨(by unfold fl_oC; omega), ⟨{l5}, fl_cI_e lost (by omega), fl_cux_1 (by omega)⟩⟩ | exact Or.inl ⟨(by unfold fl_oC; omega), ⟨{l5}, fl_cI_e lost (by omega), fl_cF_2 lost (by omega)⟩⟩ | exact Or.inr ⟨(by unfold fl_oC; omega), rfl⟩)⟩)
          · refine fz_iload_n kX10_cut rfl rfl ?_
            refine fz_iconst ⟨by decide, by decide⟩ kX10_cut rfl ?_
            refine fz_icmp_le (tgt := 33) kX10_cut rfl (by decide) (fun c26 => ?_) (fun c26 => ?_)
            · have k27 := hRP2 d.toNat (by omega)
              have k28 : 0 ≤ h 11 d.toNat := (hI.1 11 _).1
              have k29 := fl_shl_nn (n := h 1 8) ⟨by omega, by omega⟩
              refine fz_iconst ⟨by decide, by decide⟩ kX10_cut rfl ?_
              refine fz_istore (ls' := [(4, fz_i 4), (0, fz_r 0), (1, fz_i d), (2, fz_i t), (3, fz_i wh)]) kX10_cut rfl (by decide) rfl ?_
              refine fz_bipush ⟨by decide, by decide⟩ kX10_cut rfl ?_
              refine fz_istore (ls' := [(5, fz_i (-2)), (4, fz_i 4), (0, fz_r 0), (1, fz_i d), (2, fz_i t), (3, fz_i wh)]) kX10_cut rfl (by decide) rfl ?_
              refine fz_iconst ⟨by decide, by decide⟩ kX10_cut rfl ?_
              refine fz_istore (ls' := [(6, fz_i 0), (5, fz_i (-2)), (4, fz_i 4), (0, fz_r 0), (1, fz_i d), (2, fz_i t), (3, fz_i wh)]) kX10_cut rfl (by decide) rfl ?_
              have lp34 : ∀ (n33 : Nat) (x30 : Int) (x31 : Int) (x32 : Int), (0 ≤ x30 ∧ x30 ≤ 2147483647) → ((-2147483648) ≤ x31 ∧ x31 ≤ 2147483647) → ((-2147483648) ≤ x32 ∧ x32 ≤ 2147483647) → (x30 ≤ fz_shl 1 (h 1 8)) → (fl_cI (fun k => ¬ fl_catC h k (h 11 d.toNat) t) x30 x31) → (fl_cF x32 x31) → ((fz_shl 1 (h 1 8)) - x30).toNat < n33 → fz_R 1 mX10_cut 43 [(6, fz_i x30), (5, fz_i x31), (4, fz_i x32), (0, fz_r 0), (1, fz_i d), (2, fz_i t), (3, fz_i wh)] [] h (qX10_cut h d t wh) := by
                intro n33
                induction n33 with
                | zero => intro x30 x31 x32 hv37 hv38 hv39 hv40 hv41 hv42 hm36; exact absurd hm36 (by omega)
                | succ n33 ih35 =>
                  intro x30 x31 x32 hv37 hv38 hv39 hv40 hv41 hv42 hm36
                  refine fz_iload kX10_cut rfl rfl ?_
                  refine fz_iconst ⟨by decide, by decide⟩ kX10_cut rfl ?_
                  refine fz_aload_n kX10_cut rfl rfl ?_
                  refine fz_getR (t := 1) kX10_cut rfl rfl ?_
                  refine fz_getV (v := h 1 8) kX10_cut rfl rfl rfl ?_
                  have b43 : 0 ≤ h 1 8 ∧ h 1 8 ≤ 12 := hI.1 1 _
                  refine fz_ishl kX10_cut rfl ?_
                  have b44 : -2147483648 ≤ (fz_shl 1 (h 1 8)) ∧ (fz_shl 1 (h 1 8)) < 2147483648 := fz_b32 _
                  refine fz_icmp_ge (tgt := 107) kX10_cut rfl (by decide) (fun c45 => ?_) (fun c45 => ?_)
                  · refine fz_iload kX10_cut rfl rfl ?_
                    refine fz_bipush ⟨by decide, by decide⟩ kX10_cut rfl ?_
                    refine fz_icmp_eq (tgt := 119) kX10_cut rfl (by decide) (fun c46 => ?_) (fun c46 => ?_)
                    · refine fz_iload kX10_cut rfl rfl ?_
                      refine fz_goto (tgt := 126) kX10_cut rfl (by decide) ?_
                      exact fz_iret kX10_cut rfl rfl (fun _ => ⟨rfl, _, rfl, (by omega), (by first | exact Or.inl ⟨(by unfold fl_oC; omega), ⟨x31, fl_cI_e hv41 (by omega), fl_cux_1 (by omega)⟩⟩ | exact Or.inl ⟨(by unfold fl_oC; omega), ⟨x31, fl_cI_e hv41 (by omega), fl_cF_2 hv42 (by omega)⟩⟩ | exact Or.inr ⟨(by unfold fl_oC; omega), rfl⟩)⟩)
                    · refine fz_iload_n kX10_cut rfl rfl ?_
                      refine fz_iconst ⟨by decide, by decide⟩ kX10_cut rfl ?_
                      refine fz_icmp_ne (tgt := 124) kX10_cut rfl (by decide) (fun c48 => ?_) (fun c48 => ?_)
                      · refine fz_iload kX10_cut rfl rfl ?_
                        exact fz_iret kX10_cut rfl rfl (fun _ => ⟨rfl, _, rfl, (by omega), (by first | exact Or.inl ⟨(by unfold fl_oC; omega), ⟨x31, fl_cI_e hv41 (by omega), fl_cux_1 (by omega)⟩⟩ | exact Or.inl ⟨(by unfold fl_oC; omega), ⟨x31, fl_cI_e hv41 (by omega), fl_cF_2 hv42 (by omega)⟩⟩ | exact Or.inr ⟨(by unfold fl_oC; omega), rfl⟩)⟩)
                      · refine fz_iload kX10_cut rfl rfl ?_
                        refine fz_goto (tgt := 126) kX10_cut rfl (by decide) ?_
                        exact fz_iret kX10_cut rfl rfl (fun _ => ⟨rfl, _, rfl, (by omega), (by first | exact Or.inl ⟨(by unfold fl_oC; omega), ⟨x31, fl_cI_e hv41 (by omega), fl_cux_1 (by omega)⟩⟩ | exact Or.inl ⟨(by unfold fl_oC; omega), ⟨x31, fl_cI_e hv41 (by omega), fl_cF_2 hv42 (by omega)⟩⟩ | exact Or.inr ⟨(by unfold fl_oC; omega), rfl⟩)⟩)
                  · refine fz_iload kX10_cut rfl rfl ?_
                    refine fz_callS (d' := 0) (M' := mJ6_bitCount_0f7a4) (As := [fz_i x30]) (st := []) kX10_cut rfl rfl vJ6_bitCount_0f7a4 rfl rfl (Nat.le_of_ble_eq_true rfl) (Nat.le_of_ble_eq_true rfl) (by decide) (sJ6_bitCount_0f7a4 h hI x30 ) (fun H51 r52 q53 o54 => ?_)
                    obtain ⟨e55, y58, rfl, f56, f57⟩ := q53
                    subst H51
                    clear o54
                    refine fz_istore (ls' := [(7, fz_i y58), (6, fz_i x30), (5, fz_i x31), (4, fz_i x32), (0, fz_r 0), (1, fz_i d), (2, fz_i t), (3, fz_i wh)]) kX10_cut rfl (by decide) rfl ?_
                    refine fz_iload kX10_cut rfl rfl ?_
                    refine fz_iload kX10_cut rfl rfl ?_
                    refine fz_icmp_ge (tgt := 101) kX10_cut rfl (by decide) (fun c59 => ?_) (fun c59 => ?_)
                    · refine fz_iincN (ls' := [(6, fz_i (x30 + 1)), (7, fz_i y58), (5, fz_i x31), (4, fz_i x32), (0, fz_r 0), (1, fz_i d), (2, fz_i t), (3, fz_i wh)]) kX10_cut rfl (by decide) rfl (by omega) rfl ?_
                      refine fz_goto (tgt := 43) kX10_cut rfl (by decide) ?_
                      refine fz_sub (fz_pk_sub (ls' := [(6, fz_i (x30 + 1)), (5, fz_i x31), (4, fz_i x32), (0, fz_r 0), (1, fz_i d), (2, fz_i t), (3, fz_i wh)]) [0, 2, 3, 4, 5, 6, 7] rfl) ?_
                      exact ih35 (x30 + 1) x31 x32 (by omega) (by omega) (by omega) (by omega) (by first | exact fl_cI_nC hv41 hv42 f57 (by omega) | exact fl_cI_yC hv41 hv42 (by omega) f57 (by omega) (lost.elim (fun q => absurd q.1 (by omega)) (fun q => q.2)) | exact fl_cI_n hv41 (Or.inr (Or.inr (fun z => lost.elim (fun q => z q.2) (fun q => absurd q.1 (by omega)))))) (by first | exact hv42 | exact Or.inr ⟨by omega, f57⟩) (by omega)
                    · refine fz_aload_n kX10_cut rfl rfl ?_
                      refine fz_getR (t := 1) kX10_cut rfl rfl ?_
                      refine fz_aload_n kX10_cut rfl rfl ?_
                      refine fz_getR (t := 9) kX10_cut rfl rfl ?_
                      refine fz_getR (t := 11) kX10_cut rfl rfl ?_
                      refine fz_iload_n kX10_cut rfl rfl ?_
                      refine fz_ialdV (n := 11) (v := h 11 (d.toNat)) kX10_cut rfl rfl (by omega) (by omega) rfl ?_
                      have b62 : 0 ≤ h 11 (d.toNat) ∧ h 11 (d.toNat) ≤ 7 := hI.1 11 _
                      refine fz_iload_n kX10_cut rfl rfl ?_
                      refine fz_iload kX10_cut rfl rfl ?_
                      refine fz_callV (d' := 0) (M' := mX2_isCartedTo) (As := [fz_i (h 11 (d.toNat)), fz_i t, fz_i x30]) (st := []) kX10_cut rfl rfl vX2_isCartedTo rfl rfl rfl rfl (Nat.le_of_ble_eq_true rfl) (Nat.le_of_ble_eq_true rfl) (by decide) (sX2_isCartedTo h hI (h 11 (d.toNat)) t x30 hRE (by omega) (by omega)) (fun H63 r64 q65 o66 => ?_)
                      obtain ⟨e67, y69, rfl, p70, f68⟩ := q65
                      subst H63
                      clear o66
                      refine fz_if_ne (tgt := 101) kX10_cut rfl (by decide) (fun c71 => ?_) (fun c71 => ?_)
                      · refine fz_iincN (ls' := [(6, fz_i (x30 + 1)), (7, fz_i y58), (5, fz_i x31), (4, fz_i x32), (0, fz_r 0), (1, fz_i d), (2, fz_i t), (3, fz_i wh)]) kX10_cut rfl (by decide) rfl (by omega) rfl ?_
                        refine fz_goto (tgt := 43) kX10_cut rfl (by decide) ?_
                        refine fz_sub (fz_pk_sub (ls' := [(6, fz_i (x30 + 1)), (5, fz_i x31), (4, fz_i x32), (0, fz_r 0), (1, fz_i d), (2, fz_i t), (3, fz_i wh)]) [0, 2, 3, 4, 5, 6, 7] rfl) ?_
                        exact ih35 (x30 + 1) x31 x32 (by omega) (by omega) (by omega) (by omega) (by first | exact fl_cI_nC hv41 hv42 f57 (by omega) | exact fl_cI_yC hv41 hv42 (by omega) f57 (by omega) (f68.elim (fun q => absurd q.1 (by omega)) (fun q => q.2)) | exact fl_cI_n hv41 (Or.inr (Or.inr (fun z => f68.elim (fun q => z q.2) (fun q => absurd q.1 (by omega)))))) (by first | exact hv42 | exact Or.inr ⟨by omega, f57⟩) (by omega)
                      · refine fz_iload kX10_cut rfl rfl ?_
                        refine fz_istore (ls' := [(4, fz_i y58), (7, fz_i y58), (6, fz_i x30), (5, fz_i x31), (0, fz_r 0), (1, fz_i d), (2, fz_i t), (3, fz_i wh)]) kX10_cut rfl (by decide) rfl ?_
                        refine fz_iload kX10_cut rfl rfl ?_
                        refine fz_istore (ls' := [(5, fz_i x30), (4, fz_i y58), (7, fz_i y58), (6, fz_i x30), (0, fz_r 0), (1, fz_i d), (2, fz_i t), (3, fz_i wh)]) kX10_cut rfl (by decide) rfl ?_
                        refine fz_iincN (ls' := [(6, fz_i (x30 + 1)), (5, fz_i x30), (4, fz_i y58), (7, fz_i y58), (0, fz_r 0), (1, fz_i d), (2, fz_i t), (3, fz_i wh)]) kX10_cut rfl (by decide) rfl (by omega) rfl ?_
                        refine fz_goto (tgt := 43) kX10_cut rfl (by decide) ?_
                        refine fz_sub (fz_pk_sub (ls' := [(6, fz_i (x30 + 1)), (5, fz_i x30), (4, fz_i y58), (0, fz_r 0), (1, fz_i d), (2, fz_i t), (3, fz_i wh)]) [0, 1, 2, 4, 5, 6, 7] rfl) ?_
                        exact ih35 (x30 + 1) x30 y58 (by omega) (by omega) (by omega) (by omega) (by first | exact fl_cI_nC hv41 hv42 f57 (by omega) | exact fl_cI_yC hv41 hv42 (by omega) f57 (by omega) (f68.elim (fun q => absurd q.1 (by omega)) (fun q => q.2)) | exact fl_cI_n hv41 (Or.inr (Or.inr (fun z => f68.elim (fun q => z q.2) (fun q => absurd q.1 (by omega)))))) (by first | exact hv42 | exact Or.inr ⟨by omega, f57⟩) (by omega)
              exact lp34 _ 0 (-2) 4 (by omega) (by omega) (by omega) (by omega) (fl_cI_0) (Or.inl ⟨rfl, rfl⟩) (Nat.lt_succ_self _)
            · refine fz_iconst ⟨by decide, by decide⟩ kX10_cut rfl ?_
              exact fz_iret kX10_cut rfl rfl (fun _ => ⟨rfl, _, rfl, (by omega), (by first | exact Or.inl ⟨(by unfold fl_oC; omega), ⟨{l5}, fl_cI_e lost (by omega), fl_cux_1 (by omega)⟩⟩ | exact Or.inl ⟨(by unfold fl_oC; omega), ⟨{l5}, fl_cI_e lost (by omega), fl_cF_2 lost (by omega)⟩⟩ | exact Or.inr ⟨(by unfold fl_oC; omega), rfl⟩)⟩)
      · refine fz_if_eq (tgt := 31) kX10_cut rfl (by decide) (fun c79 => ?_) (fun c79 => ?_)
        · refine fz_iconst ⟨by decide, by decide⟩ kX10_cut rfl ?_
          exact fz_iret kX10_cut rfl rfl (fun _ => ⟨rfl, _, rfl, (by omega), (by first | exact Or.inl ⟨(by unfold fl_oC; omega), ⟨{l5}, fl_cI_e lost (by omega), fl_cux_1 (by omega)⟩⟩ | exact Or.inl ⟨(by unfold fl_oC; omega), ⟨{l5}, fl_cI_e lost (by omega), fl_cF_2 lost (by omega)⟩⟩ | exact Or.inr ⟨(by unfold fl_oC; omega), rfl⟩)⟩)
        · exfalso; omega
  · refine fz_if_eq (tgt := 31) kX10_cut rfl (by decide) (fun c81 => ?_) (fun c81 => ?_)
    · refine fz_iconst ⟨by decide, by decide⟩ kX10_cut rfl ?_
      exact fz_iret kX10_cut rfl rfl (fun _ => ⟨rfl, _, rfl, (by omega), (by first | exact Or.inl ⟨(by unfold fl_oC; omega), ⟨{l5}, fl_cI_e lost (by omega), fl_cux_1 (by omega)⟩⟩ | exact Or.inl ⟨(by unfold fl_oC; omega), ⟨{l5}, fl_cI_e lost (by omega), fl_cF_2 lost (by omega)⟩⟩ | exact Or.inr ⟨(by unfold fl_oC; omega), rfl⟩)⟩)
    · exfalso; omega

abbrev qX10_arrestsSomewhere (h : fz_H) (d hr : Int) : fz_H → Option fz_V → Prop := fun h' r0 => fz_Iv h' ∧ fz_fr [(18, 99999), (19, 99999)] h h' ∧ ∃ r : Int, r0 = some (fz_i r) ∧ (r = 0 ∨ r = 1) ∧ ((r = 1 ∧ fl_asC h hr d) ∨ (r = 0 ∧ ¬ fl_asC h hr d))
set_option maxHeartbeats 1000000 in
set_option maxRecDepth 100000 in
theorem sX10_arrestsSomewhere (h : fz_H) (hI : fz_Iv h) (d hr : Int) (hp0 : 0 ≤ d ∧ d < 11) : fz_R 4 mX10_arrestsSomewhere 0 [(0, fz_r 0), (1, fz_i d), (2, fz_i hr)] [] h (qX10_arrestsSomewhere h d hr) := by
  refine fz_knowl (fun hk => ?_)
  have hr_d : -2147483648 ≤ d ∧ d < 2147483648 := hk _ (List.Mem.tail _ (List.Mem.head _))
  have hr_hr : -2147483648 ≤ hr ∧ hr < 2147483648 := hk _ (List.Mem.tail _ (List.Mem.tail _ (List.Mem.head _)))
  clear hk
  have hf : fz_fr [(18, 99999), (19, 99999)] h h := fz_fr_rf
  have k1 : 0 ≤ h 1 7 ∧ h 1 7 ≤ 8 := hI.1 1 _
  refine fz_iconst ⟨by decide, by decide⟩ kX10_arrestsSomewhere rfl ?_
  refine fz_istore_n (ls' := [(3, fz_i 0), (0, fz_r 0), (1, fz_i d), (2, fz_i hr)]) kX10_arrestsSomewhere rfl (by decide) rfl ?_
  have lp7 : ∀ (n6 : Nat) (x2 : Int) (H3 : fz_H), fz_Iv H3 → fz_fr [(18, 99999), (19, 99999)] h H3 → (0 ≤ x2 ∧ x2 ≤ 2147483647) → (fl_asI h hr d x2) → ((h 1 7) - x2).toNat < n6 → fz_R 4 mX10_arrestsSomewhere 2 [(3, fz_i x2), (0, fz_r 0), (1, fz_i d), (2, fz_i hr)] [] H3 (qX10_arrestsSomewhere h d hr) := by
    intro n6
    induction n6 with
    | zero => intro x2 H3 hI4 hf5 hv10 hv11 hm9; exact absurd hm9 (by omega)
    | succ n6 ih8 =>
      intro x2 H3 hI4 hf5 hv10 hv11 hm9
      refine fz_iload_n kX10_arrestsSomewhere rfl rfl ?_
      refine fz_aload_n kX10_arrestsSomewhere rfl rfl ?_
      refine fz_getR (t := 1) kX10_arrestsSomewhere rfl rfl ?_
      refine fz_getV (v := h 1 7) kX10_arrestsSomewhere rfl rfl (hf5 1 7 rfl) ?_
      have b12 : 0 ≤ h 1 7 ∧ h 1 7 ≤ 8 := hI.1 1 _
      refine fz_icmp_ge (tgt := 50) kX10_arrestsSomewhere rfl (by decide) (fun c13 => ?_) (fun c13 => ?_)
      · refine fz_iconst ⟨by decide, by decide⟩ kX10_arrestsSomewhere rfl ?_
        exact fz_zret kX10_arrestsSomewhere rfl rfl (by omega) ⟨hI4, hf5, _, rfl, (by omega), (by first | exact Or.inl ⟨rfl, fl_asI_y lost (hf5 27 8 rfl) lost (by omega) ⟨by omega, by omega⟩⟩ | exact Or.inr ⟨rfl, fl_asI_n hv11 (by omega)⟩)⟩
      · refine fz_aload_n kX10_arrestsSomewhere rfl rfl ?_
        refine fz_getR (t := 27) kX10_arrestsSomewhere rfl rfl ?_
        refine fz_aload_n kX10_arrestsSomewhere rfl rfl ?_
        refine fz_getR (t := 27) kX10_arrestsSomewhere rfl rfl ?_
        refine fz_iload_n kX10_arrestsSomewhere rfl rfl ?_
        refine fz_aload_n kX10_arrestsSomewhere rfl rfl ?_
        refine fz_getR (t := 9) kX10_arrestsSomewhere rfl rfl ?_
        refine fz_getR (t := 10) kX10_arrestsSomewhere rfl rfl ?_
        refine fz_iload_n kX10_arrestsSomewhere rfl rfl ?_
        refine fz_ialdV (n := 11) (v := h 10 (d.toNat)) kX10_arrestsSomewhere rfl rfl (by omega) (by omega) (hf5 10 _ rfl) ?_
        have b15 : 0 ≤ h 10 (d.toNat) ∧ h 10 (d.toNat) ≤ 3 := hI.1 10 _
        refine fz_iload_n kX10_arrestsSomewhere rfl rfl ?_
        refine fz_iload_n kX10_arrestsSomewhere rfl rfl ?_
        refine fz_callV (d' := 3) (M' := mX8_loudness) (As := [fz_i d, fz_i (h 10 (d.toNat)), fz_i x2, fz_i hr]) (st := [fz_r 27]) kX10_arrestsSomewhere rfl rfl vX8_loudness rfl rfl rfl rfl (Nat.le_of_ble_eq_true rfl) (Nat.le_of_ble_eq_true rfl) (by decide) (sX8_loudness H3 hI4 d (h 10 (d.toNat)) x2 hr (by omega) (by omega)) (fun H16 r17 q18 o19 => ?_)
        obtain ⟨hI20, hf21, y24, rfl, f22, f23⟩ := q18
        clear o19
        have hf25 := fz_fr_tr hf5 hf21 (show fz_su [(18, 99999), (19, 99999)] [(18, 99999), (19, 99999)] = true from rfl)
        have k26 : y24 = fl_ldC h (h 10 d.toNat) x2 hr d := by rw [← fl_ldC_fr hf5 rfl]; exact f23
        have b28 : 0 ≤ h 27 8 ∧ h 27 8 ≤ 99 := hI.1 27 _
        have e29 : H16 27 8 = h 27 8 := hf25 27 8 rfl
        refine fz_callV (d' := 0) (M' := mX8_arrestsAt) (As := [fz_i y24]) (st := []) kX10_arrestsSomewhere rfl rfl vX8_arrestsAt rfl rfl rfl rfl (Nat.le_of_ble_eq_true rfl) (Nat.le_of_ble_eq_true rfl) (by decide) (sX8_arrestsAt H16 hI20 y24 ) (fun H30 r31 q32 o33 => ?_)
        obtain ⟨e34, y36, rfl, p37, f35⟩ := q32
        subst H30
        clear o33
        refine fz_if_eq (tgt := 44) kX10_arrestsSomewhere rfl (by decide) (fun c38 => ?_) (fun c38 => ?_)
        · refine fz_iincN (ls' := [(3, fz_i (x2 + 1)), (0, fz_r 0), (1, fz_i d), (2, fz_i hr)]) kX10_arrestsSomewhere rfl (by decide) rfl (by omega) rfl ?_
          refine fz_goto (tgt := 2) kX10_arrestsSomewhere rfl (by decide) ?_
          exact ih8 (x2 + 1) H16 hI20 hf25 (by omega) (fl_asI_s hv11 k26 (hf25 27 8 rfl) f35 (by omega)) (by omega)
        · refine fz_iconst ⟨by decide, by decide⟩ kX10_arrestsSomewhere rfl ?_
          exact fz_zret kX10_arrestsSomewhere rfl rfl (by omega) ⟨hI20, hf25, _, rfl, (by omega), (by first | exact Or.inl ⟨rfl, fl_asI_y k26 (hf25 27 8 rfl) f35 (by omega) ⟨by omega, by omega⟩⟩ | exact Or.inr ⟨rfl, fl_asI_n hv11 (by omega)⟩)⟩
  exact lp7 _ 0 h hI hf (by omega) (fl_asI_0) (Nat.lt_succ_self _)

abbrev qX10_free (h : fz_H) (on hr wh : Int) : fz_H → Option fz_V → Prop := fun h' r0 => fz_Iv h' ∧ fz_fr [(18, 99999), (19, 99999)] h h' ∧ ∃ r : Int, r0 = some (fz_i r) ∧ ((-2147483648) ≤ r ∧ r ≤ 2147483647) ∧ (fl_frC h on hr wh r)
set_option maxHeartbeats 1000000 in
set_option maxRecDepth 100000 in
theorem sX10_free (h : fz_H) (hI : fz_Iv h) (on hr wh : Int) : fz_R 5 mX10_free 0 [(0, fz_r 0), (1, fz_i on), (2, fz_i hr), (3, fz_i wh)] [] h (qX10_free h on hr wh) := by
  refine fz_knowl (fun hk => ?_)
  have hr_on : -2147483648 ≤ on ∧ on < 2147483648 := hk _ (List.Mem.tail _ (List.Mem.head _))
  have hr_hr : -2147483648 ≤ hr ∧ hr < 2147483648 := hk _ (List.Mem.tail _ (List.Mem.tail _ (List.Mem.head _)))
  have hr_wh : -2147483648 ≤ wh ∧ wh < 2147483648 := hk _ (List.Mem.tail _ (List.Mem.tail _ (List.Mem.tail _ (List.Mem.head _))))
  clear hk
  have hf : fz_fr [(18, 99999), (19, 99999)] h h := fz_fr_rf
  have k1 : 0 ≤ h 9 5 ∧ h 9 5 ≤ 10 := hI.1 9 _
  refine fz_aload_n kX10_free rfl rfl ?_
  refine fz_iload_n kX10_free rfl rfl ?_
  refine fz_callV (d' := 0) (M' := mX10_isOne) (As := [fz_i on]) (st := []) kX10_free rfl rfl vX10_isOne rfl rfl rfl rfl (Nat.le_of_ble_eq_true rfl) (Nat.le_of_ble_eq_true rfl) (by decide) (sX10_isOne h hI on ) (fun H2 r3 q4 o5 => ?_)
  obtain ⟨e6, y7, rfl, p8⟩ := q4
  subst H2
  clear o5
  rcases p8 with ⟨rfl, c9⟩ | ⟨rfl, c9⟩
  · refine fz_if_eq (tgt := 25) kX10_free rfl (by decide) (fun c10 => ?_) (fun c10 => ?_)
    · exfalso; omega
    · refine fz_aload_n kX10_free rfl rfl ?_
      refine fz_iload_n kX10_free rfl rfl ?_
      refine fz_callV (d' := 0) (M' := mX10_isHour) (As := [fz_i hr]) (st := []) kX10_free rfl rfl vX10_isHour rfl rfl rfl rfl (Nat.le_of_ble_eq_true rfl) (Nat.le_of_ble_eq_true rfl) (by decide) (sX10_isHour h hI hr ) (fun H11 r12 q13 o14 => ?_)
      obtain ⟨e15, y16, rfl, p17⟩ := q13
      subst H11
      clear o14
      rcases p17 with ⟨rfl, c18⟩ | ⟨rfl, c18⟩
      · refine fz_if_eq (tgt := 25) kX10_free rfl (by decide) (fun c19 => ?_) (fun c19 => ?_)
        · exfalso; omega
        · refine fz_iload_n kX10_free rfl rfl ?_
          refine fz_if_lt (tgt := 25) kX10_free rfl (by decide) (fun c20 => ?_) (fun c20 => ?_)
          · refine fz_iconst ⟨by decide, by decide⟩ kX10_free rfl ?_
            exact fz_iret kX10_free rfl rfl (fun _ => ⟨hI, hf, _, rfl, (by omega), (by first | exact Or.inl ⟨(by unfold fl_oFr; omega), ⟨{l4}, ⟨⟨by omega, by omega⟩, fz_cb_e lost (by omega)⟩, fl_frx_1 (by omega) rfl⟩⟩ | exact Or.inl ⟨(by unfold fl_oFr; omega), ⟨{l4}, ⟨⟨by omega, by omega⟩, fz_cb_e lost (by omega)⟩, fl_frx_0 (by omega) rfl lost⟩⟩ | exact Or.inr ⟨(by unfold fl_oFr; omega), rfl⟩)⟩)
          · refine fz_iload_n kX10_free rfl rfl ?_
            refine fz_iconst ⟨by decide, by decide⟩ kX10_free rfl ?_
            refine fz_icmp_le (tgt := 27) kX10_free rfl (by decide) (fun c22 => ?_) (fun c22 => ?_)
            · refine fz_iconst ⟨by decide, by decide⟩ kX10_free rfl ?_
              refine fz_istore (ls' := [(4, fz_i 0), (0, fz_r 0), (1, fz_i on), (2, fz_i hr), (3, fz_i wh)]) kX10_free rfl (by decide) rfl ?_
              refine fz_iconst ⟨by decide, by decide⟩ kX10_free rfl ?_
              refine fz_istore (ls' := [(5, fz_i 0), (4, fz_i 0), (0, fz_r 0), (1, fz_i on), (2, fz_i hr), (3, fz_i wh)]) kX10_free rfl (by decide) rfl ?_
              have lp29 : ∀ (n28 : Nat) (x23 : Int) (x24 : Int) (H25 : fz_H), fz_Iv H25 → fz_fr [(18, 99999), (19, 99999)] h H25 → (0 ≤ x23 ∧ x23 ≤ 2147483647) → (0 ≤ x24 ∧ x24 ≤ 2047) → (x23 ≤ h 9 5) → (fz_cb (fl_g1 (fl_fPC h on hr)) 1 x24 x23) → ((h 9 5) - x23).toNat < n28 → fz_R 5 mX10_free 33 [(5, fz_i x23), (4, fz_i x24), (0, fz_r 0), (1, fz_i on), (2, fz_i hr), (3, fz_i wh)] [] H25 (qX10_free h on hr wh) := by
                intro n28
                induction n28 with
                | zero => intro x23 x24 H25 hI26 hf27 hv32 hv33 hv34 hv35 hm31; exact absurd hm31 (by omega)
                | succ n28 ih30 =>
                  intro x23 x24 H25 hI26 hf27 hv32 hv33 hv34 hv35 hm31
                  refine fz_iload kX10_free rfl rfl ?_
                  refine fz_aload_n kX10_free rfl rfl ?_
                  refine fz_getR (t := 9) kX10_free rfl rfl ?_
                  refine fz_getV (v := h 9 5) kX10_free rfl rfl (hf27 9 5 rfl) ?_
                  have b36 : 0 ≤ h 9 5 ∧ h 9 5 ≤ 10 := hI.1 9 _
                  refine fz_icmp_ge (tgt := 98) kX10_free rfl (by decide) (fun c37 => ?_) (fun c37 => ?_)
                  · refine fz_iload_n kX10_free rfl rfl ?_
                    refine fz_iconst ⟨by decide, by decide⟩ kX10_free rfl ?_
                    refine fz_icmp_ne (tgt := 108) kX10_free rfl (by decide) (fun c38 => ?_) (fun c38 => ?_)
                    · refine fz_iload kX10_free rfl rfl ?_
                      refine fz_callS (d' := 0) (M' := mJ6_bitCount_0f7a4) (As := [fz_i x24]) (st := []) kX10_free rfl rfl vJ6_bitCount_0f7a4 rfl rfl (Nat.le_of_ble_eq_true rfl) (Nat.le_of_ble_eq_true rfl) (by decide) (sJ6_bitCount_0f7a4 H25 hI26 x24 ) (fun H39 r40 q41 o42 => ?_)
                      obtain ⟨e43, y46, rfl, f44, f45⟩ := q41
                      subst H39
                      clear o42
                      exact fz_iret kX10_free rfl rfl (fun _ => ⟨hI26, hf27, _, rfl, (by omega), (by first | exact Or.inl ⟨(by unfold fl_oFr; omega), ⟨x24, ⟨⟨by omega, by omega⟩, fz_cb_e hv35 (by omega)⟩, fl_frx_1 (by omega) rfl⟩⟩ | exact Or.inl ⟨(by unfold fl_oFr; omega), ⟨x24, ⟨⟨by omega, by omega⟩, fz_cb_e hv35 (by omega)⟩, fl_frx_0 (by omega) rfl f45⟩⟩ | exact Or.inr ⟨(by unfold fl_oFr; omega), rfl⟩)⟩)
                    · refine fz_iload kX10_free rfl rfl ?_
                      refine fz_goto (tgt := 113) kX10_free rfl (by decide) ?_
                      exact fz_iret kX10_free rfl rfl (fun _ => ⟨hI26, hf27, _, rfl, (by omega), (by first | exact Or.inl ⟨(by unfold fl_oFr; omega), ⟨x24, ⟨⟨by omega, by omega⟩, fz_cb_e hv35 (by omega)⟩, fl_frx_1 (by omega) rfl⟩⟩ | exact Or.inl ⟨(by unfold fl_oFr; omega), ⟨x24, ⟨⟨by omega, by omega⟩, fz_cb_e hv35 (by omega)⟩, fl_frx_0 (by omega) rfl lost⟩⟩ | exact Or.inr ⟨(by unfold fl_oFr; omega), rfl⟩)⟩)
                  · refine fz_aload_n kX10_free rfl rfl ?_
                    refine fz_getR (t := 9) kX10_free rfl rfl ?_
                    refine fz_getR (t := 10) kX10_free rfl rfl ?_
                    refine fz_iload kX10_free rfl rfl ?_
                    refine fz_ialdV (n := 11) (v := h 10 (x23.toNat)) kX10_free rfl rfl (by omega) (by omega) (hf27 10 _ rfl) ?_
                    have b49 : 0 ≤ h 10 (x23.toNat) ∧ h 10 (x23.toNat) ≤ 3 := hI.1 10 _
                    refine fz_iload_n kX10_free rfl rfl ?_
                    refine fz_icmp_ne (tgt := 92) kX10_free rfl (by decide) (fun c50 => ?_) (fun c50 => ?_)
                    · refine fz_iincN (ls' := [(5, fz_i (x23 + 1)), (4, fz_i x24), (0, fz_r 0), (1, fz_i on), (2, fz_i hr), (3, fz_i wh)]) kX10_free rfl (by decide) rfl (by omega) rfl ?_
                      refine fz_goto (tgt := 33) kX10_free rfl (by decide) ?_
                      exact ih30 (x23 + 1) x24 H25 hI26 hf27 (by omega) (by omega) (by omega) (by first | exact fl_cb_0 hv35 (by omega) (fl_g1_n (fun q => absurd q.1 (by omega))) rfl rfl | exact fl_cb_0 hv35 (by omega) (fl_g1_n (fun q => absurd q.2.1 (by omega))) rfl rfl | exact fl_cb_0 hv35 (by omega) (fl_g1_n (fun q => lost.elim (fun z => absurd z.1 (by omega)) (fun z => z.2 q.2.2))) rfl rfl | exact fl_cb_1 hv35 ⟨by omega, by omega⟩ (fl_g1_y ⟨by omega, by omega, lost.elim (fun q => q.2) (fun q => absurd q.1 (by omega))⟩) rfl rfl) (by omega)
                    · refine fz_aload_n kX10_free rfl rfl ?_
                      refine fz_getR (t := 9) kX10_free rfl rfl ?_
                      refine fz_getR (t := 13) kX10_free rfl rfl ?_
                      refine fz_iload kX10_free rfl rfl ?_
                      refine fz_ialdV (n := 11) (v := h 13 (x23.toNat)) kX10_free rfl rfl (by omega) (by omega) (hf27 13 _ rfl) ?_
                      have b52 : 0 ≤ h 13 (x23.toNat) ∧ h 13 (x23.toNat) ≤ 4 := hI.1 13 _
                      refine fz_iconst ⟨by decide, by decide⟩ kX10_free rfl ?_
                      refine fz_icmp_ne (tgt := 92) kX10_free rfl (by decide) (fun c53 => ?_) (fun c53 => ?_)
                      · refine fz_iincN (ls' := [(5, fz_i (x23 + 1)), (4, fz_i x24), (0, fz_r 0), (1, fz_i on), (2, fz_i hr), (3, fz_i wh)]) kX10_free rfl (by decide) rfl (by omega) rfl ?_
                        refine fz_goto (tgt := 33) kX10_free rfl (by decide) ?_
                        exact ih30 (x23 + 1) x24 H25 hI26 hf27 (by omega) (by omega) (by omega) (by first | exact fl_cb_0 hv35 (by omega) (fl_g1_n (fun q => absurd q.1 (by omega))) rfl rfl | exact fl_cb_0 hv35 (by omega) (fl_g1_n (fun q => absurd q.2.1 (by omega))) rfl rfl | exact fl_cb_0 hv35 (by omega) (fl_g1_n (fun q => lost.elim (fun z => absurd z.1 (by omega)) (fun z => z.2 q.2.2))) rfl rfl | exact fl_cb_1 hv35 ⟨by omega, by omega⟩ (fl_g1_y ⟨by omega, by omega, lost.elim (fun q => q.2) (fun q => absurd q.1 (by omega))⟩) rfl rfl) (by omega)
                      · refine fz_aload_n kX10_free rfl rfl ?_
                        refine fz_iload kX10_free rfl rfl ?_
                        refine fz_iload_n kX10_free rfl rfl ?_
                        refine fz_callV (d' := 4) (M' := mX10_arrestsSomewhere) (As := [fz_i x23, fz_i hr]) (st := []) kX10_free rfl rfl vX10_arrestsSomewhere rfl rfl rfl rfl (Nat.le_of_ble_eq_true rfl) (Nat.le_of_ble_eq_true rfl) (by decide) (sX10_arrestsSomewhere H25 hI26 x23 hr (by omega)) (fun H55 r56 q57 o58 => ?_)
                        obtain ⟨hI59, hf60, y62, rfl, p63, f61⟩ := q57
                        clear o58
                        have hf64 := fz_fr_tr hf27 hf60 (show fz_su [(18, 99999), (19, 99999)] [(18, 99999), (19, 99999)] = true from rfl)
                        have k65 : (y62 = 1 ∧ fl_asC h hr (((x23).toNat : Nat) : Int)) ∨ (y62 = 0 ∧ ¬ fl_asC h hr (((x23).toNat : Nat) : Int)) := by rw [show (((x23).toNat : Nat) : Int) = x23 by omega, ← fl_asC_fr hf27 rfl]; exact f61
                        refine fz_if_eq (tgt := 92) kX10_free rfl (by decide) (fun c67 => ?_) (fun c67 => ?_)
                        · refine fz_iincN (ls' := [(5, fz_i (x23 + 1)), (4, fz_i x24), (0, fz_r 0), (1, fz_i on), (2, fz_i hr), (3, fz_i wh)]) kX10_free rfl (by decide) rfl (by omega) rfl ?_
                          refine fz_goto (tgt := 33) kX10_free rfl (by decide) ?_
                          exact ih30 (x23 + 1) x24 H55 hI59 hf64 (by omega) (by omega) (by omega) (by first | exact fl_cb_0 hv35 (by omega) (fl_g1_n (fun q => absurd q.1 (by omega))) rfl rfl | exact fl_cb_0 hv35 (by omega) (fl_g1_n (fun q => absurd q.2.1 (by omega))) rfl rfl | exact fl_cb_0 hv35 (by omega) (fl_g1_n (fun q => k65.elim (fun z => absurd z.1 (by omega)) (fun z => z.2 q.2.2))) rfl rfl | exact fl_cb_1 hv35 ⟨by omega, by omega⟩ (fl_g1_y ⟨by omega, by omega, k65.elim (fun q => q.2) (fun q => absurd q.1 (by omega))⟩) rfl rfl) (by omega)
                        · refine fz_iload kX10_free rfl rfl ?_
                          refine fz_iconst ⟨by decide, by decide⟩ kX10_free rfl ?_
                          refine fz_iload kX10_free rfl rfl ?_
                          refine fz_ishl kX10_free rfl ?_
                          have b69 : -2147483648 ≤ (fz_shl 1 x23) ∧ (fz_shl 1 x23) < 2147483648 := fz_b32 _
                          have b70 : 0 ≤ (fz_shl 1 x23) ∧ (fz_shl 1 x23) ≤ 2047 := fz_shl_m (by omega)
                          refine fz_ior kX10_free rfl ?_
                          have b71 : -2147483648 ≤ (fz_or x24 (fz_shl 1 x23)) ∧ (fz_or x24 (fz_shl 1 x23)) < 2147483648 := fz_b32 _
                          have b72 : 0 ≤ (fz_or x24 (fz_shl 1 x23)) ∧ (fz_or x24 (fz_shl 1 x23)) ≤ 2047 := fz_or_m (by omega) (by omega)
                          refine fz_istore (ls' := [(4, fz_i (fz_or x24 (fz_shl 1 x23))), (5, fz_i x23), (0, fz_r 0), (1, fz_i on), (2, fz_i hr), (3, fz_i wh)]) kX10_free rfl (by decide) rfl ?_
                          refine fz_iincN (ls' := [(5, fz_i (x23 + 1)), (4, fz_i (fz_or x24 (fz_shl 1 x23))), (0, fz_r 0), (1, fz_i on), (2, fz_i hr), (3, fz_i wh)]) kX10_free rfl (by decide) rfl (by omega) rfl ?_
                          refine fz_goto (tgt := 33) kX10_free rfl (by decide) ?_
                          exact ih30 (x23 + 1) (fz_or x24 (fz_shl 1 x23)) H55 hI59 hf64 (by omega) (by omega) (by omega) (by first | exact fl_cb_0 hv35 (by omega) (fl_g1_n (fun q => absurd q.1 (by omega))) rfl rfl | exact fl_cb_0 hv35 (by omega) (fl_g1_n (fun q => absurd q.2.1 (by omega))) rfl rfl | exact fl_cb_0 hv35 (by omega) (fl_g1_n (fun q => k65.elim (fun z => absurd z.1 (by omega)) (fun z => z.2 q.2.2))) rfl rfl | exact fl_cb_1 hv35 ⟨by omega, by omega⟩ (fl_g1_y ⟨by omega, by omega, k65.elim (fun q => q.2) (fun q => absurd q.1 (by omega))⟩) rfl rfl) (by omega)
              exact lp29 _ 0 0 h hI hf (by omega) (by omega) (by omega) (fz_cb_z rfl) (Nat.lt_succ_self _)
            · refine fz_iconst ⟨by decide, by decide⟩ kX10_free rfl ?_
              exact fz_iret kX10_free rfl rfl (fun _ => ⟨hI, hf, _, rfl, (by omega), (by first | exact Or.inl ⟨(by unfold fl_oFr; omega), ⟨{l4}, ⟨⟨by omega, by omega⟩, fz_cb_e lost (by omega)⟩, fl_frx_1 (by omega) rfl⟩⟩ | exact Or.inl ⟨(by unfold fl_oFr; omega), ⟨{l4}, ⟨⟨by omega, by omega⟩, fz_cb_e lost (by omega)⟩, fl_frx_0 (by omega) rfl lost⟩⟩ | exact Or.inr ⟨(by unfold fl_oFr; omega), rfl⟩)⟩)
      · refine fz_if_eq (tgt := 25) kX10_free rfl (by decide) (fun c76 => ?_) (fun c76 => ?_)
        · refine fz_iconst ⟨by decide, by decide⟩ kX10_free rfl ?_
          exact fz_iret kX10_free rfl rfl (fun _ => ⟨hI, hf, _, rfl, (by omega), (by first | exact Or.inl ⟨(by unfold fl_oFr; omega), ⟨{l4}, ⟨⟨by omega, by omega⟩, fz_cb_e lost (by omega)⟩, fl_frx_1 (by omega) rfl⟩⟩ | exact Or.inl ⟨(by unfold fl_oFr; omega), ⟨{l4}, ⟨⟨by omega, by omega⟩, fz_cb_e lost (by omega)⟩, fl_frx_0 (by omega) rfl lost⟩⟩ | exact Or.inr ⟨(by unfold fl_oFr; omega), rfl⟩)⟩)
        · exfalso; omega
  · refine fz_if_eq (tgt := 25) kX10_free rfl (by decide) (fun c78 => ?_) (fun c78 => ?_)
    · refine fz_iconst ⟨by decide, by decide⟩ kX10_free rfl ?_
      exact fz_iret kX10_free rfl rfl (fun _ => ⟨hI, hf, _, rfl, (by omega), (by first | exact Or.inl ⟨(by unfold fl_oFr; omega), ⟨{l4}, ⟨⟨by omega, by omega⟩, fz_cb_e lost (by omega)⟩, fl_frx_1 (by omega) rfl⟩⟩ | exact Or.inl ⟨(by unfold fl_oFr; omega), ⟨{l4}, ⟨⟨by omega, by omega⟩, fz_cb_e lost (by omega)⟩, fl_frx_0 (by omega) rfl lost⟩⟩ | exact Or.inr ⟨(by unfold fl_oFr; omega), rfl⟩)⟩)
    · exfalso; omega

abbrev qX10_mixed (h : fz_H) (on ot t hr : Int) : fz_H → Option fz_V → Prop := fun h' r0 => fz_Iv h' ∧ fz_fr [(18, 99999), (19, 99999), (29, 99999)] h h' ∧ ∃ r : Int, r0 = some (fz_i r) ∧ ((-2147483648) ≤ r ∧ r ≤ 2147483647) ∧ (r = fz_w (fl_rmC h on ot t hr - fl_rmC h on on t hr))
set_option maxHeartbeats 1000000 in
set_option maxRecDepth 100000 in
theorem sX10_mixed (h : fz_H) (hI : fz_Iv h) (on ot t hr : Int) (hp0 : 0 ≤ t ∧ t < 8) : fz_R 5 mX10_mixed 0 [(0, fz_r 0), (1, fz_i on), (2, fz_i ot), (3, fz_i t), (4, fz_i hr)] [] h (qX10_mixed h on ot t hr) := by
  refine fz_knowl (fun hk => ?_)
  have hr_on : -2147483648 ≤ on ∧ on < 2147483648 := hk _ (List.Mem.tail _ (List.Mem.head _))
  have hr_ot : -2147483648 ≤ ot ∧ ot < 2147483648 := hk _ (List.Mem.tail _ (List.Mem.tail _ (List.Mem.head _)))
  have hr_t : -2147483648 ≤ t ∧ t < 2147483648 := hk _ (List.Mem.tail _ (List.Mem.tail _ (List.Mem.tail _ (List.Mem.head _))))
  have hr_hr : -2147483648 ≤ hr ∧ hr < 2147483648 := hk _ (List.Mem.tail _ (List.Mem.tail _ (List.Mem.tail _ (List.Mem.tail _ (List.Mem.head _)))))
  clear hk
  have hf : fz_fr [(18, 99999), (19, 99999), (29, 99999)] h h := fz_fr_rf
  refine fz_aload_n kX10_mixed rfl rfl ?_
  refine fz_getR (t := 27) kX10_mixed rfl rfl ?_
  refine fz_iload_n kX10_mixed rfl rfl ?_
  refine fz_iload_n kX10_mixed rfl rfl ?_
  refine fz_iload_n kX10_mixed rfl rfl ?_
  refine fz_iload kX10_mixed rfl rfl ?_
  refine fz_callV (d' := 4) (M' := mX8_listen) (As := [fz_i on, fz_i ot, fz_i t, fz_i hr]) (st := []) kX10_mixed rfl rfl vX8_listen rfl rfl rfl rfl (Nat.le_of_ble_eq_true rfl) (Nat.le_of_ble_eq_true rfl) (by decide) (sX8_listen h hI on ot t hr (by omega)) (fun H1 r2 q3 o4 => ?_)
  obtain ⟨hI5, hf6, rfl, f7⟩ := q3
  clear o4
  have hf8 := fz_fr_tr hf hf6 (show fz_su [(18, 99999), (19, 99999), (29, 99999)] [(18, 99999), (19, 99999), (29, 99999)] = true from rfl)
  refine fz_aload_n kX10_mixed rfl rfl ?_
  refine fz_getR (t := 27) kX10_mixed rfl rfl ?_
  refine fz_callV (d' := 0) (M' := mX8_reception) (As := []) (st := []) kX10_mixed rfl rfl vX8_reception rfl rfl rfl rfl (Nat.le_of_ble_eq_true rfl) (Nat.le_of_ble_eq_true rfl) (by decide) (sX8_reception H1 hI5  ) (fun H9 r10 q11 o12 => ?_)
  obtain ⟨e13, y16, rfl, f14, f15⟩ := q11
  subst H9
  clear o12
  have k17 : y16 = fl_rmC h on ot t hr := fl_rmC_in rfl f7 (funext fun s => hf8 28 s rfl) f15
  refine fz_istore (ls' := [(5, fz_i y16), (0, fz_r 0), (1, fz_i on), (2, fz_i ot), (3, fz_i t), (4, fz_i hr)]) kX10_mixed rfl (by decide) rfl ?_
  refine fz_aload_n kX10_mixed rfl rfl ?_
  refine fz_getR (t := 27) kX10_mixed rfl rfl ?_
  refine fz_iload_n kX10_mixed rfl rfl ?_
  refine fz_iload_n kX10_mixed rfl rfl ?_
  refine fz_iload_n kX10_mixed rfl rfl ?_
  refine fz_iload kX10_mixed rfl rfl ?_
  refine fz_callV (d' := 4) (M' := mX8_listen) (As := [fz_i on, fz_i on, fz_i t, fz_i hr]) (st := []) kX10_mixed rfl rfl vX8_listen rfl rfl rfl rfl (Nat.le_of_ble_eq_true rfl) (Nat.le_of_ble_eq_true rfl) (by decide) (sX8_listen H1 hI5 on on t hr (by omega)) (fun H19 r20 q21 o22 => ?_)
  obtain ⟨hI23, hf24, rfl, f25⟩ := q21
  clear o22
  have hf26 := fz_fr_tr hf8 hf24 (show fz_su [(18, 99999), (19, 99999), (29, 99999)] [(18, 99999), (19, 99999), (29, 99999)] = true from rfl)
  refine fz_iload kX10_mixed rfl rfl ?_
  refine fz_aload_n kX10_mixed rfl rfl ?_
  refine fz_getR (t := 27) kX10_mixed rfl rfl ?_
  refine fz_callV (d' := 0) (M' := mX8_reception) (As := []) (st := [fz_i y16]) kX10_mixed rfl rfl vX8_reception rfl rfl rfl rfl (Nat.le_of_ble_eq_true rfl) (Nat.le_of_ble_eq_true rfl) (by decide) (sX8_reception H19 hI23  ) (fun H27 r28 q29 o30 => ?_)
  obtain ⟨e31, y34, rfl, f32, f33⟩ := q29
  subst H27
  clear o30
  have k35 : y34 = fl_rmC h on on t hr := fl_rmC_in (fl_SC_fr hf8 rfl) f25 (funext fun s => hf26 28 s rfl) f33
  refine fz_isub kX10_mixed rfl ?_
  have b37 := fz_w_b (y16 - y34)
  exact fz_iret kX10_mixed rfl rfl (fun _ => ⟨hI23, hf26, _, rfl, (by omega), (by rw [k17, k35])⟩)

abbrev qX10_alike (h : fz_H) (pq th wh : Int) : fz_H → Option fz_V → Prop := fun h' r0 => fz_Iv h' ∧ fz_fr [(18, 99999), (19, 99999), (29, 99999), (30, 99999)] h h' ∧ ∃ r : Int, r0 = some (fz_i r) ∧ ((-2147483648) ≤ r ∧ r ≤ 2147483647) ∧ (fl_akCC h pq th wh r)
set_option maxHeartbeats 1000000 in
set_option maxRecDepth 100000 in
theorem sX10_alike (h : fz_H) (hI : fz_Iv h) (pq th wh : Int) : fz_R 6 mX10_alike 0 [(0, fz_r 0), (1, fz_i pq), (2, fz_i th), (3, fz_i wh)] [] h (qX10_alike h pq th wh) := by
  refine fz_knowl (fun hk => ?_)
  have hr_pq : -2147483648 ≤ pq ∧ pq < 2147483648 := hk _ (List.Mem.tail _ (List.Mem.head _))
  have hr_th : -2147483648 ≤ th ∧ th < 2147483648 := hk _ (List.Mem.tail _ (List.Mem.tail _ (List.Mem.head _)))
  have hr_wh : -2147483648 ≤ wh ∧ wh < 2147483648 := hk _ (List.Mem.tail _ (List.Mem.tail _ (List.Mem.tail _ (List.Mem.head _))))
  clear hk
  have hf : fz_fr [(18, 99999), (19, 99999), (29, 99999), (30, 99999)] h h := fz_fr_rf
  have k1 : 0 ≤ h 1 7 ∧ h 1 7 ≤ 8 := hI.1 1 _
  refine fz_iload_n kX10_alike rfl rfl ?_
  refine fz_bipush ⟨by decide, by decide⟩ kX10_alike rfl ?_
  refine fz_idivT kX10_alike rfl (by decide) (by omega) (fun z2 r3 e4 e5 e6 e7 e8 e9 e10 => ?_)
  refine fz_istore (ls' := [(4, fz_i z2), (0, fz_r 0), (1, fz_i pq), (2, fz_i th), (3, fz_i wh)]) kX10_alike rfl (by decide) rfl ?_
  refine fz_iload_n kX10_alike rfl rfl ?_
  refine fz_bipush ⟨by decide, by decide⟩ kX10_alike rfl ?_
  refine fz_iremT kX10_alike rfl (by decide) (by decide) (fun z11 r12 e13 e14 e15 e16 e17 e18 => ?_)
  refine fz_istore (ls' := [(5, fz_i z11), (4, fz_i z2), (0, fz_r 0), (1, fz_i pq), (2, fz_i th), (3, fz_i wh)]) kX10_alike rfl (by decide) rfl ?_
  have k20 : pq < 0 ∨ (z2 = pq / 10 ∧ z11 = pq % 10) := by omega
  refine fz_aload_n kX10_alike rfl rfl ?_
  refine fz_iload kX10_alike rfl rfl ?_
  refine fz_callV (d' := 0) (M' := mX10_isOne) (As := [fz_i z2]) (st := []) kX10_alike rfl rfl vX10_isOne rfl rfl rfl rfl (Nat.le_of_ble_eq_true rfl) (Nat.le_of_ble_eq_true rfl) (by decide) (sX10_isOne h hI z2 ) (fun H21 r22 q23 o24 => ?_)
  obtain ⟨e25, y26, rfl, p27⟩ := q23
  subst H21
  clear o24
  rcases p27 with ⟨rfl, c28⟩ | ⟨rfl, c28⟩
  · refine fz_if_eq (tgt := 54) kX10_alike rfl (by decide) (fun c29 => ?_) (fun c29 => ?_)
    · exfalso; omega
    · refine fz_aload_n kX10_alike rfl rfl ?_
      refine fz_iload kX10_alike rfl rfl ?_
      refine fz_callV (d' := 0) (M' := mX10_isOne) (As := [fz_i z11]) (st := []) kX10_alike rfl rfl vX10_isOne rfl rfl rfl rfl (Nat.le_of_ble_eq_true rfl) (Nat.le_of_ble_eq_true rfl) (by decide) (sX10_isOne h hI z11 ) (fun H30 r31 q32 o33 => ?_)
      obtain ⟨e34, y35, rfl, p36⟩ := q32
      subst H30
      clear o33
      rcases p36 with ⟨rfl, c37⟩ | ⟨rfl, c37⟩
      · refine fz_if_eq (tgt := 54) kX10_alike rfl (by decide) (fun c38 => ?_) (fun c38 => ?_)
        · exfalso; omega
        · refine fz_iload kX10_alike rfl rfl ?_
          refine fz_iload kX10_alike rfl rfl ?_
          refine fz_icmp_eq (tgt := 54) kX10_alike rfl (by decide) (fun c39 => ?_) (fun c39 => ?_)
          · refine fz_ldc (x := (-2000000000)) kX10_alike rfl rfl rfl ?_
            exact fz_iret kX10_alike rfl rfl (fun _ => ⟨hI, hf, _, rfl, (by omega), (by first | exact Or.inl ⟨(by unfold fl_oK; omega), fl_akx_0 (by omega) lost⟩ | exact Or.inl ⟨(by unfold fl_oK; omega), fl_akx_2 (by omega) lost⟩ | exact Or.inl ⟨(by unfold fl_oK; omega), fl_akx_1 (by omega) (fl_at (f := fl_tb (fl_akC h pq (th % 1000))) lost (by omega))⟩ | exact Or.inr ⟨(by unfold fl_oK; omega), rfl⟩)⟩)
          · refine fz_aload_n kX10_alike rfl rfl ?_
            refine fz_iload_n kX10_alike rfl rfl ?_
            have b41 : 0 ≤ h 1 7 ∧ h 1 7 ≤ 8 := hI.1 1 _
            refine fz_callV (d' := 1) (M' := mX10_isTownAndHour) (As := [fz_i th]) (st := []) kX10_alike rfl rfl vX10_isTownAndHour rfl rfl rfl rfl (Nat.le_of_ble_eq_true rfl) (Nat.le_of_ble_eq_true rfl) (by decide) (sX10_isTownAndHour h hI th ) (fun H42 r43 q44 o45 => ?_)
            obtain ⟨e46, y47, rfl, p48⟩ := q44
            subst H42
            clear o45
            rcases p48 with ⟨rfl, c49⟩ | ⟨rfl, c49⟩
            · refine fz_if_eq (tgt := 54) kX10_alike rfl (by decide) (fun c50 => ?_) (fun c50 => ?_)
              · exfalso; omega
              · refine fz_iload_n kX10_alike rfl rfl ?_
                refine fz_if_lt (tgt := 54) kX10_alike rfl (by decide) (fun c51 => ?_) (fun c51 => ?_)
                · refine fz_ldc (x := (-2000000000)) kX10_alike rfl rfl rfl ?_
                  exact fz_iret kX10_alike rfl rfl (fun _ => ⟨hI, hf, _, rfl, (by omega), (by first | exact Or.inl ⟨(by unfold fl_oK; omega), fl_akx_0 (by omega) lost⟩ | exact Or.inl ⟨(by unfold fl_oK; omega), fl_akx_2 (by omega) lost⟩ | exact Or.inl ⟨(by unfold fl_oK; omega), fl_akx_1 (by omega) (fl_at (f := fl_tb (fl_akC h pq (th % 1000))) lost (by omega))⟩ | exact Or.inr ⟨(by unfold fl_oK; omega), rfl⟩)⟩)
                · refine fz_iload_n kX10_alike rfl rfl ?_
                  refine fz_iconst ⟨by decide, by decide⟩ kX10_alike rfl ?_
                  refine fz_icmp_le (tgt := 57) kX10_alike rfl (by decide) (fun c53 => ?_) (fun c53 => ?_)
                  · refine fz_iload_n kX10_alike rfl rfl ?_
                    refine fz_sipush ⟨by decide, by decide⟩ kX10_alike rfl ?_
                    refine fz_idivN kX10_alike rfl (by omega) (by omega) (by omega) ?_
                    refine fz_istore (ls' := [(6, fz_i (th / 1000)), (5, fz_i z11), (4, fz_i z2), (0, fz_r 0), (1, fz_i pq), (2, fz_i th), (3, fz_i wh)]) kX10_alike rfl (by decide) rfl ?_
                    refine fz_iload_n kX10_alike rfl rfl ?_
                    refine fz_sipush ⟨by decide, by decide⟩ kX10_alike rfl ?_
                    refine fz_iremN kX10_alike rfl (by omega) (by omega) (by omega) ?_
                    refine fz_istore (ls' := [(7, fz_i (th % 1000)), (6, fz_i (th / 1000)), (5, fz_i z11), (4, fz_i z2), (0, fz_r 0), (1, fz_i pq), (2, fz_i th), (3, fz_i wh)]) kX10_alike rfl (by decide) rfl ?_
                    refine fz_iload_n kX10_alike rfl rfl ?_
                    refine fz_if_ne (tgt := 91) kX10_alike rfl (by decide) (fun c54 => ?_) (fun c54 => ?_)
                    · refine fz_iload_n kX10_alike rfl rfl ?_
                      refine fz_iconst ⟨by decide, by decide⟩ kX10_alike rfl ?_
                      refine fz_icmp_ne (tgt := 109) kX10_alike rfl (by decide) (fun c55 => ?_) (fun c55 => ?_)
                      · refine fz_iconst ⟨by decide, by decide⟩ kX10_alike rfl ?_
                        refine fz_istore (ls' := [(8, fz_i 0), (7, fz_i (th % 1000)), (6, fz_i (th / 1000)), (5, fz_i z11), (4, fz_i z2), (0, fz_r 0), (1, fz_i pq), (2, fz_i th), (3, fz_i wh)]) kX10_alike rfl (by decide) rfl ?_
                        refine fz_iconst ⟨by decide, by decide⟩ kX10_alike rfl ?_
                        refine fz_istore (ls' := [(9, fz_i 0), (8, fz_i 0), (7, fz_i (th % 1000)), (6, fz_i (th / 1000)), (5, fz_i z11), (4, fz_i z2), (0, fz_r 0), (1, fz_i pq), (2, fz_i th), (3, fz_i wh)]) kX10_alike rfl (by decide) rfl ?_
                        have lp62 : ∀ (n61 : Nat) (x56 : Int) (x57 : Int) (H58 : fz_H), fz_Iv H58 → fz_fr [(18, 99999), (19, 99999), (29, 99999), (30, 99999)] h H58 → (0 ≤ x56 ∧ x56 ≤ 2147483647) → ((-2147483648) ≤ x57 ∧ x57 ≤ 2147483647) → (x56 ≤ h 1 7) → (x57 = fl_tb (fl_akC h pq (th % 1000)) (x56).toNat) → ((h 1 7) - x56).toNat < n61 → fz_R 6 mX10_alike 115 [(9, fz_i x56), (8, fz_i x57), (7, fz_i (th % 1000)), (6, fz_i (th / 1000)), (5, fz_i z11), (4, fz_i z2), (0, fz_r 0), (1, fz_i pq), (2, fz_i th), (3, fz_i wh)] [] H58 (qX10_alike h pq th wh) := by
                          intro n61
                          induction n61 with
                          | zero => intro x56 x57 H58 hI59 hf60 hv65 hv66 hv67 hv68 hm64; exact absurd hm64 (by omega)
                          | succ n61 ih63 =>
                            intro x56 x57 H58 hI59 hf60 hv65 hv66 hv67 hv68 hm64
                            refine fz_iload kX10_alike rfl rfl ?_
                            refine fz_aload_n kX10_alike rfl rfl ?_
                            refine fz_getR (t := 1) kX10_alike rfl rfl ?_
                            refine fz_getV (v := h 1 7) kX10_alike rfl rfl (hf60 1 7 rfl) ?_
                            have b69 : 0 ≤ h 1 7 ∧ h 1 7 ≤ 8 := hI.1 1 _
                            refine fz_icmp_ge (tgt := 161) kX10_alike rfl (by decide) (fun c70 => ?_) (fun c70 => ?_)
                            · refine fz_iload kX10_alike rfl rfl ?_
                              exact fz_iret kX10_alike rfl rfl (fun _ => ⟨hI59, hf60, _, rfl, (by omega), (by first | exact Or.inl ⟨(by unfold fl_oK; omega), fl_akx_0 (by omega) lost⟩ | exact Or.inl ⟨(by unfold fl_oK; omega), fl_akx_2 (by omega) lost⟩ | exact Or.inl ⟨(by unfold fl_oK; omega), fl_akx_1 (by omega) (fl_at (f := fl_tb (fl_akC h pq (th % 1000))) hv68 (by omega))⟩ | exact Or.inr ⟨(by unfold fl_oK; omega), rfl⟩)⟩)
                            · refine fz_aload_n kX10_alike rfl rfl ?_
                              refine fz_getR (t := 27) kX10_alike rfl rfl ?_
                              refine fz_iload kX10_alike rfl rfl ?_
                              refine fz_iload kX10_alike rfl rfl ?_
                              refine fz_iload kX10_alike rfl rfl ?_
                              refine fz_iload kX10_alike rfl rfl ?_
                              refine fz_callV (d' := 5) (M' := mX8_marksAlike) (As := [fz_i z2, fz_i z11, fz_i x56, fz_i (th % 1000)]) (st := []) kX10_alike rfl rfl vX8_marksAlike rfl rfl rfl rfl (Nat.le_of_ble_eq_true rfl) (Nat.le_of_ble_eq_true rfl) (by decide) (sX8_marksAlike H58 hI59 z2 z11 x56 (th % 1000) (by omega)) (fun H72 r73 q74 o75 => ?_)
                              obtain ⟨hI76, hf77, y80, rfl, f78, f79⟩ := q74
                              clear o75
                              have hf81 := fz_fr_tr hf60 hf77 (show fz_su [(18, 99999), (19, 99999), (29, 99999), (30, 99999)] [(18, 99999), (19, 99999), (29, 99999), (30, 99999)] = true from rfl)
                              have k82 : y80 = fl_alC h (pq / 10) (pq % 10) x56 (th % 1000) := by rw [← fl_alC_fr (fl_SC_fr hf60 rfl)]; rw [show pq / 10 = z2 by omega, show pq % 10 = z11 by omega]; exact f79
                              refine fz_iconst ⟨by decide, by decide⟩ kX10_alike rfl ?_
                              refine fz_icmp_ge (tgt := 155) kX10_alike rfl (by decide) (fun c84 => ?_) (fun c84 => ?_)
                              · refine fz_iincN (ls' := [(9, fz_i (x56 + 1)), (8, fz_i x57), (7, fz_i (th % 1000)), (6, fz_i (th / 1000)), (5, fz_i z11), (4, fz_i z2), (0, fz_r 0), (1, fz_i pq), (2, fz_i th), (3, fz_i wh)]) kX10_alike rfl (by decide) rfl (by omega) rfl ?_
                                refine fz_goto (tgt := 115) kX10_alike rfl (by decide) ?_
                                exact ih63 (x56 + 1) x57 H72 hI76 hf81 (by omega) (by omega) (by omega) (by first | exact fl_tb_1 hv68 (by omega) (fl_lt5_1 k82 (by omega)) | exact fl_tb_0 hv68 (by omega) (fl_lt5_0 k82 (by omega))) (by omega)
                              · refine fz_iload kX10_alike rfl rfl ?_
                                refine fz_iconst ⟨by decide, by decide⟩ kX10_alike rfl ?_
                                refine fz_iload kX10_alike rfl rfl ?_
                                refine fz_ishl kX10_alike rfl ?_
                                have b86 : -2147483648 ≤ (fz_shl 1 x56) ∧ (fz_shl 1 x56) < 2147483648 := fz_b32 _
                                refine fz_ior kX10_alike rfl ?_
                                have b87 : -2147483648 ≤ (fz_or x57 (fz_shl 1 x56)) ∧ (fz_or x57 (fz_shl 1 x56)) < 2147483648 := fz_b32 _
                                refine fz_istore (ls' := [(8, fz_i (fz_or x57 (fz_shl 1 x56))), (9, fz_i x56), (7, fz_i (th % 1000)), (6, fz_i (th / 1000)), (5, fz_i z11), (4, fz_i z2), (0, fz_r 0), (1, fz_i pq), (2, fz_i th), (3, fz_i wh)]) kX10_alike rfl (by decide) rfl ?_
                                refine fz_iincN (ls' := [(9, fz_i (x56 + 1)), (8, fz_i (fz_or x57 (fz_shl 1 x56))), (7, fz_i (th % 1000)), (6, fz_i (th / 1000)), (5, fz_i z11), (4, fz_i z2), (0, fz_r 0), (1, fz_i pq), (2, fz_i th), (3, fz_i wh)]) kX10_alike rfl (by decide) rfl (by omega) rfl ?_
                                refine fz_goto (tgt := 115) kX10_alike rfl (by decide) ?_
                                exact ih63 (x56 + 1) (fz_or x57 (fz_shl 1 x56)) H72 hI76 hf81 (by omega) (by omega) (by omega) (by first | exact fl_tb_1 hv68 (by omega) (fl_lt5_1 k82 (by omega)) | exact fl_tb_0 hv68 (by omega) (fl_lt5_0 k82 (by omega))) (by omega)
                        exact lp62 _ 0 0 h hI hf (by omega) (by omega) (by omega) (rfl) (Nat.lt_succ_self _)
                      · refine fz_aload_n kX10_alike rfl rfl ?_
                        refine fz_iload kX10_alike rfl rfl ?_
                        refine fz_iload kX10_alike rfl rfl ?_
                        refine fz_iload kX10_alike rfl rfl ?_
                        refine fz_iload kX10_alike rfl rfl ?_
                        refine fz_callV (d' := 5) (M' := mX10_mixed) (As := [fz_i z2, fz_i z11, fz_i (th / 1000), fz_i (th % 1000)]) (st := []) kX10_alike rfl rfl vX10_mixed rfl rfl rfl rfl (Nat.le_of_ble_eq_true rfl) (Nat.le_of_ble_eq_true rfl) (by decide) (sX10_mixed h hI z2 z11 (th / 1000) (th % 1000) (by omega)) (fun H90 r91 q92 o93 => ?_)
                        obtain ⟨hI94, hf95, y98, rfl, f96, f97⟩ := q92
                        clear o93
                        have hf99 := fz_fr_tr hf hf95 (show fz_su [(18, 99999), (19, 99999), (29, 99999)] [(18, 99999), (19, 99999), (29, 99999), (30, 99999)] = true from rfl)
                        have k100 : y98 = fz_w (fl_rmC h (pq / 10) (pq % 10) (th / 1000) (th % 1000) - fl_rmC h (pq / 10) (pq / 10) (th / 1000) (th % 1000)) := by rw [show pq / 10 = z2 by omega, show pq % 10 = z11 by omega]; exact f97
                        exact fz_iret kX10_alike rfl rfl (fun _ => ⟨hI94, hf99, _, rfl, (by omega), (by first | exact Or.inl ⟨(by unfold fl_oK; omega), fl_akx_0 (by omega) lost⟩ | exact Or.inl ⟨(by unfold fl_oK; omega), fl_akx_2 (by omega) k100⟩ | exact Or.inl ⟨(by unfold fl_oK; omega), fl_akx_1 (by omega) (fl_at (f := fl_tb (fl_akC h pq (th % 1000))) lost (by omega))⟩ | exact Or.inr ⟨(by unfold fl_oK; omega), rfl⟩)⟩)
                    · refine fz_aload_n kX10_alike rfl rfl ?_
                      refine fz_getR (t := 27) kX10_alike rfl rfl ?_
                      refine fz_iload kX10_alike rfl rfl ?_
                      refine fz_iload kX10_alike rfl rfl ?_
                      refine fz_iload kX10_alike rfl rfl ?_
                      refine fz_iload kX10_alike rfl rfl ?_
                      refine fz_callV (d' := 5) (M' := mX8_marksAlike) (As := [fz_i z2, fz_i z11, fz_i (th / 1000), fz_i (th % 1000)]) (st := []) kX10_alike rfl rfl vX8_marksAlike rfl rfl rfl rfl (Nat.le_of_ble_eq_true rfl) (Nat.le_of_ble_eq_true rfl) (by decide) (sX8_marksAlike h hI z2 z11 (th / 1000) (th % 1000) (by omega)) (fun H103 r104 q105 o106 => ?_)
                      obtain ⟨hI107, hf108, y111, rfl, f109, f110⟩ := q105
                      clear o106
                      have hf112 := fz_fr_tr hf hf108 (show fz_su [(18, 99999), (19, 99999), (29, 99999), (30, 99999)] [(18, 99999), (19, 99999), (29, 99999), (30, 99999)] = true from rfl)
                      have k113 : y111 = fl_alC h (pq / 10) (pq % 10) (th / 1000) (th % 1000) := by rw [show pq / 10 = z2 by omega, show pq % 10 = z11 by omega]; exact f110
                      exact fz_iret kX10_alike rfl rfl (fun _ => ⟨hI107, hf112, _, rfl, (by omega), (by first | exact Or.inl ⟨(by unfold fl_oK; omega), fl_akx_0 (by omega) k113⟩ | exact Or.inl ⟨(by unfold fl_oK; omega), fl_akx_2 (by omega) lost⟩ | exact Or.inl ⟨(by unfold fl_oK; omega), fl_akx_1 (by omega) (fl_at (f := fl_tb (fl_akC h pq (th % 1000))) lost (by omega))⟩ | exact Or.inr ⟨(by unfold fl_oK; omega), rfl⟩)⟩)
                  · refine fz_ldc (x := (-2000000000)) kX10_alike rfl rfl rfl ?_
                    exact fz_iret kX10_alike rfl rfl (fun _ => ⟨hI, hf, _, rfl, (by omega), (by first | exact Or.inl ⟨(by unfold fl_oK; omega), fl_akx_0 (by omega) lost⟩ | exact Or.inl ⟨(by unfold fl_oK; omega), fl_akx_2 (by omega) lost⟩ | exact Or.inl ⟨(by unfold fl_oK; omega), fl_akx_1 (by omega) (fl_at (f := fl_tb (fl_akC h pq (th % 1000))) lost (by omega))⟩ | exact Or.inr ⟨(by unfold fl_oK; omega), rfl⟩)⟩)
            · refine fz_if_eq (tgt := 54) kX10_alike rfl (by decide) (fun c117 => ?_) (fun c117 => ?_)
              · refine fz_ldc (x := (-2000000000)) kX10_alike rfl rfl rfl ?_
                exact fz_iret kX10_alike rfl rfl (fun _ => ⟨hI, hf, _, rfl, (by omega), (by first | exact Or.inl ⟨(by unfold fl_oK; omega), fl_akx_0 (by omega) lost⟩ | exact Or.inl ⟨(by unfold fl_oK; omega), fl_akx_2 (by omega) lost⟩ | exact Or.inl ⟨(by unfold fl_oK; omega), fl_akx_1 (by omega) (fl_at (f := fl_tb (fl_akC h pq (th % 1000))) lost (by omega))⟩ | exact Or.inr ⟨(by unfold fl_oK; omega), rfl⟩)⟩)
              · exfalso; omega
      · refine fz_if_eq (tgt := 54) kX10_alike rfl (by decide) (fun c119 => ?_) (fun c119 => ?_)
        · refine fz_ldc (x := (-2000000000)) kX10_alike rfl rfl rfl ?_
          exact fz_iret kX10_alike rfl rfl (fun _ => ⟨hI, hf, _, rfl, (by omega), (by first | exact Or.inl ⟨(by unfold fl_oK; omega), fl_akx_0 (by omega) lost⟩ | exact Or.inl ⟨(by unfold fl_oK; omega), fl_akx_2 (by omega) lost⟩ | exact Or.inl ⟨(by unfold fl_oK; omega), fl_akx_1 (by omega) (fl_at (f := fl_tb (fl_akC h pq (th % 1000))) lost (by omega))⟩ | exact Or.inr ⟨(by unfold fl_oK; omega), rfl⟩)⟩)
        · exfalso; omega
  · refine fz_if_eq (tgt := 54) kX10_alike rfl (by decide) (fun c121 => ?_) (fun c121 => ?_)
    · refine fz_ldc (x := (-2000000000)) kX10_alike rfl rfl rfl ?_
      exact fz_iret kX10_alike rfl rfl (fun _ => ⟨hI, hf, _, rfl, (by omega), (by first | exact Or.inl ⟨(by unfold fl_oK; omega), fl_akx_0 (by omega) lost⟩ | exact Or.inl ⟨(by unfold fl_oK; omega), fl_akx_2 (by omega) lost⟩ | exact Or.inl ⟨(by unfold fl_oK; omega), fl_akx_1 (by omega) (fl_at (f := fl_tb (fl_akC h pq (th % 1000))) lost (by omega))⟩ | exact Or.inr ⟨(by unfold fl_oK; omega), rfl⟩)⟩)
    · exfalso; omega

abbrev qX10_refusalOfSeen (h : fz_H) (s on th : Int) : fz_H → Option fz_V → Prop := fun h' r0 => h' = h ∧ ∃ r : Int, r0 = some (fz_i r) ∧ ((-12) ≤ r ∧ r ≤ 0) ∧ (0 ≤ r → (0 ≤ s ∧ s ≤ 5 ∧ 0 ≤ on ∧ on ≤ 3 ∧ 0 ≤ th ∧ th ≤ 7999 ∧ th / 1000 ≤ 7)) ∧ (fl_rfC h s on th r)
set_option maxHeartbeats 1000000 in
set_option maxRecDepth 100000 in
theorem sX10_refusalOfSeen (h : fz_H) (hI : fz_Iv h) (s on th : Int) : fz_R 2 mX10_refusalOfSeen 0 [(0, fz_r 0), (1, fz_i s), (2, fz_i on), (3, fz_i th)] [] h (qX10_refusalOfSeen h s on th) := by
  refine fz_knowl (fun hk => ?_)
  have hr_s : -2147483648 ≤ s ∧ s < 2147483648 := hk _ (List.Mem.tail _ (List.Mem.head _))
  have hr_on : -2147483648 ≤ on ∧ on < 2147483648 := hk _ (List.Mem.tail _ (List.Mem.tail _ (List.Mem.head _)))
  have hr_th : -2147483648 ≤ th ∧ th < 2147483648 := hk _ (List.Mem.tail _ (List.Mem.tail _ (List.Mem.tail _ (List.Mem.head _))))
  clear hk
  refine fz_aload_n kX10_refusalOfSeen rfl rfl ?_
  refine fz_getR (t := 47) kX10_refusalOfSeen rfl rfl ?_
  refine fz_iload_n kX10_refusalOfSeen rfl rfl ?_
  refine fz_callV (d' := 0) (M' := mX7_isShelf) (As := [fz_i s]) (st := []) kX10_refusalOfSeen rfl rfl vX7_isShelf rfl rfl rfl rfl (Nat.le_of_ble_eq_true rfl) (Nat.le_of_ble_eq_true rfl) (by decide) (sX7_isShelf h hI s ) (fun H1 r2 q3 o4 => ?_)
  obtain ⟨e5, y6, rfl, p7⟩ := q3
  subst H1
  clear o4
  rcases p7 with ⟨rfl, c8⟩ | ⟨rfl, c8⟩
  · refine fz_if_eq (tgt := 27) kX10_refusalOfSeen rfl (by decide) (fun c9 => ?_) (fun c9 => ?_)
    · exfalso; omega
    · refine fz_aload_n kX10_refusalOfSeen rfl rfl ?_
      refine fz_iload_n kX10_refusalOfSeen rfl rfl ?_
      refine fz_callV (d' := 0) (M' := mX10_isOne) (As := [fz_i on]) (st := []) kX10_refusalOfSeen rfl rfl vX10_isOne rfl rfl rfl rfl (Nat.le_of_ble_eq_true rfl) (Nat.le_of_ble_eq_true rfl) (by decide) (sX10_isOne h hI on ) (fun H10 r11 q12 o13 => ?_)
      obtain ⟨e14, y15, rfl, p16⟩ := q12
      subst H10
      clear o13
      rcases p16 with ⟨rfl, c17⟩ | ⟨rfl, c17⟩
      · refine fz_if_eq (tgt := 27) kX10_refusalOfSeen rfl (by decide) (fun c18 => ?_) (fun c18 => ?_)
        · exfalso; omega
        · refine fz_aload_n kX10_refusalOfSeen rfl rfl ?_
          refine fz_iload_n kX10_refusalOfSeen rfl rfl ?_
          have b19 : 0 ≤ h 1 7 ∧ h 1 7 ≤ 8 := hI.1 1 _
          refine fz_callV (d' := 1) (M' := mX10_isTownAndHour) (As := [fz_i th]) (st := []) kX10_refusalOfSeen rfl rfl vX10_isTownAndHour rfl rfl rfl rfl (Nat.le_of_ble_eq_true rfl) (Nat.le_of_ble_eq_true rfl) (by decide) (sX10_isTownAndHour h hI th ) (fun H20 r21 q22 o23 => ?_)
          obtain ⟨e24, y25, rfl, p26⟩ := q22
          subst H20
          clear o23
          rcases p26 with ⟨rfl, c27⟩ | ⟨rfl, c27⟩
          · refine fz_if_ne (tgt := 29) kX10_refusalOfSeen rfl (by decide) (fun c28 => ?_) (fun c28 => ?_)
            · refine fz_aload_n kX10_refusalOfSeen rfl rfl ?_
              refine fz_getR (t := 47) kX10_refusalOfSeen rfl rfl ?_
              refine fz_iload_n kX10_refusalOfSeen rfl rfl ?_
              refine fz_callV (d' := 0) (M' := mX7_isEmpty) (As := [fz_i s]) (st := []) kX10_refusalOfSeen rfl rfl vX7_isEmpty rfl rfl rfl rfl (Nat.le_of_ble_eq_true rfl) (Nat.le_of_ble_eq_true rfl) (by decide) (sX7_isEmpty h hI s (by omega)) (fun H29 r30 q31 o32 => ?_)
              obtain ⟨e33, y34, rfl, p35⟩ := q31
              subst H29
              clear o32
              rcases p35 with ⟨rfl, c36⟩ | ⟨rfl, c36⟩
              · refine fz_if_eq (tgt := 43) kX10_refusalOfSeen rfl (by decide) (fun c37 => ?_) (fun c37 => ?_)
                · exfalso; omega
                · refine fz_bipush ⟨by decide, by decide⟩ kX10_refusalOfSeen rfl ?_
                  exact fz_iret kX10_refusalOfSeen rfl rfl (fun _ => ⟨rfl, _, rfl, (by omega), (by omega), (by first | exact Or.inl ⟨(by unfold fl_oJ; omega), rfl⟩ | exact Or.inr (Or.inl ⟨(by unfold fl_oJ; omega), by omega, rfl⟩) | exact Or.inr (Or.inr (Or.inl ⟨(by unfold fl_oJ; omega), by omega, by omega, rfl⟩)) | exact Or.inr (Or.inr (Or.inr ⟨(by unfold fl_oJ; omega), by omega, by omega, rfl⟩)))⟩)
              · refine fz_if_eq (tgt := 43) kX10_refusalOfSeen rfl (by decide) (fun c39 => ?_) (fun c39 => ?_)
                · refine fz_aload_n kX10_refusalOfSeen rfl rfl ?_
                  refine fz_getR (t := 47) kX10_refusalOfSeen rfl rfl ?_
                  refine fz_iload_n kX10_refusalOfSeen rfl rfl ?_
                  refine fz_iconst ⟨by decide, by decide⟩ kX10_refusalOfSeen rfl ?_
                  refine fz_callV (d' := 1) (M' := mX7_holdsRow) (As := [fz_i s, fz_i 0]) (st := []) kX10_refusalOfSeen rfl rfl vX7_holdsRow rfl rfl rfl rfl (Nat.le_of_ble_eq_true rfl) (Nat.le_of_ble_eq_true rfl) (by decide) (sX7_holdsRow h hI s 0 (by omega)) (fun H40 r41 q42 o43 => ?_)
                  obtain ⟨e44, y45, rfl, p46⟩ := q42
                  subst H40
                  clear o43
                  rcases p46 with ⟨rfl, c47⟩ | ⟨rfl, c47⟩
                  · refine fz_if_eq (tgt := 59) kX10_refusalOfSeen rfl (by decide) (fun c48 => ?_) (fun c48 => ?_)
                    · exfalso; omega
                    · refine fz_iconst ⟨by decide, by decide⟩ kX10_refusalOfSeen rfl ?_
                      refine fz_goto (tgt := 61) kX10_refusalOfSeen rfl (by decide) ?_
                      exact fz_iret kX10_refusalOfSeen rfl rfl (fun _ => ⟨rfl, _, rfl, (by omega), (by omega), (by first | exact Or.inl ⟨(by unfold fl_oJ; omega), rfl⟩ | exact Or.inr (Or.inl ⟨(by unfold fl_oJ; omega), by omega, rfl⟩) | exact Or.inr (Or.inr (Or.inl ⟨(by unfold fl_oJ; omega), by omega, by omega, rfl⟩)) | exact Or.inr (Or.inr (Or.inr ⟨(by unfold fl_oJ; omega), by omega, by omega, rfl⟩)))⟩)
                  · refine fz_if_eq (tgt := 59) kX10_refusalOfSeen rfl (by decide) (fun c50 => ?_) (fun c50 => ?_)
                    · refine fz_bipush ⟨by decide, by decide⟩ kX10_refusalOfSeen rfl ?_
                      exact fz_iret kX10_refusalOfSeen rfl rfl (fun _ => ⟨rfl, _, rfl, (by omega), (by omega), (by first | exact Or.inl ⟨(by unfold fl_oJ; omega), rfl⟩ | exact Or.inr (Or.inl ⟨(by unfold fl_oJ; omega), by omega, rfl⟩) | exact Or.inr (Or.inr (Or.inl ⟨(by unfold fl_oJ; omega), by omega, by omega, rfl⟩)) | exact Or.inr (Or.inr (Or.inr ⟨(by unfold fl_oJ; omega), by omega, by omega, rfl⟩)))⟩)
                    · exfalso; omega
                · exfalso; omega
            · exfalso; omega
          · refine fz_if_ne (tgt := 29) kX10_refusalOfSeen rfl (by decide) (fun c52 => ?_) (fun c52 => ?_)
            · exfalso; omega
            · refine fz_iconst ⟨by decide, by decide⟩ kX10_refusalOfSeen rfl ?_
              exact fz_iret kX10_refusalOfSeen rfl rfl (fun _ => ⟨rfl, _, rfl, (by omega), (by omega), (by first | exact Or.inl ⟨(by unfold fl_oJ; omega), rfl⟩ | exact Or.inr (Or.inl ⟨(by unfold fl_oJ; omega), by omega, rfl⟩) | exact Or.inr (Or.inr (Or.inl ⟨(by unfold fl_oJ; omega), by omega, by omega, rfl⟩)) | exact Or.inr (Or.inr (Or.inr ⟨(by unfold fl_oJ; omega), by omega, by omega, rfl⟩)))⟩)
      · refine fz_if_eq (tgt := 27) kX10_refusalOfSeen rfl (by decide) (fun c54 => ?_) (fun c54 => ?_)
        · refine fz_iconst ⟨by decide, by decide⟩ kX10_refusalOfSeen rfl ?_
          exact fz_iret kX10_refusalOfSeen rfl rfl (fun _ => ⟨rfl, _, rfl, (by omega), (by omega), (by first | exact Or.inl ⟨(by unfold fl_oJ; omega), rfl⟩ | exact Or.inr (Or.inl ⟨(by unfold fl_oJ; omega), by omega, rfl⟩) | exact Or.inr (Or.inr (Or.inl ⟨(by unfold fl_oJ; omega), by omega, by omega, rfl⟩)) | exact Or.inr (Or.inr (Or.inr ⟨(by unfold fl_oJ; omega), by omega, by omega, rfl⟩)))⟩)
        · exfalso; omega
  · refine fz_if_eq (tgt := 27) kX10_refusalOfSeen rfl (by decide) (fun c56 => ?_) (fun c56 => ?_)
    · refine fz_iconst ⟨by decide, by decide⟩ kX10_refusalOfSeen rfl ?_
      exact fz_iret kX10_refusalOfSeen rfl rfl (fun _ => ⟨rfl, _, rfl, (by omega), (by omega), (by first | exact Or.inl ⟨(by unfold fl_oJ; omega), rfl⟩ | exact Or.inr (Or.inl ⟨(by unfold fl_oJ; omega), by omega, rfl⟩) | exact Or.inr (Or.inr (Or.inl ⟨(by unfold fl_oJ; omega), by omega, by omega, rfl⟩)) | exact Or.inr (Or.inr (Or.inr ⟨(by unfold fl_oJ; omega), by omega, by omega, rfl⟩)))⟩)
    · exfalso; omega

abbrev qX10_firstUnlike (h : fz_H) (s : Int) : fz_H → Option fz_V → Prop := fun h' r0 => h' = h ∧ ∃ r : Int, r0 = some (fz_i r) ∧ ((-2) ≤ r ∧ r ≤ 4) ∧ (fl_jf (fl_gjC h s) (fun k => h 29 k.toNat) (h 51 s.toNat) r)
set_option maxHeartbeats 1000000 in
set_option maxRecDepth 100000 in
theorem sX10_firstUnlike (h : fz_H) (hI : fz_Iv h) (s : Int) (hp0 : 0 ≤ s ∧ s < 6) (hp1 : h 48 s.toNat = 2) : fz_R 2 mX10_firstUnlike 0 [(0, fz_r 0), (1, fz_i s)] [] h (qX10_firstUnlike h s) := by
  refine fz_knowl (fun hk => ?_)
  have hr_s : -2147483648 ≤ s ∧ s < 2147483648 := hk _ (List.Mem.tail _ (List.Mem.head _))
  clear hk
  refine fz_iconst ⟨by decide, by decide⟩ kX10_firstUnlike rfl ?_
  refine fz_istore_n (ls' := [(2, fz_i 0), (0, fz_r 0), (1, fz_i s)]) kX10_firstUnlike rfl (by decide) rfl ?_
  have lp3 : ∀ (n2 : Nat) (x1 : Int), (0 ≤ x1 ∧ x1 ≤ 2147483647) → (fl_jI (fl_gjC h s) (fun k => h 29 k.toNat) x1) → (5 - x1).toNat < n2 → fz_R 2 mX10_firstUnlike 2 [(2, fz_i x1), (0, fz_r 0), (1, fz_i s)] [] h (qX10_firstUnlike h s) := by
    intro n2
    induction n2 with
    | zero => intro x1 hv6 hv7 hm5; exact absurd hm5 (by omega)
    | succ n2 ih4 =>
      intro x1 hv6 hv7 hm5
      refine fz_iload_n kX10_firstUnlike rfl rfl ?_
      refine fz_iconst ⟨by decide, by decide⟩ kX10_firstUnlike rfl ?_
      refine fz_icmp_ge (tgt := 51) kX10_firstUnlike rfl (by decide) (fun c8 => ?_) (fun c8 => ?_)
      · refine fz_bipush ⟨by decide, by decide⟩ kX10_firstUnlike rfl ?_
        exact fz_iret kX10_firstUnlike rfl rfl (fun _ => ⟨rfl, _, rfl, (by omega), (by first | exact fl_jI_y hv7 lost lost (by omega) (by omega) | exact fl_jI_n hv7 (by omega) rfl)⟩)
      · refine fz_aload_n kX10_firstUnlike rfl rfl ?_
        refine fz_getR (t := 47) kX10_firstUnlike rfl rfl ?_
        refine fz_iload_n kX10_firstUnlike rfl rfl ?_
        refine fz_iload_n kX10_firstUnlike rfl rfl ?_
        refine fz_iconst ⟨by decide, by decide⟩ kX10_firstUnlike rfl ?_
        refine fz_callV (d' := 1) (M' := mX7_hasPlaces) (As := [fz_i s, fz_i x1, fz_i 1]) (st := []) kX10_firstUnlike rfl rfl vX7_hasPlaces rfl rfl rfl rfl (Nat.le_of_ble_eq_true rfl) (Nat.le_of_ble_eq_true rfl) (by decide) (sX7_hasPlaces h hI s x1 1 (by omega)) (fun H10 r11 q12 o13 => ?_)
        obtain ⟨e14, y15, rfl, p16⟩ := q12
        subst H10
        clear o13
        rcases p16 with ⟨rfl, c17⟩ | ⟨rfl, c17⟩
        · refine fz_if_eq (tgt := 51) kX10_firstUnlike rfl (by decide) (fun c18 => ?_) (fun c18 => ?_)
          · exfalso; omega
          · refine fz_aload_n kX10_firstUnlike rfl rfl ?_
            refine fz_getR (t := 47) kX10_firstUnlike rfl rfl ?_
            refine fz_iload_n kX10_firstUnlike rfl rfl ?_
            refine fz_iload_n kX10_firstUnlike rfl rfl ?_
            refine fz_callV (d' := 0) (M' := mX7_get) (As := [fz_i s, fz_i x1]) (st := []) kX10_firstUnlike rfl rfl vX7_get rfl rfl rfl rfl (Nat.le_of_ble_eq_true rfl) (Nat.le_of_ble_eq_true rfl) (by decide) (sX7_get h hI s x1 (by omega) (by omega)) (fun H19 r20 q21 o22 => ?_)
            obtain ⟨e23, y26, rfl, f24, f25⟩ := q21
            subst H19
            clear o22
            refine fz_aload_n kX10_firstUnlike rfl rfl ?_
            refine fz_getR (t := 27) kX10_firstUnlike rfl rfl ?_
            refine fz_getR (t := 29) kX10_firstUnlike rfl rfl ?_
            refine fz_iload_n kX10_firstUnlike rfl rfl ?_
            refine fz_ialdV (n := 5) (v := h 29 (x1.toNat)) kX10_firstUnlike rfl rfl (by omega) (by omega) rfl ?_
            have b27 : (-2147483648) ≤ h 29 (x1.toNat) ∧ h 29 (x1.toNat) ≤ 2147483647 := hI.1 29 _
            have k28 : (h 29 (x1.toNat)) = (fun k : Int => h 29 k.toNat) x1 := rfl
            refine fz_i2l kX10_firstUnlike rfl ?_
            refine fz_lcmp kX10_firstUnlike rfl ?_
            have b30 := fz_cmp_c y26 (h 29 (x1.toNat))
            refine fz_if_eq (tgt := 45) kX10_firstUnlike rfl (by decide) (fun c31 => ?_) (fun c31 => ?_)
            · refine fz_iincN (ls' := [(2, fz_i (x1 + 1)), (0, fz_r 0), (1, fz_i s)]) kX10_firstUnlike rfl (by decide) rfl (by omega) rfl ?_
              refine fz_goto (tgt := 2) kX10_firstUnlike rfl (by decide) ?_
              exact ih4 (x1 + 1) (by omega) (fl_jI_s hv7 f25 k28 (by omega)) (by omega)
            · refine fz_iload_n kX10_firstUnlike rfl rfl ?_
              exact fz_iret kX10_firstUnlike rfl rfl (fun _ => ⟨rfl, _, rfl, (by omega), (by first | exact fl_jI_y hv7 f25 k28 (by omega) (by omega) | exact fl_jI_n hv7 (by omega) rfl)⟩)
        · refine fz_if_eq (tgt := 51) kX10_firstUnlike rfl (by decide) (fun c34 => ?_) (fun c34 => ?_)
          · refine fz_bipush ⟨by decide, by decide⟩ kX10_firstUnlike rfl ?_
            exact fz_iret kX10_firstUnlike rfl rfl (fun _ => ⟨rfl, _, rfl, (by omega), (by first | exact fl_jI_y hv7 lost lost (by omega) (by omega) | exact fl_jI_n hv7 (by omega) rfl)⟩)
          · exfalso; omega
  exact lp3 _ 0 (by omega) (fl_jI_0 (by omega)) (Nat.lt_succ_self _)

abbrev qX10_isAsSeen (h : fz_H) (s se : Int) : fz_H → Option fz_V → Prop := fun h' r0 => fz_Iv h' ∧ fz_fr [(29, 99999)] h h' ∧ ∃ r : Int, r0 = some (fz_i r) ∧ (r = 0 ∨ r = 1) ∧ ((r = 1 ∧ fl_asS h s se) ∨ (r = 0 ∧ ¬ fl_asS h s se))
set_option maxHeartbeats 1000000 in
set_option maxRecDepth 100000 in
theorem sX10_isAsSeen (h : fz_H) (hI : fz_Iv h) (s se : Int) (hp0 : 0 ≤ s ∧ s < 6) (hp1 : h 48 s.toNat = 2) : fz_R 3 mX10_isAsSeen 0 [(0, fz_r 0), (1, fz_i s), (2, fz_i se)] [] h (qX10_isAsSeen h s se) := by
  refine fz_knowl (fun hk => ?_)
  have hr_s : -2147483648 ≤ s ∧ s < 2147483648 := hk _ (List.Mem.tail _ (List.Mem.head _))
  have hr_se : -2147483648 ≤ se ∧ se < 2147483648 := hk _ (List.Mem.tail _ (List.Mem.tail _ (List.Mem.head _)))
  clear hk
  have hf : fz_fr [(29, 99999)] h h := fz_fr_rf
  refine fz_aload_n kX10_isAsSeen rfl rfl ?_
  refine fz_getR (t := 27) kX10_isAsSeen rfl rfl ?_
  refine fz_iload_n kX10_isAsSeen rfl rfl ?_
  refine fz_callV (d' := 2) (M' := mX8_listenToSet) (As := [fz_i se]) (st := []) kX10_isAsSeen rfl rfl vX8_listenToSet rfl rfl rfl rfl (Nat.le_of_ble_eq_true rfl) (Nat.le_of_ble_eq_true rfl) (by decide) (sX8_listenToSet h hI se ) (fun H1 r2 q3 o4 => ?_)
  obtain ⟨hI5, hf6, rfl, f7⟩ := q3
  clear o4
  have hf8 := fz_fr_tr hf hf6 (show fz_su [(29, 99999)] [(29, 99999)] = true from rfl)
  refine fz_aload_n kX10_isAsSeen rfl rfl ?_
  refine fz_iload_n kX10_isAsSeen rfl rfl ?_
  have e9 : H1 48 s.toNat = h 48 s.toNat := hf8 48 _ rfl
  refine fz_callV (d' := 2) (M' := mX10_firstUnlike) (As := [fz_i s]) (st := []) kX10_isAsSeen rfl rfl vX10_firstUnlike rfl rfl rfl rfl (Nat.le_of_ble_eq_true rfl) (Nat.le_of_ble_eq_true rfl) (by decide) (sX10_firstUnlike H1 hI5 s (by omega) (by omega)) (fun H10 r11 q12 o13 => ?_)
  obtain ⟨e14, y17, rfl, f15, f16⟩ := q12
  subst H10
  clear o13
  refine fz_bipush ⟨by decide, by decide⟩ kX10_isAsSeen rfl ?_
  refine fz_icmp_ne (tgt := 22) kX10_isAsSeen rfl (by decide) (fun c18 => ?_) (fun c18 => ?_)
  · refine fz_iconst ⟨by decide, by decide⟩ kX10_isAsSeen rfl ?_
    exact fz_zret kX10_isAsSeen rfl rfl (by omega) ⟨hI5, hf8, _, rfl, (by omega), (by exact fl_asS_in f7 (funext fun z => hf6 52 z rfl) (funext fun z => hf6 51 z rfl) f16 (by omega))⟩
  · refine fz_iconst ⟨by decide, by decide⟩ kX10_isAsSeen rfl ?_
    refine fz_goto (tgt := 23) kX10_isAsSeen rfl (by decide) ?_
    exact fz_zret kX10_isAsSeen rfl rfl (by omega) ⟨hI5, hf8, _, rfl, (by omega), (by exact fl_asS_in f7 (funext fun z => hf6 52 z rfl) (funext fun z => hf6 51 z rfl) f16 (by omega))⟩

abbrev qX10_judge (h : fz_H) (s on th : Int) : fz_H → Option fz_V → Prop := fun h' r0 => fz_Iv h' ∧ fz_fr [(18, 99999), (19, 99999), (29, 99999)] h h' ∧ ∃ r : Int, r0 = some (fz_i r) ∧ ((-12) ≤ r ∧ r ≤ 4) ∧ (fl_jdC h s on th r)
set_option maxHeartbeats 1000000 in
set_option maxRecDepth 100000 in
theorem sX10_judge (h : fz_H) (hI : fz_Iv h) (s on th : Int) : fz_R 5 mX10_judge 0 [(0, fz_r 0), (1, fz_i s), (2, fz_i on), (3, fz_i th)] [] h (qX10_judge h s on th) := by
  refine fz_knowl (fun hk => ?_)
  have hr_s : -2147483648 ≤ s ∧ s < 2147483648 := hk _ (List.Mem.tail _ (List.Mem.head _))
  have hr_on : -2147483648 ≤ on ∧ on < 2147483648 := hk _ (List.Mem.tail _ (List.Mem.tail _ (List.Mem.head _)))
  have hr_th : -2147483648 ≤ th ∧ th < 2147483648 := hk _ (List.Mem.tail _ (List.Mem.tail _ (List.Mem.tail _ (List.Mem.head _))))
  clear hk
  have hf : fz_fr [(18, 99999), (19, 99999), (29, 99999)] h h := fz_fr_rf
  refine fz_aload_n kX10_judge rfl rfl ?_
  refine fz_iload_n kX10_judge rfl rfl ?_
  refine fz_iload_n kX10_judge rfl rfl ?_
  refine fz_iload_n kX10_judge rfl rfl ?_
  refine fz_callV (d' := 2) (M' := mX10_refusalOfSeen) (As := [fz_i s, fz_i on, fz_i th]) (st := []) kX10_judge rfl rfl vX10_refusalOfSeen rfl rfl rfl rfl (Nat.le_of_ble_eq_true rfl) (Nat.le_of_ble_eq_true rfl) (by decide) (sX10_refusalOfSeen h hI s on th ) (fun H1 r2 q3 o4 => ?_)
  obtain ⟨e5, y9, rfl, f6, f7, f8⟩ := q3
  subst H1
  clear o4
  refine fz_istore (ls' := [(4, fz_i y9), (0, fz_r 0), (1, fz_i s), (2, fz_i on), (3, fz_i th)]) kX10_judge rfl (by decide) rfl ?_
  refine fz_iload kX10_judge rfl rfl ?_
  refine fz_if_ge (tgt := 17) kX10_judge rfl (by decide) (fun c10 => ?_) (fun c10 => ?_)
  · have k12 : 0 ≤ th ∧ th ≤ 7999 := by omega
    have k13 := fl_rf_0 f8 (by omega)
    have k15 := k13.2.1
    refine fz_aload_n kX10_judge rfl rfl ?_
    refine fz_getR (t := 27) kX10_judge rfl rfl ?_
    refine fz_iload_n kX10_judge rfl rfl ?_
    refine fz_iload_n kX10_judge rfl rfl ?_
    refine fz_iload_n kX10_judge rfl rfl ?_
    refine fz_sipush ⟨by decide, by decide⟩ kX10_judge rfl ?_
    refine fz_idivN kX10_judge rfl (by omega) (by omega) (by omega) ?_
    refine fz_iload_n kX10_judge rfl rfl ?_
    refine fz_sipush ⟨by decide, by decide⟩ kX10_judge rfl ?_
    refine fz_iremN kX10_judge rfl (by omega) (by omega) (by omega) ?_
    refine fz_callV (d' := 4) (M' := mX8_listen) (As := [fz_i on, fz_i on, fz_i (th / 1000), fz_i (th % 1000)]) (st := []) kX10_judge rfl rfl vX8_listen rfl rfl rfl rfl (Nat.le_of_ble_eq_true rfl) (Nat.le_of_ble_eq_true rfl) (by decide) (sX8_listen h hI on on (th / 1000) (th % 1000) (by omega)) (fun H16 r17 q18 o19 => ?_)
    obtain ⟨hI20, hf21, rfl, f22⟩ := q18
    clear o19
    have hf23 := fz_fr_tr hf hf21 (show fz_su [(18, 99999), (19, 99999), (29, 99999)] [(18, 99999), (19, 99999), (29, 99999)] = true from rfl)
    refine fz_aload_n kX10_judge rfl rfl ?_
    refine fz_iload_n kX10_judge rfl rfl ?_
    have e24 : H16 48 s.toNat = h 48 s.toNat := hf23 48 _ rfl
    refine fz_callV (d' := 2) (M' := mX10_firstUnlike) (As := [fz_i s]) (st := []) kX10_judge rfl rfl vX10_firstUnlike rfl rfl rfl rfl (Nat.le_of_ble_eq_true rfl) (Nat.le_of_ble_eq_true rfl) (by decide) (sX10_firstUnlike H16 hI20 s (by omega) (by omega)) (fun H25 r26 q27 o28 => ?_)
    obtain ⟨e29, y32, rfl, f30, f31⟩ := q27
    subst H25
    clear o28
    exact fz_iret kX10_judge rfl rfl (fun _ => ⟨hI20, hf23, _, rfl, (by omega), (by first | exact fl_jd_r f8 (by omega) | exact fl_jd_0 f8 (by omega) f22 rfl (funext fun s => hf23 52 s rfl) (funext fun s => hf23 51 s rfl) f31)⟩)
  · refine fz_iload kX10_judge rfl rfl ?_
    exact fz_iret kX10_judge rfl rfl (fun _ => ⟨hI, hf, _, rfl, (by omega), (by first | exact fl_jd_r f8 (by omega) | exact fl_jd_0 f8 (by omega) lost rfl (funext fun s => hf 52 s rfl) (funext fun s => hf 51 s rfl) lost)⟩)

abbrev qX10_which (h : fz_H) (s on th wh : Int) : fz_H → Option fz_V → Prop := fun h' r0 => fz_Iv h' ∧ fz_fr [(18, 99999), (19, 99999), (29, 99999), (31, 99999)] h h' ∧ ∃ r : Int, r0 = some (fz_i r) ∧ ((-2147483648) ≤ r ∧ r ≤ 2147483647) ∧ (fl_whC h s on th wh r)
set_option maxHeartbeats 1000000 in
set_option maxRecDepth 100000 in
theorem sX10_which (h : fz_H) (hI : fz_Iv h) (s on th wh : Int) : fz_R 5 mX10_which 0 [(0, fz_r 0), (1, fz_i s), (2, fz_i on), (3, fz_i th), (4, fz_i wh)] [] h (qX10_which h s on th wh) := by
  refine fz_knowl (fun hk => ?_)
  have hr_s : -2147483648 ≤ s ∧ s < 2147483648 := hk _ (List.Mem.tail _ (List.Mem.head _))
  have hr_on : -2147483648 ≤ on ∧ on < 2147483648 := hk _ (List.Mem.tail _ (List.Mem.tail _ (List.Mem.head _)))
  have hr_th : -2147483648 ≤ th ∧ th < 2147483648 := hk _ (List.Mem.tail _ (List.Mem.tail _ (List.Mem.tail _ (List.Mem.head _))))
  have hr_wh : -2147483648 ≤ wh ∧ wh < 2147483648 := hk _ (List.Mem.tail _ (List.Mem.tail _ (List.Mem.tail _ (List.Mem.tail _ (List.Mem.head _)))))
  clear hk
  have hf : fz_fr [(18, 99999), (19, 99999), (29, 99999), (31, 99999)] h h := fz_fr_rf
  have k1 : 0 ≤ h 9 5 ∧ h 9 5 ≤ 10 := hI.1 9 _
  refine fz_iload kX10_which rfl rfl ?_
  refine fz_if_lt (tgt := 11) kX10_which rfl (by decide) (fun c2 => ?_) (fun c2 => ?_)
  · refine fz_iconst ⟨by decide, by decide⟩ kX10_which rfl ?_
    exact fz_iret kX10_which rfl rfl (fun _ => ⟨hI, hf, _, rfl, (by omega), (by first | exact Or.inl ⟨(fun z => by have := z.2; omega), rfl⟩ | exact fl_wh_r lost (by omega) (by omega) | exact Or.inr (Or.inr (Or.inr ⟨⟨⟨lost.1, by omega⟩, lost.2⟩, {l6}, _, _, _, lost, fl_wcI_e lost (by omega), fl_wx_0 (by omega)⟩)) | exact Or.inr (Or.inr (Or.inr ⟨⟨⟨lost.1, by omega⟩, lost.2⟩, {l6}, _, _, _, lost, fl_wcI_e lost (by omega), fl_wx_1 (by omega)⟩)) | exact Or.inr (Or.inr (Or.inr ⟨⟨⟨lost.1, by omega⟩, lost.2⟩, {l6}, _, _, _, lost, fl_wcI_e lost (by omega), fl_wx_2 (by omega)⟩)))⟩)
  · refine fz_iload kX10_which rfl rfl ?_
    refine fz_iconst ⟨by decide, by decide⟩ kX10_which rfl ?_
    refine fz_icmp_le (tgt := 13) kX10_which rfl (by decide) (fun c4 => ?_) (fun c4 => ?_)
    · refine fz_aload_n kX10_which rfl rfl ?_
      refine fz_iload_n kX10_which rfl rfl ?_
      refine fz_iload_n kX10_which rfl rfl ?_
      refine fz_iload_n kX10_which rfl rfl ?_
      refine fz_callV (d' := 2) (M' := mX10_refusalOfSeen) (As := [fz_i s, fz_i on, fz_i th]) (st := []) kX10_which rfl rfl vX10_refusalOfSeen rfl rfl rfl rfl (Nat.le_of_ble_eq_true rfl) (Nat.le_of_ble_eq_true rfl) (by decide) (sX10_refusalOfSeen h hI s on th ) (fun H5 r6 q7 o8 => ?_)
      obtain ⟨e9, y13, rfl, f10, f11, f12⟩ := q7
      subst H5
      clear o8
      refine fz_istore (ls' := [(5, fz_i y13), (0, fz_r 0), (1, fz_i s), (2, fz_i on), (3, fz_i th), (4, fz_i wh)]) kX10_which rfl (by decide) rfl ?_
      refine fz_iload kX10_which rfl rfl ?_
      refine fz_if_ge (tgt := 30) kX10_which rfl (by decide) (fun c14 => ?_) (fun c14 => ?_)
      · have k16 : 0 ≤ th ∧ th ≤ 7999 := by omega
        have k17 := fl_rf_0 f12 (by omega)
        have k19 := k17.2.1
        refine fz_aload_n kX10_which rfl rfl ?_
        refine fz_getR (t := 27) kX10_which rfl rfl ?_
        refine fz_iload_n kX10_which rfl rfl ?_
        refine fz_iload_n kX10_which rfl rfl ?_
        refine fz_sipush ⟨by decide, by decide⟩ kX10_which rfl ?_
        refine fz_idivN kX10_which rfl (by omega) (by omega) (by omega) ?_
        refine fz_iload_n kX10_which rfl rfl ?_
        refine fz_sipush ⟨by decide, by decide⟩ kX10_which rfl ?_
        refine fz_iremN kX10_which rfl (by omega) (by omega) (by omega) ?_
        have b20 : 0 ≤ h 9 5 ∧ h 9 5 ≤ 10 := hI.1 9 _
        refine fz_callV (d' := 4) (M' := mX8_weigh) (As := [fz_i on, fz_i (th / 1000), fz_i (th % 1000)]) (st := []) kX10_which rfl rfl vX8_weigh rfl rfl rfl rfl (Nat.le_of_ble_eq_true rfl) (Nat.le_of_ble_eq_true rfl) (by decide) (sX8_weigh h hI on (th / 1000) (th % 1000) (by omega)) (fun H21 r22 q23 o24 => ?_)
        obtain ⟨hI25, hf26, y30, rfl, f27, f28, f29⟩ := q23
        clear o24
        have hf31 := fz_fr_tr hf hf26 (show fz_su [(18, 99999), (19, 99999), (31, 99999)] [(18, 99999), (19, 99999), (29, 99999), (31, 99999)] = true from rfl)
        have k32 := fz_shl_m (i := h 9 5) (by omega)
        refine fz_istore (ls' := [(6, fz_i y30), (5, fz_i y13), (0, fz_r 0), (1, fz_i s), (2, fz_i on), (3, fz_i th), (4, fz_i wh)]) kX10_which rfl (by decide) rfl ?_
        refine fz_iconst ⟨by decide, by decide⟩ kX10_which rfl ?_
        refine fz_istore (ls' := [(7, fz_i 0), (6, fz_i y30), (5, fz_i y13), (0, fz_r 0), (1, fz_i s), (2, fz_i on), (3, fz_i th), (4, fz_i wh)]) kX10_which rfl (by decide) rfl ?_
        refine fz_bipush ⟨by decide, by decide⟩ kX10_which rfl ?_
        refine fz_istore (ls' := [(8, fz_i (-2)), (7, fz_i 0), (6, fz_i y30), (5, fz_i y13), (0, fz_r 0), (1, fz_i s), (2, fz_i on), (3, fz_i th), (4, fz_i wh)]) kX10_which rfl (by decide) rfl ?_
        refine fz_bipush ⟨by decide, by decide⟩ kX10_which rfl ?_
        refine fz_istore (ls' := [(9, fz_i (-2)), (8, fz_i (-2)), (7, fz_i 0), (6, fz_i y30), (5, fz_i y13), (0, fz_r 0), (1, fz_i s), (2, fz_i on), (3, fz_i th), (4, fz_i wh)]) kX10_which rfl (by decide) rfl ?_
        refine fz_iconst ⟨by decide, by decide⟩ kX10_which rfl ?_
        refine fz_istore (ls' := [(10, fz_i 0), (9, fz_i (-2)), (8, fz_i (-2)), (7, fz_i 0), (6, fz_i y30), (5, fz_i y13), (0, fz_r 0), (1, fz_i s), (2, fz_i on), (3, fz_i th), (4, fz_i wh)]) kX10_which rfl (by decide) rfl ?_
        have lp41 : ∀ (n40 : Nat) (x33 : Int) (x34 : Int) (x35 : Int) (x36 : Int) (H37 : fz_H), fz_Iv H37 → fz_fr [(18, 99999), (19, 99999), (29, 99999), (31, 99999)] h H37 → (0 ≤ x33 ∧ x33 ≤ 2047) → ((-2147483648) ≤ x34 ∧ x34 ≤ 2147483647) → ((-2147483648) ≤ x35 ∧ x35 ≤ 2147483647) → (0 ≤ x36 ∧ x36 ≤ 2047) → (x36 ≤ x33) → (x33 ≤ fz_shl 1 (h 9 5)) → (H37 31 = H21 31) → (fl_wcI (fl_QC h s on (th / 1000) (th % 1000) y30) x33 x36 x35 x34) → ((fz_shl 1 (h 9 5)) - x33).toNat < n40 → fz_R 5 mX10_which 64 [(10, fz_i x33), (9, fz_i x34), (8, fz_i x35), (7, fz_i x36), (6, fz_i y30), (5, fz_i y13), (0, fz_r 0), (1, fz_i s), (2, fz_i on), (3, fz_i th), (4, fz_i wh)] [] H37 (qX10_which h s on th wh) := by
          intro n40
          induction n40 with
          | zero => intro x33 x34 x35 x36 H37 hI38 hf39 hv44 hv45 hv46 hv47 hv48 hv49 hv50 hv51 hm43; exact absurd hm43 (by omega)
          | succ n40 ih42 =>
            intro x33 x34 x35 x36 H37 hI38 hf39 hv44 hv45 hv46 hv47 hv48 hv49 hv50 hv51 hm43
            refine fz_iload kX10_which rfl rfl ?_
            refine fz_iconst ⟨by decide, by decide⟩ kX10_which rfl ?_
            refine fz_aload_n kX10_which rfl rfl ?_
            refine fz_getR (t := 9) kX10_which rfl rfl ?_
            refine fz_getV (v := h 9 5) kX10_which rfl rfl (hf39 9 5 rfl) ?_
            have b52 : 0 ≤ h 9 5 ∧ h 9 5 ≤ 10 := hI.1 9 _
            refine fz_ishl kX10_which rfl ?_
            have b53 : -2147483648 ≤ (fz_shl 1 (h 9 5)) ∧ (fz_shl 1 (h 9 5)) < 2147483648 := fz_b32 _
            have b54 : 0 ≤ (fz_shl 1 (h 9 5)) ∧ (fz_shl 1 (h 9 5)) ≤ 2047 := fz_shl_m (by omega)
            refine fz_icmp_ge (tgt := 138) kX10_which rfl (by decide) (fun c55 => ?_) (fun c55 => ?_)
            · refine fz_iload kX10_which rfl rfl ?_
              refine fz_if_ne (tgt := 148) kX10_which rfl (by decide) (fun c56 => ?_) (fun c56 => ?_)
              · refine fz_iload kX10_which rfl rfl ?_
                refine fz_iconst ⟨by decide, by decide⟩ kX10_which rfl ?_
                refine fz_icmp_ne (tgt := 159) kX10_which rfl (by decide) (fun c57 => ?_) (fun c57 => ?_)
                · refine fz_iload kX10_which rfl rfl ?_
                  exact fz_iret kX10_which rfl rfl (fun _ => ⟨hI38, hf39, _, rfl, (by omega), (by first | exact Or.inl ⟨(fun z => by have := z.2; omega), rfl⟩ | exact fl_wh_r f12 (by omega) (by omega) | exact Or.inr (Or.inr (Or.inr ⟨⟨⟨k17.1, by omega⟩, k17.2⟩, y30, _, _, _, f28, fl_wcI_e hv51 (by omega), fl_wx_0 (by omega)⟩)) | exact Or.inr (Or.inr (Or.inr ⟨⟨⟨k17.1, by omega⟩, k17.2⟩, y30, _, _, _, f28, fl_wcI_e hv51 (by omega), fl_wx_1 (by omega)⟩)) | exact Or.inr (Or.inr (Or.inr ⟨⟨⟨k17.1, by omega⟩, k17.2⟩, y30, _, _, _, f28, fl_wcI_e hv51 (by omega), fl_wx_2 (by omega)⟩)))⟩)
                · refine fz_iload kX10_which rfl rfl ?_
                  refine fz_goto (tgt := 161) kX10_which rfl (by decide) ?_
                  exact fz_iret kX10_which rfl rfl (fun _ => ⟨hI38, hf39, _, rfl, (by omega), (by first | exact Or.inl ⟨(fun z => by have := z.2; omega), rfl⟩ | exact fl_wh_r f12 (by omega) (by omega) | exact Or.inr (Or.inr (Or.inr ⟨⟨⟨k17.1, by omega⟩, k17.2⟩, y30, _, _, _, f28, fl_wcI_e hv51 (by omega), fl_wx_0 (by omega)⟩)) | exact Or.inr (Or.inr (Or.inr ⟨⟨⟨k17.1, by omega⟩, k17.2⟩, y30, _, _, _, f28, fl_wcI_e hv51 (by omega), fl_wx_1 (by omega)⟩)) | exact Or.inr (Or.inr (Or.inr ⟨⟨⟨k17.1, by omega⟩, k17.2⟩, y30, _, _, _, f28, fl_wcI_e hv51 (by omega), fl_wx_2 (by omega)⟩)))⟩)
              · refine fz_iload kX10_which rfl rfl ?_
                refine fz_goto (tgt := 161) kX10_which rfl (by decide) ?_
                exact fz_iret kX10_which rfl rfl (fun _ => ⟨hI38, hf39, _, rfl, (by omega), (by first | exact Or.inl ⟨(fun z => by have := z.2; omega), rfl⟩ | exact fl_wh_r f12 (by omega) (by omega) | exact Or.inr (Or.inr (Or.inr ⟨⟨⟨k17.1, by omega⟩, k17.2⟩, y30, _, _, _, f28, fl_wcI_e hv51 (by omega), fl_wx_0 (by omega)⟩)) | exact Or.inr (Or.inr (Or.inr ⟨⟨⟨k17.1, by omega⟩, k17.2⟩, y30, _, _, _, f28, fl_wcI_e hv51 (by omega), fl_wx_1 (by omega)⟩)) | exact Or.inr (Or.inr (Or.inr ⟨⟨⟨k17.1, by omega⟩, k17.2⟩, y30, _, _, _, f28, fl_wcI_e hv51 (by omega), fl_wx_2 (by omega)⟩)))⟩)
            · refine fz_iload kX10_which rfl rfl ?_
              refine fz_iload kX10_which rfl rfl ?_
              refine fz_iconst ⟨by decide, by decide⟩ kX10_which rfl ?_
              refine fz_ixor kX10_which rfl ?_
              have b61 : -2147483648 ≤ (fz_xor y30 (-1)) ∧ (fz_xor y30 (-1)) < 2147483648 := fz_b32 _
              refine fz_iand kX10_which rfl ?_
              have b63 : -2147483648 ≤ (fz_and x33 (fz_xor y30 (-1))) ∧ (fz_and x33 (fz_xor y30 (-1))) < 2147483648 := fz_b32 _
              refine fz_if_ne (tgt := 132) kX10_which rfl (by decide) (fun c65 => ?_) (fun c65 => ?_)
              · refine fz_iincN (ls' := [(10, fz_i (x33 + 1)), (9, fz_i x34), (8, fz_i x35), (7, fz_i x36), (6, fz_i y30), (5, fz_i y13), (0, fz_r 0), (1, fz_i s), (2, fz_i on), (3, fz_i th), (4, fz_i wh)]) kX10_which rfl (by decide) rfl (by omega) rfl ?_
                refine fz_goto (tgt := 64) kX10_which rfl (by decide) ?_
                exact ih42 (x33 + 1) x34 x35 x36 H37 hI38 hf39 (by omega) (by omega) (by omega) (by omega) (by omega) (by omega) (by first | exact (funext fun z => lost 31 z rfl).trans hv50 | exact hv50) (by first | exact fl_wcI_n hv51 (by omega) (fl_QC_n (by omega)) | exact fl_wcI_n hv51 (by omega) (lost.elim (fun q => absurd q.1 (by omega)) (fun q => q.2)) | exact fl_wcI_y1 hv51 ⟨by omega, by omega⟩ (lost.elim (fun q => q.2) (fun q => absurd q.1 (by omega))) (by omega) | exact fl_wcI_y2 hv51 ⟨by omega, by omega⟩ (lost.elim (fun q => q.2) (fun q => absurd q.1 (by omega))) (by omega)) (by omega)
              · refine fz_aload_n kX10_which rfl rfl ?_
                refine fz_iload_n kX10_which rfl rfl ?_
                refine fz_iload kX10_which rfl rfl ?_
                have e68 : H37 48 s.toNat = h 48 s.toNat := hf39 48 _ rfl
                refine fz_callV (d' := 3) (M' := mX10_isAsSeen) (As := [fz_i s, fz_i x33]) (st := []) kX10_which rfl rfl vX10_isAsSeen rfl rfl rfl rfl (Nat.le_of_ble_eq_true rfl) (Nat.le_of_ble_eq_true rfl) (by decide) (sX10_isAsSeen H37 hI38 s x33 (by omega) (by omega)) (fun H69 r70 q71 o72 => ?_)
                obtain ⟨hI73, hf74, y76, rfl, p77, f75⟩ := q71
                clear o72
                have hf78 := fz_fr_tr hf39 hf74 (show fz_su [(29, 99999)] [(18, 99999), (19, 99999), (29, 99999), (31, 99999)] = true from rfl)
                have k79 := fl_QC_y (s := s) f29 hv50 (funext fun z => hf39 13 z rfl) (hf39 9 5 rfl) (funext fun z => hf39 52 z rfl) (funext fun z => hf39 51 z rfl) f28 (by omega) ⟨by omega, by omega⟩ (by omega) f75
                refine fz_if_eq (tgt := 132) kX10_which rfl (by decide) (fun c81 => ?_) (fun c81 => ?_)
                · refine fz_iincN (ls' := [(10, fz_i (x33 + 1)), (9, fz_i x34), (8, fz_i x35), (7, fz_i x36), (6, fz_i y30), (5, fz_i y13), (0, fz_r 0), (1, fz_i s), (2, fz_i on), (3, fz_i th), (4, fz_i wh)]) kX10_which rfl (by decide) rfl (by omega) rfl ?_
                  refine fz_goto (tgt := 64) kX10_which rfl (by decide) ?_
                  exact ih42 (x33 + 1) x34 x35 x36 H69 hI73 hf78 (by omega) (by omega) (by omega) (by omega) (by omega) (by omega) (by first | exact (funext fun z => hf74 31 z rfl).trans hv50 | exact hv50) (by first | exact fl_wcI_n hv51 (by omega) (fl_QC_n (by omega)) | exact fl_wcI_n hv51 (by omega) (k79.elim (fun q => absurd q.1 (by omega)) (fun q => q.2)) | exact fl_wcI_y1 hv51 ⟨by omega, by omega⟩ (k79.elim (fun q => q.2) (fun q => absurd q.1 (by omega))) (by omega) | exact fl_wcI_y2 hv51 ⟨by omega, by omega⟩ (k79.elim (fun q => q.2) (fun q => absurd q.1 (by omega))) (by omega)) (by omega)
                · refine fz_iload kX10_which rfl rfl ?_
                  refine fz_if_ne (tgt := 108) kX10_which rfl (by decide) (fun c84 => ?_) (fun c84 => ?_)
                  · refine fz_iload kX10_which rfl rfl ?_
                    refine fz_istore (ls' := [(8, fz_i x35), (10, fz_i x33), (9, fz_i x34), (7, fz_i x36), (6, fz_i y30), (5, fz_i y13), (0, fz_r 0), (1, fz_i s), (2, fz_i on), (3, fz_i th), (4, fz_i wh)]) kX10_which rfl (by decide) rfl ?_
                    refine fz_iload kX10_which rfl rfl ?_
                    refine fz_if_ne (tgt := 122) kX10_which rfl (by decide) (fun c85 => ?_) (fun c85 => ?_)
                    · refine fz_iload kX10_which rfl rfl ?_
                      refine fz_iload kX10_which rfl rfl ?_
                      refine fz_iand kX10_which rfl ?_
                      have b86 : -2147483648 ≤ (fz_and x34 x33) ∧ (fz_and x34 x33) < 2147483648 := fz_b32 _
                      have b87 : 0 ≤ (fz_and x34 x33) ∧ (fz_and x34 x33) ≤ x33 := fz_and_m (by omega) (by omega)
                      refine fz_istore (ls' := [(9, fz_i (fz_and x34 x33)), (8, fz_i x35), (10, fz_i x33), (7, fz_i x36), (6, fz_i y30), (5, fz_i y13), (0, fz_r 0), (1, fz_i s), (2, fz_i on), (3, fz_i th), (4, fz_i wh)]) kX10_which rfl (by decide) rfl ?_
                      refine fz_iincN (ls' := [(7, fz_i (x36 + 1)), (9, fz_i (fz_and x34 x33)), (8, fz_i x35), (10, fz_i x33), (6, fz_i y30), (5, fz_i y13), (0, fz_r 0), (1, fz_i s), (2, fz_i on), (3, fz_i th), (4, fz_i wh)]) kX10_which rfl (by decide) rfl (by omega) rfl ?_
                      refine fz_iincN (ls' := [(10, fz_i (x33 + 1)), (7, fz_i (x36 + 1)), (9, fz_i (fz_and x34 x33)), (8, fz_i x35), (6, fz_i y30), (5, fz_i y13), (0, fz_r 0), (1, fz_i s), (2, fz_i on), (3, fz_i th), (4, fz_i wh)]) kX10_which rfl (by decide) rfl (by omega) rfl ?_
                      refine fz_goto (tgt := 64) kX10_which rfl (by decide) ?_
                      refine fz_sub (fz_pk_sub (ls' := [(10, fz_i (x33 + 1)), (9, fz_i (fz_and x34 x33)), (8, fz_i x35), (7, fz_i (x36 + 1)), (6, fz_i y30), (5, fz_i y13), (0, fz_r 0), (1, fz_i s), (2, fz_i on), (3, fz_i th), (4, fz_i wh)]) [0, 2, 3, 1, 4, 5, 6, 7, 8, 9, 10] rfl) ?_
                      exact ih42 (x33 + 1) (fz_and x34 x33) x35 (x36 + 1) H69 hI73 hf78 (by omega) (by omega) (by omega) (by omega) (by omega) (by omega) (by first | exact (funext fun z => hf74 31 z rfl).trans hv50 | exact hv50) (by first | exact fl_wcI_n hv51 (by omega) (fl_QC_n (by omega)) | exact fl_wcI_n hv51 (by omega) (k79.elim (fun q => absurd q.1 (by omega)) (fun q => q.2)) | exact fl_wcI_y1 hv51 ⟨by omega, by omega⟩ (k79.elim (fun q => q.2) (fun q => absurd q.1 (by omega))) (by omega) | exact fl_wcI_y2 hv51 ⟨by omega, by omega⟩ (k79.elim (fun q => q.2) (fun q => absurd q.1 (by omega))) (by omega)) (by omega)
                    · exfalso; omega
                  · refine fz_iload kX10_which rfl rfl ?_
                    refine fz_goto (tgt := 110) kX10_which rfl (by decide) ?_
                    refine fz_istore (ls' := [(8, fz_i x33), (10, fz_i x33), (9, fz_i x34), (7, fz_i x36), (6, fz_i y30), (5, fz_i y13), (0, fz_r 0), (1, fz_i s), (2, fz_i on), (3, fz_i th), (4, fz_i wh)]) kX10_which rfl (by decide) rfl ?_
                    refine fz_iload kX10_which rfl rfl ?_
                    refine fz_if_ne (tgt := 122) kX10_which rfl (by decide) (fun c90 => ?_) (fun c90 => ?_)
                    · exfalso; omega
                    · refine fz_iload kX10_which rfl rfl ?_
                      refine fz_goto (tgt := 127) kX10_which rfl (by decide) ?_
                      refine fz_istore (ls' := [(9, fz_i x33), (8, fz_i x33), (10, fz_i x33), (7, fz_i x36), (6, fz_i y30), (5, fz_i y13), (0, fz_r 0), (1, fz_i s), (2, fz_i on), (3, fz_i th), (4, fz_i wh)]) kX10_which rfl (by decide) rfl ?_
                      refine fz_iincN (ls' := [(7, fz_i (x36 + 1)), (9, fz_i x33), (8, fz_i x33), (10, fz_i x33), (6, fz_i y30), (5, fz_i y13), (0, fz_r 0), (1, fz_i s), (2, fz_i on), (3, fz_i th), (4, fz_i wh)]) kX10_which rfl (by decide) rfl (by omega) rfl ?_
                      refine fz_iincN (ls' := [(10, fz_i (x33 + 1)), (7, fz_i (x36 + 1)), (9, fz_i x33), (8, fz_i x33), (6, fz_i y30), (5, fz_i y13), (0, fz_r 0), (1, fz_i s), (2, fz_i on), (3, fz_i th), (4, fz_i wh)]) kX10_which rfl (by decide) rfl (by omega) rfl ?_
                      refine fz_goto (tgt := 64) kX10_which rfl (by decide) ?_
                      refine fz_sub (fz_pk_sub (ls' := [(10, fz_i (x33 + 1)), (9, fz_i x33), (8, fz_i x33), (7, fz_i (x36 + 1)), (6, fz_i y30), (5, fz_i y13), (0, fz_r 0), (1, fz_i s), (2, fz_i on), (3, fz_i th), (4, fz_i wh)]) [0, 2, 3, 1, 4, 5, 6, 7, 8, 9, 10] rfl) ?_
                      exact ih42 (x33 + 1) x33 x33 (x36 + 1) H69 hI73 hf78 (by omega) (by omega) (by omega) (by omega) (by omega) (by omega) (by first | exact (funext fun z => hf74 31 z rfl).trans hv50 | exact hv50) (by first | exact fl_wcI_n hv51 (by omega) (fl_QC_n (by omega)) | exact fl_wcI_n hv51 (by omega) (k79.elim (fun q => absurd q.1 (by omega)) (fun q => q.2)) | exact fl_wcI_y1 hv51 ⟨by omega, by omega⟩ (k79.elim (fun q => q.2) (fun q => absurd q.1 (by omega))) (by omega) | exact fl_wcI_y2 hv51 ⟨by omega, by omega⟩ (k79.elim (fun q => q.2) (fun q => absurd q.1 (by omega))) (by omega)) (by omega)
        exact lp41 _ 0 (-2) (-2) 0 H21 hI25 hf31 (by omega) (by omega) (by omega) (by omega) (by omega) (by omega) (rfl) (fl_wcI_0) (Nat.lt_succ_self _)
      · refine fz_iload kX10_which rfl rfl ?_
        exact fz_iret kX10_which rfl rfl (fun _ => ⟨hI, hf, _, rfl, (by omega), (by first | exact Or.inl ⟨(fun z => by have := z.2; omega), rfl⟩ | exact fl_wh_r f12 (by omega) (by omega) | exact Or.inr (Or.inr (Or.inr ⟨⟨⟨lost.1, by omega⟩, lost.2⟩, {l6}, _, _, _, lost, fl_wcI_e lost (by omega), fl_wx_0 (by omega)⟩)) | exact Or.inr (Or.inr (Or.inr ⟨⟨⟨lost.1, by omega⟩, lost.2⟩, {l6}, _, _, _, lost, fl_wcI_e lost (by omega), fl_wx_1 (by omega)⟩)) | exact Or.inr (Or.inr (Or.inr ⟨⟨⟨lost.1, by omega⟩, lost.2⟩, {l6}, _, _, _, lost, fl_wcI_e lost (by omega), fl_wx_2 (by omega)⟩)))⟩)
    · refine fz_iconst ⟨by decide, by decide⟩ kX10_which rfl ?_
      exact fz_iret kX10_which rfl rfl (fun _ => ⟨hI, hf, _, rfl, (by omega), (by first | exact Or.inl ⟨(fun z => by have := z.2; omega), rfl⟩ | exact fl_wh_r lost (by omega) (by omega) | exact Or.inr (Or.inr (Or.inr ⟨⟨⟨lost.1, by omega⟩, lost.2⟩, {l6}, _, _, _, lost, fl_wcI_e lost (by omega), fl_wx_0 (by omega)⟩)) | exact Or.inr (Or.inr (Or.inr ⟨⟨⟨lost.1, by omega⟩, lost.2⟩, {l6}, _, _, _, lost, fl_wcI_e lost (by omega), fl_wx_1 (by omega)⟩)) | exact Or.inr (Or.inr (Or.inr ⟨⟨⟨lost.1, by omega⟩, lost.2⟩, {l6}, _, _, _, lost, fl_wcI_e lost (by omega), fl_wx_2 (by omega)⟩)))⟩)

abbrev qX10_first (h : fz_H) (pm tx wh : Int) : fz_H → Option fz_V → Prop := fun h' r0 => fz_Iv h' ∧ fz_fr [(18, 99999), (19, 99999)] h h' ∧ ∃ r : Int, r0 = some (fz_i r) ∧ ((-2) ≤ r ∧ r ≤ 999) ∧ (fl_fiC h pm tx wh r)
set_option maxHeartbeats 1000000 in
set_option maxRecDepth 100000 in
theorem sX10_first (h : fz_H) (hI : fz_Iv h) (pm tx wh : Int) : fz_R 5 mX10_first 0 [(0, fz_r 0), (1, fz_i pm), (2, fz_i tx), (3, fz_i wh)] [] h (qX10_first h pm tx wh) := by
  refine fz_knowl (fun hk => ?_)
  have hr_pm : -2147483648 ≤ pm ∧ pm < 2147483648 := hk _ (List.Mem.tail _ (List.Mem.head _))
  have hr_tx : -2147483648 ≤ tx ∧ tx < 2147483648 := hk _ (List.Mem.tail _ (List.Mem.tail _ (List.Mem.head _)))
  have hr_wh : -2147483648 ≤ wh ∧ wh < 2147483648 := hk _ (List.Mem.tail _ (List.Mem.tail _ (List.Mem.tail _ (List.Mem.head _))))
  clear hk
  have hf : fz_fr [(18, 99999), (19, 99999)] h h := fz_fr_rf
  refine fz_iload_n kX10_first rfl rfl ?_
  refine fz_bipush ⟨by decide, by decide⟩ kX10_first rfl ?_
  refine fz_idivT kX10_first rfl (by decide) (by omega) (fun z1 r2 e3 e4 e5 e6 e7 e8 e9 => ?_)
  refine fz_istore (ls' := [(4, fz_i z1), (0, fz_r 0), (1, fz_i pm), (2, fz_i tx), (3, fz_i wh)]) kX10_first rfl (by decide) rfl ?_
  refine fz_iload_n kX10_first rfl rfl ?_
  refine fz_bipush ⟨by decide, by decide⟩ kX10_first rfl ?_
  refine fz_iremT kX10_first rfl (by decide) (by decide) (fun z10 r11 e12 e13 e14 e15 e16 e17 => ?_)
  refine fz_istore (ls' := [(5, fz_i z10), (4, fz_i z1), (0, fz_r 0), (1, fz_i pm), (2, fz_i tx), (3, fz_i wh)]) kX10_first rfl (by decide) rfl ?_
  refine fz_aload_n kX10_first rfl rfl ?_
  refine fz_iload_n kX10_first rfl rfl ?_
  refine fz_callV (d' := 1) (M' := mX10_isMarkOfOne) (As := [fz_i pm]) (st := []) kX10_first rfl rfl vX10_isMarkOfOne rfl rfl rfl rfl (Nat.le_of_ble_eq_true rfl) (Nat.le_of_ble_eq_true rfl) (by decide) (sX10_isMarkOfOne h hI pm ) (fun H19 r20 q21 o22 => ?_)
  obtain ⟨e23, y24, rfl, p25⟩ := q21
  subst H19
  clear o22
  rcases p25 with ⟨rfl, c26⟩ | ⟨rfl, c26⟩
  · refine fz_if_eq (tgt := 50) kX10_first rfl (by decide) (fun c27 => ?_) (fun c27 => ?_)
    · exfalso; omega
    · refine fz_aload_n kX10_first rfl rfl ?_
      refine fz_getR (t := 1) kX10_first rfl rfl ?_
      refine fz_iload kX10_first rfl rfl ?_
      have b28 : 0 ≤ h 1 7 ∧ h 1 7 ≤ 8 := hI.1 1 _
      refine fz_callV (d' := 0) (M' := mX2_isTown) (As := [fz_i z1]) (st := []) kX10_first rfl rfl vX2_isTown rfl rfl rfl rfl (Nat.le_of_ble_eq_true rfl) (Nat.le_of_ble_eq_true rfl) (by decide) (sX2_isTown h hI z1 ) (fun H29 r30 q31 o32 => ?_)
      obtain ⟨e33, y34, rfl, p35⟩ := q31
      subst H29
      clear o32
      rcases p35 with ⟨rfl, c36⟩ | ⟨rfl, c36⟩
      · refine fz_if_eq (tgt := 50) kX10_first rfl (by decide) (fun c37 => ?_) (fun c37 => ?_)
        · exfalso; omega
        · refine fz_aload_n kX10_first rfl rfl ?_
          refine fz_iload kX10_first rfl rfl ?_
          refine fz_callV (d' := 0) (M' := mX10_isVolume) (As := [fz_i z10]) (st := []) kX10_first rfl rfl vX10_isVolume rfl rfl rfl rfl (Nat.le_of_ble_eq_true rfl) (Nat.le_of_ble_eq_true rfl) (by decide) (sX10_isVolume h hI z10 ) (fun H38 r39 q40 o41 => ?_)
          obtain ⟨e42, y43, rfl, p44⟩ := q40
          subst H38
          clear o41
          rcases p44 with ⟨rfl, c45⟩ | ⟨rfl, c45⟩
          · refine fz_if_eq (tgt := 50) kX10_first rfl (by decide) (fun c46 => ?_) (fun c46 => ?_)
            · exfalso; omega
            · refine fz_iload_n kX10_first rfl rfl ?_
              refine fz_if_lt (tgt := 50) kX10_first rfl (by decide) (fun c47 => ?_) (fun c47 => ?_)
              · refine fz_iconst ⟨by decide, by decide⟩ kX10_first rfl ?_
                exact fz_iret kX10_first rfl rfl (fun _ => ⟨hI, hf, _, rfl, (by omega), (by first | exact Or.inl ⟨(by unfold fl_oF; omega), fl_fc_y lost (by omega) (by omega) lost lost (by omega)⟩ | exact Or.inl ⟨(by unfold fl_oF; omega), fl_fc_n lost (by omega) (by omega) rfl⟩ | exact Or.inr ⟨(by unfold fl_oF; omega), rfl⟩)⟩)
              · refine fz_iload_n kX10_first rfl rfl ?_
                refine fz_iconst ⟨by decide, by decide⟩ kX10_first rfl ?_
                refine fz_icmp_le (tgt := 52) kX10_first rfl (by decide) (fun c49 => ?_) (fun c49 => ?_)
                · refine fz_iconst ⟨by decide, by decide⟩ kX10_first rfl ?_
                  refine fz_istore (ls' := [(6, fz_i 0), (5, fz_i z10), (4, fz_i z1), (0, fz_r 0), (1, fz_i pm), (2, fz_i tx), (3, fz_i wh)]) kX10_first rfl (by decide) rfl ?_
                  have lp55 : ∀ (n54 : Nat) (x50 : Int) (H51 : fz_H), fz_Iv H51 → fz_fr [(18, 99999), (19, 99999)] h H51 → (0 ≤ x50 ∧ x50 ≤ 2147483647) → (fl_fc (fl_SC h (pm / 10) (pm / 10) (pm % 10) (tx / 100)) (tx % 100) wh x50) → (999 + 1 - x50).toNat < n54 → fz_R 5 mX10_first 55 [(6, fz_i x50), (5, fz_i z10), (4, fz_i z1), (0, fz_r 0), (1, fz_i pm), (2, fz_i tx), (3, fz_i wh)] [] H51 (qX10_first h pm tx wh) := by
                    intro n54
                    induction n54 with
                    | zero => intro x50 H51 hI52 hf53 hv58 hv59 hm57; exact absurd hm57 (by omega)
                    | succ n54 ih56 =>
                      intro x50 H51 hI52 hf53 hv58 hv59 hm57
                      refine fz_iload kX10_first rfl rfl ?_
                      refine fz_sipush ⟨by decide, by decide⟩ kX10_first rfl ?_
                      refine fz_icmp_gt (tgt := 106) kX10_first rfl (by decide) (fun c60 => ?_) (fun c60 => ?_)
                      · refine fz_bipush ⟨by decide, by decide⟩ kX10_first rfl ?_
                        exact fz_iret kX10_first rfl rfl (fun _ => ⟨hI52, hf53, _, rfl, (by omega), (by first | exact Or.inl ⟨(by unfold fl_oF; omega), fl_fc_y hv59 (by omega) (by omega) lost lost (by omega)⟩ | exact Or.inl ⟨(by unfold fl_oF; omega), fl_fc_n hv59 (by omega) (by omega) rfl⟩ | exact Or.inr ⟨(by unfold fl_oF; omega), rfl⟩)⟩)
                      · refine fz_iload_n kX10_first rfl rfl ?_
                        refine fz_if_ne (tgt := 72) kX10_first rfl (by decide) (fun c62 => ?_) (fun c62 => ?_)
                        · refine fz_sipush ⟨by decide, by decide⟩ kX10_first rfl ?_
                          refine fz_iload kX10_first rfl rfl ?_
                          refine fz_isubN kX10_first rfl (by omega) ?_
                          refine fz_istore (ls' := [(7, fz_i (999 - x50)), (6, fz_i x50), (5, fz_i z10), (4, fz_i z1), (0, fz_r 0), (1, fz_i pm), (2, fz_i tx), (3, fz_i wh)]) kX10_first rfl (by decide) rfl ?_
                          have k63 : (999 - x50) = fl_dr wh x50 := by first | exact fl_dr_0 (by omega) | exact fl_dr_1 (by omega)
                          refine fz_aload_n kX10_first rfl rfl ?_
                          refine fz_getR (t := 27) kX10_first rfl rfl ?_
                          refine fz_iload_n kX10_first rfl rfl ?_
                          refine fz_iload kX10_first rfl rfl ?_
                          refine fz_iload kX10_first rfl rfl ?_
                          refine fz_callV (d' := 4) (M' := mX8_loudestOf) (As := [fz_i pm, fz_i z1, fz_i (999 - x50)]) (st := []) kX10_first rfl rfl vX8_loudestOf rfl rfl rfl rfl (Nat.le_of_ble_eq_true rfl) (Nat.le_of_ble_eq_true rfl) (by decide) (sX8_loudestOf H51 hI52 pm z1 (999 - x50) (by omega) (by omega)) (fun H65 r66 q67 o68 => ?_)
                          obtain ⟨hI69, hf70, y73, rfl, f71, f72⟩ := q67
                          clear o68
                          have hf74 := fz_fr_tr hf53 hf70 (show fz_su [(18, 99999), (19, 99999)] [(18, 99999), (19, 99999)] = true from rfl)
                          have k75 : y73 = fl_SC h (pm / 10) (pm / 10) (pm % 10) (tx / 100) (999 - x50) := by rw [show tx / 100 = z1 by omega, ← fl_SC_fr hf53 rfl]; exact f72
                          refine fz_iload kX10_first rfl rfl ?_
                          refine fz_icmp_lt (tgt := 100) kX10_first rfl (by decide) (fun c77 => ?_) (fun c77 => ?_)
                          · refine fz_iincN (ls' := [(6, fz_i (x50 + 1)), (7, fz_i (999 - x50)), (5, fz_i z10), (4, fz_i z1), (0, fz_r 0), (1, fz_i pm), (2, fz_i tx), (3, fz_i wh)]) kX10_first rfl (by decide) rfl (by omega) rfl ?_
                            refine fz_goto (tgt := 55) kX10_first rfl (by decide) ?_
                            refine fz_sub (fz_pk_sub (ls' := [(6, fz_i (x50 + 1)), (5, fz_i z10), (4, fz_i z1), (0, fz_r 0), (1, fz_i pm), (2, fz_i tx), (3, fz_i wh)]) [0, 2, 3, 4, 5, 6, 7] rfl) ?_
                            exact ih56 (x50 + 1) H65 hI69 hf74 (by omega) (fl_fc_s hv59 k63 k75 (by omega)) (by omega)
                          · refine fz_iload kX10_first rfl rfl ?_
                            exact fz_iret kX10_first rfl rfl (fun _ => ⟨hI69, hf74, _, rfl, (by omega), (by first | exact Or.inl ⟨(by unfold fl_oF; omega), fl_fc_y hv59 (by omega) (by omega) k63 k75 (by omega)⟩ | exact Or.inl ⟨(by unfold fl_oF; omega), fl_fc_n hv59 (by omega) (by omega) rfl⟩ | exact Or.inr ⟨(by unfold fl_oF; omega), rfl⟩)⟩)
                        · refine fz_iload kX10_first rfl rfl ?_
                          refine fz_goto (tgt := 78) kX10_first rfl (by decide) ?_
                          refine fz_istore (ls' := [(7, fz_i x50), (6, fz_i x50), (5, fz_i z10), (4, fz_i z1), (0, fz_r 0), (1, fz_i pm), (2, fz_i tx), (3, fz_i wh)]) kX10_first rfl (by decide) rfl ?_
                          have k80 : x50 = fl_dr wh x50 := by first | exact fl_dr_0 (by omega) | exact fl_dr_1 (by omega)
                          refine fz_aload_n kX10_first rfl rfl ?_
                          refine fz_getR (t := 27) kX10_first rfl rfl ?_
                          refine fz_iload_n kX10_first rfl rfl ?_
                          refine fz_iload kX10_first rfl rfl ?_
                          refine fz_iload kX10_first rfl rfl ?_
                          refine fz_callV (d' := 4) (M' := mX8_loudestOf) (As := [fz_i pm, fz_i z1, fz_i x50]) (st := []) kX10_first rfl rfl vX8_loudestOf rfl rfl rfl rfl (Nat.le_of_ble_eq_true rfl) (Nat.le_of_ble_eq_true rfl) (by decide) (sX8_loudestOf H51 hI52 pm z1 x50 (by omega) (by omega)) (fun H82 r83 q84 o85 => ?_)
                          obtain ⟨hI86, hf87, y90, rfl, f88, f89⟩ := q84
                          clear o85
                          have hf91 := fz_fr_tr hf53 hf87 (show fz_su [(18, 99999), (19, 99999)] [(18, 99999), (19, 99999)] = true from rfl)
                          have k92 : y90 = fl_SC h (pm / 10) (pm / 10) (pm % 10) (tx / 100) x50 := by rw [show tx / 100 = z1 by omega, ← fl_SC_fr hf53 rfl]; exact f89
                          refine fz_iload kX10_first rfl rfl ?_
                          refine fz_icmp_lt (tgt := 100) kX10_first rfl (by decide) (fun c94 => ?_) (fun c94 => ?_)
                          · refine fz_iincN (ls' := [(6, fz_i (x50 + 1)), (7, fz_i x50), (5, fz_i z10), (4, fz_i z1), (0, fz_r 0), (1, fz_i pm), (2, fz_i tx), (3, fz_i wh)]) kX10_first rfl (by decide) rfl (by omega) rfl ?_
                            refine fz_goto (tgt := 55) kX10_first rfl (by decide) ?_
                            refine fz_sub (fz_pk_sub (ls' := [(6, fz_i (x50 + 1)), (5, fz_i z10), (4, fz_i z1), (0, fz_r 0), (1, fz_i pm), (2, fz_i tx), (3, fz_i wh)]) [0, 2, 3, 4, 5, 6, 7] rfl) ?_
                            exact ih56 (x50 + 1) H82 hI86 hf91 (by omega) (fl_fc_s hv59 k80 k92 (by omega)) (by omega)
                          · refine fz_iload kX10_first rfl rfl ?_
                            exact fz_iret kX10_first rfl rfl (fun _ => ⟨hI86, hf91, _, rfl, (by omega), (by first | exact Or.inl ⟨(by unfold fl_oF; omega), fl_fc_y hv59 (by omega) (by omega) k80 k92 (by omega)⟩ | exact Or.inl ⟨(by unfold fl_oF; omega), fl_fc_n hv59 (by omega) (by omega) rfl⟩ | exact Or.inr ⟨(by unfold fl_oF; omega), rfl⟩)⟩)
                  exact lp55 _ 0 h hI hf (by omega) (fun k k0 k1 => by exfalso; omega) (Nat.lt_succ_self _)
                · refine fz_iconst ⟨by decide, by decide⟩ kX10_first rfl ?_
                  exact fz_iret kX10_first rfl rfl (fun _ => ⟨hI, hf, _, rfl, (by omega), (by first | exact Or.inl ⟨(by unfold fl_oF; omega), fl_fc_y lost (by omega) (by omega) lost lost (by omega)⟩ | exact Or.inl ⟨(by unfold fl_oF; omega), fl_fc_n lost (by omega) (by omega) rfl⟩ | exact Or.inr ⟨(by unfold fl_oF; omega), rfl⟩)⟩)
          · refine fz_if_eq (tgt := 50) kX10_first rfl (by decide) (fun c99 => ?_) (fun c99 => ?_)
            · refine fz_iconst ⟨by decide, by decide⟩ kX10_first rfl ?_
              exact fz_iret kX10_first rfl rfl (fun _ => ⟨hI, hf, _, rfl, (by omega), (by first | exact Or.inl ⟨(by unfold fl_oF; omega), fl_fc_y lost (by omega) (by omega) lost lost (by omega)⟩ | exact Or.inl ⟨(by unfold fl_oF; omega), fl_fc_n lost (by omega) (by omega) rfl⟩ | exact Or.inr ⟨(by unfold fl_oF; omega), rfl⟩)⟩)
            · exfalso; omega
      · refine fz_if_eq (tgt := 50) kX10_first rfl (by decide) (fun c101 => ?_) (fun c101 => ?_)
        · refine fz_iconst ⟨by decide, by decide⟩ kX10_first rfl ?_
          exact fz_iret kX10_first rfl rfl (fun _ => ⟨hI, hf, _, rfl, (by omega), (by first | exact Or.inl ⟨(by unfold fl_oF; omega), fl_fc_y lost (by omega) (by omega) lost lost (by omega)⟩ | exact Or.inl ⟨(by unfold fl_oF; omega), fl_fc_n lost (by omega) (by omega) rfl⟩ | exact Or.inr ⟨(by unfold fl_oF; omega), rfl⟩)⟩)
        · exfalso; omega
  · refine fz_if_eq (tgt := 50) kX10_first rfl (by decide) (fun c103 => ?_) (fun c103 => ?_)
    · refine fz_iconst ⟨by decide, by decide⟩ kX10_first rfl ?_
      exact fz_iret kX10_first rfl rfl (fun _ => ⟨hI, hf, _, rfl, (by omega), (by first | exact Or.inl ⟨(by unfold fl_oF; omega), fl_fc_y lost (by omega) (by omega) lost lost (by omega)⟩ | exact Or.inl ⟨(by unfold fl_oF; omega), fl_fc_n lost (by omega) (by omega) rfl⟩ | exact Or.inr ⟨(by unfold fl_oF; omega), rfl⟩)⟩)
    · exfalso; omega

abbrev qX10_news (h : fz_H) (d hr : Int) : fz_H → Option fz_V → Prop := fun h' r0 => h' = h ∧ ∃ r : Int, r0 = some (fz_i r) ∧ ((-2147483648) ≤ r ∧ r ≤ 2147483647)
set_option maxHeartbeats 1000000 in
set_option maxRecDepth 100000 in
theorem sX10_news (h : fz_H) (hI : fz_Iv h) (d hr : Int) : fz_R 2 mX10_news 0 [(0, fz_r 0), (1, fz_i d), (2, fz_i hr)] [] h (qX10_news h d hr) := by
  refine fz_knowl (fun hk => ?_)
  have hr_d : -2147483648 ≤ d ∧ d < 2147483648 := hk _ (List.Mem.tail _ (List.Mem.head _))
  have hr_hr : -2147483648 ≤ hr ∧ hr < 2147483648 := hk _ (List.Mem.tail _ (List.Mem.tail _ (List.Mem.head _)))
  clear hk
  refine fz_aload_n kX10_news rfl rfl ?_
  refine fz_getR (t := 9) kX10_news rfl rfl ?_
  refine fz_iload_n kX10_news rfl rfl ?_
  have b1 : 0 ≤ h 9 5 ∧ h 9 5 ≤ 10 := hI.1 9 _
  refine fz_callV (d' := 0) (M' := mX4_isDeed) (As := [fz_i d]) (st := []) kX10_news rfl rfl vX4_isDeed rfl rfl rfl rfl (Nat.le_of_ble_eq_true rfl) (Nat.le_of_ble_eq_true rfl) (by decide) (sX4_isDeed h hI d ) (fun H2 r3 q4 o5 => ?_)
  obtain ⟨e6, y7, rfl, p8⟩ := q4
  subst H2
  clear o5
  rcases p8 with ⟨rfl, c9⟩ | ⟨rfl, c9⟩
  · refine fz_if_eq (tgt := 17) kX10_news rfl (by decide) (fun c10 => ?_) (fun c10 => ?_)
    · exfalso; omega
    · refine fz_iload_n kX10_news rfl rfl ?_
      refine fz_bipush ⟨by decide, by decide⟩ kX10_news rfl ?_
      refine fz_icmp_ge (tgt := 19) kX10_news rfl (by decide) (fun c11 => ?_) (fun c11 => ?_)
      · refine fz_iload_n kX10_news rfl rfl ?_
        refine fz_if_ge (tgt := 28) kX10_news rfl (by decide) (fun c12 => ?_) (fun c12 => ?_)
        · refine fz_iconst ⟨by decide, by decide⟩ kX10_news rfl ?_
          refine fz_istore_n (ls' := [(3, fz_i 0), (0, fz_r 0), (1, fz_i d), (2, fz_i hr)]) kX10_news rfl (by decide) rfl ?_
          refine fz_iconst ⟨by decide, by decide⟩ kX10_news rfl ?_
          refine fz_istore (ls' := [(4, fz_i 0), (3, fz_i 0), (0, fz_r 0), (1, fz_i d), (2, fz_i hr)]) kX10_news rfl (by decide) rfl ?_
          refine fz_iconst ⟨by decide, by decide⟩ kX10_news rfl ?_
          refine fz_istore (ls' := [(5, fz_i 0), (4, fz_i 0), (3, fz_i 0), (0, fz_r 0), (1, fz_i d), (2, fz_i hr)]) kX10_news rfl (by decide) rfl ?_
          have lp17 : ∀ (n16 : Nat) (x13 : Int) (x14 : Int) (x15 : Int), (0 ≤ x13 ∧ x13 ≤ 2147483647) → ((-2147483648) ≤ x14 ∧ x14 ≤ 2147483647) → ((-2147483648) ≤ x15 ∧ x15 ≤ 2147483647) → ((h 1 7) - x13).toNat < n16 → fz_R 2 mX10_news 36 [(5, fz_i x13), (4, fz_i x14), (3, fz_i x15), (0, fz_r 0), (1, fz_i d), (2, fz_i hr)] [] h (qX10_news h d hr) := by
            intro n16
            induction n16 with
            | zero => intro x13 x14 x15 hv20 hv21 hv22 hm19; exact absurd hm19 (by omega)
            | succ n16 ih18 =>
              intro x13 x14 x15 hv20 hv21 hv22 hm19
              refine fz_iload kX10_news rfl rfl ?_
              refine fz_aload_n kX10_news rfl rfl ?_
              refine fz_getR (t := 1) kX10_news rfl rfl ?_
              refine fz_getV (v := h 1 7) kX10_news rfl rfl rfl ?_
              have b23 : 0 ≤ h 1 7 ∧ h 1 7 ≤ 8 := hI.1 1 _
              refine fz_icmp_ge (tgt := 132) kX10_news rfl (by decide) (fun c24 => ?_) (fun c24 => ?_)
              · refine fz_iload_n kX10_news rfl rfl ?_
                exact fz_iret kX10_news rfl rfl (fun _ => ⟨rfl, _, rfl, (by omega)⟩)
              · refine fz_aload_n kX10_news rfl rfl ?_
                refine fz_getR (t := 27) kX10_news rfl rfl ?_
                refine fz_iload_n kX10_news rfl rfl ?_
                refine fz_iload kX10_news rfl rfl ?_
                refine fz_callV (d' := 1) (M' := mX8_hourHeard) (As := [fz_i d, fz_i x13]) (st := []) kX10_news rfl rfl vX8_hourHeard rfl rfl rfl rfl (Nat.le_of_ble_eq_true rfl) (Nat.le_of_ble_eq_true rfl) (by decide) (sX8_hourHeard h hI d x13 (by omega) (by omega)) (fun H25 r26 q27 o28 => ?_)
                obtain ⟨e29, y32, rfl, f30, f31⟩ := q27
                subst H25
                clear o28
                refine fz_istore (ls' := [(6, fz_i y32), (5, fz_i x13), (4, fz_i x14), (3, fz_i x15), (0, fz_r 0), (1, fz_i d), (2, fz_i hr)]) kX10_news rfl (by decide) rfl ?_
                refine fz_iload kX10_news rfl rfl ?_
                refine fz_if_lt (tgt := 86) kX10_news rfl (by decide) (fun c33 => ?_) (fun c33 => ?_)
                · refine fz_iload kX10_news rfl rfl ?_
                  refine fz_if_lt (tgt := 126) kX10_news rfl (by decide) (fun c34 => ?_) (fun c34 => ?_)
                  · refine fz_iincN (ls' := [(5, fz_i (x13 + 1)), (6, fz_i y32), (4, fz_i x14), (3, fz_i x15), (0, fz_r 0), (1, fz_i d), (2, fz_i hr)]) kX10_news rfl (by decide) rfl (by omega) rfl ?_
                    refine fz_goto (tgt := 36) kX10_news rfl (by decide) ?_
                    refine fz_sub (fz_pk_sub (ls' := [(5, fz_i (x13 + 1)), (4, fz_i x14), (3, fz_i x15), (0, fz_r 0), (1, fz_i d), (2, fz_i hr)]) [0, 2, 3, 4, 5, 6] rfl) ?_
                    exact ih18 (x13 + 1) x14 x15 (by omega) (by omega) (by omega) (by omega)
                  · exfalso; omega
                · refine fz_iload_n kX10_news rfl rfl ?_
                  refine fz_if_lt (tgt := 86) kX10_news rfl (by decide) (fun c35 => ?_) (fun c35 => ?_)
                  · exfalso; omega
                  · refine fz_iload_n kX10_news rfl rfl ?_
                    refine fz_iload kX10_news rfl rfl ?_
                    refine fz_iload_n kX10_news rfl rfl ?_
                    refine fz_icmp_gt (tgt := 80) kX10_news rfl (by decide) (fun c36 => ?_) (fun c36 => ?_)
                    · refine fz_iconst ⟨by decide, by decide⟩ kX10_news rfl ?_
                      refine fz_iaddN kX10_news rfl (by omega) ?_
                      refine fz_istore_n (ls' := [(3, fz_i (x15 + 0)), (6, fz_i y32), (5, fz_i x13), (4, fz_i x14), (0, fz_r 0), (1, fz_i d), (2, fz_i hr)]) kX10_news rfl (by decide) rfl ?_
                      refine fz_goto (tgt := 126) kX10_news rfl (by decide) ?_
                      refine fz_iincN (ls' := [(5, fz_i (x13 + 1)), (3, fz_i (x15 + 0)), (6, fz_i y32), (4, fz_i x14), (0, fz_r 0), (1, fz_i d), (2, fz_i hr)]) kX10_news rfl (by decide) rfl (by omega) rfl ?_
                      refine fz_goto (tgt := 36) kX10_news rfl (by decide) ?_
                      refine fz_sub (fz_pk_sub (ls' := [(5, fz_i (x13 + 1)), (4, fz_i x14), (3, fz_i (x15 + 0)), (0, fz_r 0), (1, fz_i d), (2, fz_i hr)]) [0, 3, 1, 4, 5, 6] rfl) ?_
                      exact ih18 (x13 + 1) x14 (x15 + 0) (by omega) (by omega) (by omega) (by omega)
                    · refine fz_iconst ⟨by decide, by decide⟩ kX10_news rfl ?_
                      refine fz_goto (tgt := 81) kX10_news rfl (by decide) ?_
                      refine fz_iadd kX10_news rfl ?_
                      refine fz_nmw (fun z37 e38 => ?_)
                      refine fz_istore_n (ls' := [(3, fz_i z37), (6, fz_i y32), (5, fz_i x13), (4, fz_i x14), (0, fz_r 0), (1, fz_i d), (2, fz_i hr)]) kX10_news rfl (by decide) rfl ?_
                      refine fz_goto (tgt := 126) kX10_news rfl (by decide) ?_
                      refine fz_iincN (ls' := [(5, fz_i (x13 + 1)), (3, fz_i z37), (6, fz_i y32), (4, fz_i x14), (0, fz_r 0), (1, fz_i d), (2, fz_i hr)]) kX10_news rfl (by decide) rfl (by omega) rfl ?_
                      refine fz_goto (tgt := 36) kX10_news rfl (by decide) ?_
                      refine fz_sub (fz_pk_sub (ls' := [(5, fz_i (x13 + 1)), (4, fz_i x14), (3, fz_i z37), (0, fz_r 0), (1, fz_i d), (2, fz_i hr)]) [0, 3, 1, 4, 5, 6] rfl) ?_
                      exact ih18 (x13 + 1) x14 z37 (by omega) (by omega) (by omega) (by omega)
          exact lp17 _ 0 0 0 (by omega) (by omega) (by omega) (Nat.lt_succ_self _)
        · refine fz_bipush ⟨by decide, by decide⟩ kX10_news rfl ?_
          refine fz_goto (tgt := 29) kX10_news rfl (by decide) ?_
          refine fz_istore_n (ls' := [(3, fz_i (-2)), (0, fz_r 0), (1, fz_i d), (2, fz_i hr)]) kX10_news rfl (by decide) rfl ?_
          refine fz_iconst ⟨by decide, by decide⟩ kX10_news rfl ?_
          refine fz_istore (ls' := [(4, fz_i 0), (3, fz_i (-2)), (0, fz_r 0), (1, fz_i d), (2, fz_i hr)]) kX10_news rfl (by decide) rfl ?_
          refine fz_iconst ⟨by decide, by decide⟩ kX10_news rfl ?_
          refine fz_istore (ls' := [(5, fz_i 0), (4, fz_i 0), (3, fz_i (-2)), (0, fz_r 0), (1, fz_i d), (2, fz_i hr)]) kX10_news rfl (by decide) rfl ?_
          have lp43 : ∀ (n42 : Nat) (x39 : Int) (x40 : Int) (x41 : Int), (0 ≤ x39 ∧ x39 ≤ 2147483647) → ((-2147483648) ≤ x40 ∧ x40 ≤ 2147483647) → ((-2147483648) ≤ x41 ∧ x41 ≤ 2147483647) → ((h 1 7) - x39).toNat < n42 → fz_R 2 mX10_news 36 [(5, fz_i x39), (4, fz_i x40), (3, fz_i x41), (0, fz_r 0), (1, fz_i d), (2, fz_i hr)] [] h (qX10_news h d hr) := by
            intro n42
            induction n42 with
            | zero => intro x39 x40 x41 hv46 hv47 hv48 hm45; exact absurd hm45 (by omega)
            | succ n42 ih44 =>
              intro x39 x40 x41 hv46 hv47 hv48 hm45
              refine fz_iload kX10_news rfl rfl ?_
              refine fz_aload_n kX10_news rfl rfl ?_
              refine fz_getR (t := 1) kX10_news rfl rfl ?_
              refine fz_getV (v := h 1 7) kX10_news rfl rfl rfl ?_
              have b49 : 0 ≤ h 1 7 ∧ h 1 7 ≤ 8 := hI.1 1 _
              refine fz_icmp_ge (tgt := 132) kX10_news rfl (by decide) (fun c50 => ?_) (fun c50 => ?_)
              · refine fz_iload_n kX10_news rfl rfl ?_
                exact fz_iret kX10_news rfl rfl (fun _ => ⟨rfl, _, rfl, (by omega)⟩)
              · refine fz_aload_n kX10_news rfl rfl ?_
                refine fz_getR (t := 27) kX10_news rfl rfl ?_
                refine fz_iload_n kX10_news rfl rfl ?_
                refine fz_iload kX10_news rfl rfl ?_
                refine fz_callV (d' := 1) (M' := mX8_hourHeard) (As := [fz_i d, fz_i x39]) (st := []) kX10_news rfl rfl vX8_hourHeard rfl rfl rfl rfl (Nat.le_of_ble_eq_true rfl) (Nat.le_of_ble_eq_true rfl) (by decide) (sX8_hourHeard h hI d x39 (by omega) (by omega)) (fun H51 r52 q53 o54 => ?_)
                obtain ⟨e55, y58, rfl, f56, f57⟩ := q53
                subst H51
                clear o54
                refine fz_istore (ls' := [(6, fz_i y58), (5, fz_i x39), (4, fz_i x40), (3, fz_i x41), (0, fz_r 0), (1, fz_i d), (2, fz_i hr)]) kX10_news rfl (by decide) rfl ?_
                refine fz_iload kX10_news rfl rfl ?_
                refine fz_if_lt (tgt := 86) kX10_news rfl (by decide) (fun c59 => ?_) (fun c59 => ?_)
                · refine fz_iload kX10_news rfl rfl ?_
                  refine fz_if_lt (tgt := 126) kX10_news rfl (by decide) (fun c60 => ?_) (fun c60 => ?_)
                  · refine fz_iincN (ls' := [(5, fz_i (x39 + 1)), (6, fz_i y58), (4, fz_i x40), (3, fz_i x41), (0, fz_r 0), (1, fz_i d), (2, fz_i hr)]) kX10_news rfl (by decide) rfl (by omega) rfl ?_
                    refine fz_goto (tgt := 36) kX10_news rfl (by decide) ?_
                    refine fz_sub (fz_pk_sub (ls' := [(5, fz_i (x39 + 1)), (4, fz_i x40), (3, fz_i x41), (0, fz_r 0), (1, fz_i d), (2, fz_i hr)]) [0, 2, 3, 4, 5, 6] rfl) ?_
                    exact ih44 (x39 + 1) x40 x41 (by omega) (by omega) (by omega) (by omega)
                  · exfalso; omega
                · refine fz_iload_n kX10_news rfl rfl ?_
                  refine fz_if_lt (tgt := 86) kX10_news rfl (by decide) (fun c61 => ?_) (fun c61 => ?_)
                  · refine fz_iload kX10_news rfl rfl ?_
                    refine fz_if_lt (tgt := 126) kX10_news rfl (by decide) (fun c62 => ?_) (fun c62 => ?_)
                    · exfalso; omega
                    · refine fz_iload_n kX10_news rfl rfl ?_
                      refine fz_bipush ⟨by decide, by decide⟩ kX10_news rfl ?_
                      refine fz_icmp_eq (tgt := 119) kX10_news rfl (by decide) (fun c63 => ?_) (fun c63 => ?_)
                      · refine fz_iload kX10_news rfl rfl ?_
                        refine fz_istore_n (ls' := [(3, fz_i x39), (6, fz_i y58), (5, fz_i x39), (4, fz_i x40), (0, fz_r 0), (1, fz_i d), (2, fz_i hr)]) kX10_news rfl (by decide) rfl ?_
                        refine fz_iload kX10_news rfl rfl ?_
                        refine fz_istore (ls' := [(4, fz_i y58), (3, fz_i x39), (6, fz_i y58), (5, fz_i x39), (0, fz_r 0), (1, fz_i d), (2, fz_i hr)]) kX10_news rfl (by decide) rfl ?_
                        refine fz_iincN (ls' := [(5, fz_i (x39 + 1)), (4, fz_i y58), (3, fz_i x39), (6, fz_i y58), (0, fz_r 0), (1, fz_i d), (2, fz_i hr)]) kX10_news rfl (by decide) rfl (by omega) rfl ?_
                        refine fz_goto (tgt := 36) kX10_news rfl (by decide) ?_
                        refine fz_sub (fz_pk_sub (ls' := [(5, fz_i (x39 + 1)), (4, fz_i y58), (3, fz_i x39), (0, fz_r 0), (1, fz_i d), (2, fz_i hr)]) [0, 1, 2, 4, 5, 6] rfl) ?_
                        exact ih44 (x39 + 1) y58 x39 (by omega) (by omega) (by omega) (by omega)
                      · refine fz_iload_n kX10_news rfl rfl ?_
                        refine fz_iconst ⟨by decide, by decide⟩ kX10_news rfl ?_
                        refine fz_icmp_ne (tgt := 112) kX10_news rfl (by decide) (fun c64 => ?_) (fun c64 => ?_)
                        · refine fz_iload kX10_news rfl rfl ?_
                          refine fz_iload kX10_news rfl rfl ?_
                          refine fz_icmp_ge (tgt := 126) kX10_news rfl (by decide) (fun c65 => ?_) (fun c65 => ?_)
                          · refine fz_iincN (ls' := [(5, fz_i (x39 + 1)), (6, fz_i y58), (4, fz_i x40), (3, fz_i x41), (0, fz_r 0), (1, fz_i d), (2, fz_i hr)]) kX10_news rfl (by decide) rfl (by omega) rfl ?_
                            refine fz_goto (tgt := 36) kX10_news rfl (by decide) ?_
                            refine fz_sub (fz_pk_sub (ls' := [(5, fz_i (x39 + 1)), (4, fz_i x40), (3, fz_i x41), (0, fz_r 0), (1, fz_i d), (2, fz_i hr)]) [0, 2, 3, 4, 5, 6] rfl) ?_
                            exact ih44 (x39 + 1) x40 x41 (by omega) (by omega) (by omega) (by omega)
                          · refine fz_iload kX10_news rfl rfl ?_
                            refine fz_istore_n (ls' := [(3, fz_i x39), (6, fz_i y58), (5, fz_i x39), (4, fz_i x40), (0, fz_r 0), (1, fz_i d), (2, fz_i hr)]) kX10_news rfl (by decide) rfl ?_
                            refine fz_iload kX10_news rfl rfl ?_
                            refine fz_istore (ls' := [(4, fz_i y58), (3, fz_i x39), (6, fz_i y58), (5, fz_i x39), (0, fz_r 0), (1, fz_i d), (2, fz_i hr)]) kX10_news rfl (by decide) rfl ?_
                            refine fz_iincN (ls' := [(5, fz_i (x39 + 1)), (4, fz_i y58), (3, fz_i x39), (6, fz_i y58), (0, fz_r 0), (1, fz_i d), (2, fz_i hr)]) kX10_news rfl (by decide) rfl (by omega) rfl ?_
                            refine fz_goto (tgt := 36) kX10_news rfl (by decide) ?_
                            refine fz_sub (fz_pk_sub (ls' := [(5, fz_i (x39 + 1)), (4, fz_i y58), (3, fz_i x39), (0, fz_r 0), (1, fz_i d), (2, fz_i hr)]) [0, 1, 2, 4, 5, 6] rfl) ?_
                            exact ih44 (x39 + 1) y58 x39 (by omega) (by omega) (by omega) (by omega)
                        · refine fz_iload kX10_news rfl rfl ?_
                          refine fz_iload kX10_news rfl rfl ?_
                          refine fz_icmp_le (tgt := 126) kX10_news rfl (by decide) (fun c66 => ?_) (fun c66 => ?_)
                          · refine fz_iincN (ls' := [(5, fz_i (x39 + 1)), (6, fz_i y58), (4, fz_i x40), (3, fz_i x41), (0, fz_r 0), (1, fz_i d), (2, fz_i hr)]) kX10_news rfl (by decide) rfl (by omega) rfl ?_
                            refine fz_goto (tgt := 36) kX10_news rfl (by decide) ?_
                            refine fz_sub (fz_pk_sub (ls' := [(5, fz_i (x39 + 1)), (4, fz_i x40), (3, fz_i x41), (0, fz_r 0), (1, fz_i d), (2, fz_i hr)]) [0, 2, 3, 4, 5, 6] rfl) ?_
                            exact ih44 (x39 + 1) x40 x41 (by omega) (by omega) (by omega) (by omega)
                          · refine fz_goto (tgt := 119) kX10_news rfl (by decide) ?_
                            refine fz_iload kX10_news rfl rfl ?_
                            refine fz_istore_n (ls' := [(3, fz_i x39), (6, fz_i y58), (5, fz_i x39), (4, fz_i x40), (0, fz_r 0), (1, fz_i d), (2, fz_i hr)]) kX10_news rfl (by decide) rfl ?_
                            refine fz_iload kX10_news rfl rfl ?_
                            refine fz_istore (ls' := [(4, fz_i y58), (3, fz_i x39), (6, fz_i y58), (5, fz_i x39), (0, fz_r 0), (1, fz_i d), (2, fz_i hr)]) kX10_news rfl (by decide) rfl ?_
                            refine fz_iincN (ls' := [(5, fz_i (x39 + 1)), (4, fz_i y58), (3, fz_i x39), (6, fz_i y58), (0, fz_r 0), (1, fz_i d), (2, fz_i hr)]) kX10_news rfl (by decide) rfl (by omega) rfl ?_
                            refine fz_goto (tgt := 36) kX10_news rfl (by decide) ?_
                            refine fz_sub (fz_pk_sub (ls' := [(5, fz_i (x39 + 1)), (4, fz_i y58), (3, fz_i x39), (0, fz_r 0), (1, fz_i d), (2, fz_i hr)]) [0, 1, 2, 4, 5, 6] rfl) ?_
                            exact ih44 (x39 + 1) y58 x39 (by omega) (by omega) (by omega) (by omega)
                  · exfalso; omega
          exact lp43 _ 0 0 (-2) (by omega) (by omega) (by omega) (Nat.lt_succ_self _)
      · refine fz_iconst ⟨by decide, by decide⟩ kX10_news rfl ?_
        exact fz_iret kX10_news rfl rfl (fun _ => ⟨rfl, _, rfl, (by omega)⟩)
  · refine fz_if_eq (tgt := 17) kX10_news rfl (by decide) (fun c67 => ?_) (fun c67 => ?_)
    · refine fz_iconst ⟨by decide, by decide⟩ kX10_news rfl ?_
      exact fz_iret kX10_news rfl rfl (fun _ => ⟨rfl, _, rfl, (by omega)⟩)
    · exfalso; omega

abbrev qX10_commonDivisor (h : fz_H) (a b : Int) : fz_H → Option fz_V → Prop := fun h' r0 => h' = h ∧ ∃ r : Int, r0 = some (fz_l r) ∧ ((-9223372036854775808) ≤ r ∧ r ≤ 9223372036854775807) ∧ (r = fl_gq 200 a b)
set_option maxHeartbeats 1000000 in
set_option maxRecDepth 100000 in
theorem sX10_commonDivisor (h : fz_H) (hI : fz_Iv h) (a b : Int) : fz_R 0 mX10_commonDivisor 0 [(0, fz_l a), (2, fz_l b)] [] h (qX10_commonDivisor h a b) := by
  refine fz_knowl (fun hk => ?_)
  have hr_a : -9223372036854775808 ≤ a ∧ a < 9223372036854775808 := hk _ (List.Mem.head _)
  have hr_b : -9223372036854775808 ≤ b ∧ b < 9223372036854775808 := hk _ (List.Mem.tail _ (List.Mem.head _))
  clear hk
  refine fz_lload_n kX10_commonDivisor rfl rfl ?_
  refine fz_lstore (ls' := [(4, fz_l a), (0, fz_l a), (2, fz_l b)]) kX10_commonDivisor rfl (by decide) rfl ?_
  refine fz_lload_n kX10_commonDivisor rfl rfl ?_
  refine fz_lstore (ls' := [(6, fz_l b), (4, fz_l a), (0, fz_l a), (2, fz_l b)]) kX10_commonDivisor rfl (by decide) rfl ?_
  refine fz_iconst ⟨by decide, by decide⟩ kX10_commonDivisor rfl ?_
  refine fz_istore (ls' := [(8, fz_i 0), (6, fz_l b), (4, fz_l a), (0, fz_l a), (2, fz_l b)]) kX10_commonDivisor rfl (by decide) rfl ?_
  have lp5 : ∀ (n4 : Nat) (x1 : Int) (x2 : Int) (x3 : Int), (0 ≤ x1 ∧ x1 ≤ 200) → ((-9223372036854775808) ≤ x2 ∧ x2 ≤ 9223372036854775807) → ((-9223372036854775808) ≤ x3 ∧ x3 ≤ 9223372036854775807) → (fl_gq (200 - x1).toNat x3 x2 = fl_gq 200 a b) → (200 - x1).toNat < n4 → fz_R 0 mX10_commonDivisor 9 [(8, fz_i x1), (6, fz_l x2), (4, fz_l x3), (0, fz_l a), (2, fz_l b)] [] h (qX10_commonDivisor h a b) := by
    intro n4
    induction n4 with
    | zero => intro x1 x2 x3 hv8 hv9 hv10 hv11 hm7; exact absurd hm7 (by omega)
    | succ n4 ih6 =>
      intro x1 x2 x3 hv8 hv9 hv10 hv11 hm7
      refine fz_iload kX10_commonDivisor rfl rfl ?_
      refine fz_sipush ⟨by decide, by decide⟩ kX10_commonDivisor rfl ?_
      refine fz_icmp_ge (tgt := 45) kX10_commonDivisor rfl (by decide) (fun c12 => ?_) (fun c12 => ?_)
      · refine fz_lload kX10_commonDivisor rfl rfl ?_
        exact fz_lret kX10_commonDivisor rfl rfl (fun _ => ⟨rfl, _, rfl, (by omega), (by exact fl_gq_e hv11 (by omega) (by omega))⟩)
      · refine fz_lload kX10_commonDivisor rfl rfl ?_
        refine fz_lconst (x := 0) ⟨by decide, by decide⟩ rfl kX10_commonDivisor rfl ?_
        refine fz_lcmp kX10_commonDivisor rfl ?_
        have b14 := fz_cmp_c x2 0
        refine fz_if_eq (tgt := 45) kX10_commonDivisor rfl (by decide) (fun c15 => ?_) (fun c15 => ?_)
        · refine fz_lload kX10_commonDivisor rfl rfl ?_
          exact fz_lret kX10_commonDivisor rfl rfl (fun _ => ⟨rfl, _, rfl, (by omega), (by exact fl_gq_e hv11 (by omega) (by omega))⟩)
        · refine fz_lload kX10_commonDivisor rfl rfl ?_
          refine fz_lload kX10_commonDivisor rfl rfl ?_
          refine fz_lrem (by omega) kX10_commonDivisor rfl ?_
          have b17 := fz_wl_b (Int.tmod x3 x2)
          have b18 := fl_tmod_b (x := x3) (y := x2) (by omega) (by omega) (by omega)
          refine fz_lstore (ls' := [(9, fz_l (fz_wl (Int.tmod x3 x2))), (8, fz_i x1), (6, fz_l x2), (4, fz_l x3), (0, fz_l a), (2, fz_l b)]) kX10_commonDivisor rfl (by decide) rfl ?_
          refine fz_lload kX10_commonDivisor rfl rfl ?_
          refine fz_lstore (ls' := [(4, fz_l x2), (9, fz_l (fz_wl (Int.tmod x3 x2))), (8, fz_i x1), (6, fz_l x2), (0, fz_l a), (2, fz_l b)]) kX10_commonDivisor rfl (by decide) rfl ?_
          refine fz_lload kX10_commonDivisor rfl rfl ?_
          refine fz_lstore (ls' := [(6, fz_l (fz_wl (Int.tmod x3 x2))), (4, fz_l x2), (9, fz_l (fz_wl (Int.tmod x3 x2))), (8, fz_i x1), (0, fz_l a), (2, fz_l b)]) kX10_commonDivisor rfl (by decide) rfl ?_
          refine fz_iincN (ls' := [(8, fz_i (x1 + 1)), (6, fz_l (fz_wl (Int.tmod x3 x2))), (4, fz_l x2), (9, fz_l (fz_wl (Int.tmod x3 x2))), (0, fz_l a), (2, fz_l b)]) kX10_commonDivisor rfl (by decide) rfl (by omega) rfl ?_
          refine fz_goto (tgt := 9) kX10_commonDivisor rfl (by decide) ?_
          refine fz_sub (fz_pk_sub (ls' := [(8, fz_i (x1 + 1)), (6, fz_l (fz_wl (Int.tmod x3 x2))), (4, fz_l x2), (0, fz_l a), (2, fz_l b)]) [0, 1, 2, 4, 5] rfl) ?_
          exact ih6 (x1 + 1) (fz_wl (Int.tmod x3 x2)) x2 (by omega) (by omega) (by omega) (fl_gq_s hv11 ⟨by omega, by omega⟩ (by omega)) (by omega)
  exact lp5 _ 0 b a (by omega) (by omega) (by omega) (rfl) (Nat.lt_succ_self _)

abbrev qX10_garbled (h : fz_H) (d t pt : Int) : fz_H → Option fz_V → Prop := fun h' r0 => fz_Iv h' ∧ fz_fr [(32, 99999)] h h' ∧ ∃ r : Int, r0 = some (fz_l r) ∧ ((-9223372036854775808) ≤ r ∧ r ≤ 9223372036854775807) ∧ (fl_gbC h d t pt r)
set_option maxHeartbeats 1000000 in
set_option maxRecDepth 100000 in
theorem sX10_garbled (h : fz_H) (hI : fz_Iv h) (d t pt : Int) : fz_R 2 mX10_garbled 0 [(0, fz_r 0), (1, fz_i d), (2, fz_i t), (3, fz_i pt)] [] h (qX10_garbled h d t pt) := by
  refine fz_knowl (fun hk => ?_)
  have hr_d : -2147483648 ≤ d ∧ d < 2147483648 := hk _ (List.Mem.tail _ (List.Mem.head _))
  have hr_t : -2147483648 ≤ t ∧ t < 2147483648 := hk _ (List.Mem.tail _ (List.Mem.tail _ (List.Mem.head _)))
  have hr_pt : -2147483648 ≤ pt ∧ pt < 2147483648 := hk _ (List.Mem.tail _ (List.Mem.tail _ (List.Mem.tail _ (List.Mem.head _))))
  clear hk
  have hf : fz_fr [(32, 99999)] h h := fz_fr_rf
  refine fz_aload_n kX10_garbled rfl rfl ?_
  refine fz_getR (t := 9) kX10_garbled rfl rfl ?_
  refine fz_iload_n kX10_garbled rfl rfl ?_
  have b1 : 0 ≤ h 9 5 ∧ h 9 5 ≤ 10 := hI.1 9 _
  refine fz_callV (d' := 0) (M' := mX4_isDeed) (As := [fz_i d]) (st := []) kX10_garbled rfl rfl vX4_isDeed rfl rfl rfl rfl (Nat.le_of_ble_eq_true rfl) (Nat.le_of_ble_eq_true rfl) (by decide) (sX4_isDeed h hI d ) (fun H2 r3 q4 o5 => ?_)
  obtain ⟨e6, y7, rfl, p8⟩ := q4
  subst H2
  clear o5
  rcases p8 with ⟨rfl, c9⟩ | ⟨rfl, c9⟩
  · refine fz_if_eq (tgt := 31) kX10_garbled rfl (by decide) (fun c10 => ?_) (fun c10 => ?_)
    · exfalso; omega
    · refine fz_aload_n kX10_garbled rfl rfl ?_
      refine fz_getR (t := 1) kX10_garbled rfl rfl ?_
      refine fz_iload_n kX10_garbled rfl rfl ?_
      have b11 : 0 ≤ h 1 7 ∧ h 1 7 ≤ 8 := hI.1 1 _
      refine fz_callV (d' := 0) (M' := mX2_isTown) (As := [fz_i t]) (st := []) kX10_garbled rfl rfl vX2_isTown rfl rfl rfl rfl (Nat.le_of_ble_eq_true rfl) (Nat.le_of_ble_eq_true rfl) (by decide) (sX2_isTown h hI t ) (fun H12 r13 q14 o15 => ?_)
      obtain ⟨e16, y17, rfl, p18⟩ := q14
      subst H12
      clear o15
      rcases p18 with ⟨rfl, c19⟩ | ⟨rfl, c19⟩
      · refine fz_if_eq (tgt := 31) kX10_garbled rfl (by decide) (fun c20 => ?_) (fun c20 => ?_)
        · exfalso; omega
        · refine fz_iload_n kX10_garbled rfl rfl ?_
          refine fz_if_lt (tgt := 31) kX10_garbled rfl (by decide) (fun c21 => ?_) (fun c21 => ?_)
          · refine fz_ldc2 (x := (-9223372036854775808)) kX10_garbled rfl rfl rfl ?_
            exact fz_lret kX10_garbled rfl rfl (fun _ => ⟨hI, hf, _, rfl, (by omega), (by first | exact Or.inl ⟨(by unfold fl_oG; omega), rfl⟩ | exact Or.inr (Or.inl ⟨(by unfold fl_oG; omega), by rw [← lost]; omega, rfl⟩) | exact Or.inr (Or.inr ⟨(by unfold fl_oG; omega), by rw [← lost]; omega, by rw [← lost]; exact fl_ga_0 lost lost lost (by omega)⟩) | exact Or.inr (Or.inr ⟨(by unfold fl_oG; omega), by rw [← lost]; omega, by rw [← lost]; exact fl_ga_1 lost lost lost (by omega) (Or.inl ⟨by omega, rfl⟩) rfl⟩) | exact Or.inr (Or.inr ⟨(by unfold fl_oG; omega), by rw [← lost]; omega, by rw [← lost]; exact fl_ga_1 lost lost lost (by omega) (Or.inr ⟨by omega, rfl⟩) rfl⟩))⟩)
          · refine fz_iload_n kX10_garbled rfl rfl ?_
            refine fz_iconst ⟨by decide, by decide⟩ kX10_garbled rfl ?_
            refine fz_icmp_le (tgt := 35) kX10_garbled rfl (by decide) (fun c23 => ?_) (fun c23 => ?_)
            · refine fz_aload_n kX10_garbled rfl rfl ?_
              refine fz_getR (t := 1) kX10_garbled rfl rfl ?_
              refine fz_aload_n kX10_garbled rfl rfl ?_
              refine fz_getR (t := 9) kX10_garbled rfl rfl ?_
              refine fz_getR (t := 11) kX10_garbled rfl rfl ?_
              refine fz_iload_n kX10_garbled rfl rfl ?_
              refine fz_ialdV (n := 11) (v := h 11 (d.toNat)) kX10_garbled rfl rfl (by omega) (by omega) rfl ?_
              have b24 : 0 ≤ h 11 (d.toNat) ∧ h 11 (d.toNat) ≤ 7 := hI.1 11 _
              refine fz_iload_n kX10_garbled rfl rfl ?_
              refine fz_callV (d' := 0) (M' := mX2_roadsByCarters) (As := [fz_i (h 11 (d.toNat)), fz_i t]) (st := []) kX10_garbled rfl rfl vX2_roadsByCarters rfl rfl rfl rfl (Nat.le_of_ble_eq_true rfl) (Nat.le_of_ble_eq_true rfl) (by decide) (sX2_roadsByCarters h hI (h 11 (d.toNat)) t (by omega) (by omega)) (fun H25 r26 q27 o28 => ?_)
              obtain ⟨e29, y32, rfl, f30, f31⟩ := q27
              subst H25
              clear o28
              refine fz_istore (ls' := [(4, fz_i y32), (0, fz_r 0), (1, fz_i d), (2, fz_i t), (3, fz_i pt)]) kX10_garbled rfl (by decide) rfl ?_
              refine fz_iload kX10_garbled rfl rfl ?_
              refine fz_if_ge (tgt := 62) kX10_garbled rfl (by decide) (fun c33 => ?_) (fun c33 => ?_)
              · refine fz_aload_n kX10_garbled rfl rfl ?_
                refine fz_getR (t := 27) kX10_garbled rfl rfl ?_
                refine fz_iload kX10_garbled rfl rfl ?_
                have b34 : 0 ≤ h 27 9 ∧ h 27 9 ≤ 12 := hI.1 27 _
                refine fz_callV (d' := 1) (M' := mX8_chancesUnchanged) (As := [fz_i y32]) (st := []) kX10_garbled rfl rfl vX8_chancesUnchanged rfl rfl rfl rfl (Nat.le_of_ble_eq_true rfl) (Nat.le_of_ble_eq_true rfl) (by decide) (sX8_chancesUnchanged h hI y32 (by omega)) (fun H35 r36 q37 o38 => ?_)
                obtain ⟨hI39, hf40, y43, rfl, f41, f42⟩ := q37
                clear o38
                have hf44 := fz_fr_tr hf hf40 (show fz_su [(32, 99999)] [(32, 99999)] = true from rfl)
                refine fz_lstore (ls' := [(5, fz_l y43), (4, fz_i y32), (0, fz_r 0), (1, fz_i d), (2, fz_i t), (3, fz_i pt)]) kX10_garbled rfl (by decide) rfl ?_
                refine fz_lconst (x := 1) ⟨by decide, by decide⟩ rfl kX10_garbled rfl ?_
                refine fz_lstore (ls' := [(7, fz_l 1), (5, fz_l y43), (4, fz_i y32), (0, fz_r 0), (1, fz_i d), (2, fz_i t), (3, fz_i pt)]) kX10_garbled rfl (by decide) rfl ?_
                refine fz_iconst ⟨by decide, by decide⟩ kX10_garbled rfl ?_
                refine fz_istore (ls' := [(9, fz_i 0), (7, fz_l 1), (5, fz_l y43), (4, fz_i y32), (0, fz_r 0), (1, fz_i d), (2, fz_i t), (3, fz_i pt)]) kX10_garbled rfl (by decide) rfl ?_
                have lp48 : ∀ (n47 : Nat) (x45 : Int) (x46 : Int), (0 ≤ x45 ∧ x45 ≤ 2147483647) → ((-9223372036854775808) ≤ x46 ∧ x46 ≤ 9223372036854775807) → (x45 ≤ y32) → (x46 = fl_p12 (x45).toNat) → (y32 - x45).toNat < n47 → fz_R 2 mX10_garbled 79 [(9, fz_i x45), (7, fz_l x46), (5, fz_l y43), (4, fz_i y32), (0, fz_r 0), (1, fz_i d), (2, fz_i t), (3, fz_i pt)] [] H35 (qX10_garbled h d t pt) := by
                  intro n47
                  induction n47 with
                  | zero => intro x45 x46 hv51 hv52 hv53 hv54 hm50; exact absurd hm50 (by omega)
                  | succ n47 ih49 =>
                    intro x45 x46 hv51 hv52 hv53 hv54 hm50
                    refine fz_iload kX10_garbled rfl rfl ?_
                    refine fz_iload kX10_garbled rfl rfl ?_
                    refine fz_icmp_ge (tgt := 100) kX10_garbled rfl (by decide) (fun c55 => ?_) (fun c55 => ?_)
                    · have k56 : x46 = fl_p12 (y32).toNat := hv54.trans (congrArg (fun z : Int => fl_p12 z.toNat) (by omega))
                      refine fz_lload kX10_garbled rfl rfl ?_
                      refine fz_lload kX10_garbled rfl rfl ?_
                      refine fz_callS (d' := 0) (M' := mX10_commonDivisor) (As := [fz_l x46, fz_l y43]) (st := []) kX10_garbled rfl rfl vX10_commonDivisor rfl rfl (Nat.le_of_ble_eq_true rfl) (Nat.le_of_ble_eq_true rfl) (by decide) (sX10_commonDivisor H35 hI39 x46 y43 ) (fun H58 r59 q60 o61 => ?_)
                      obtain ⟨e62, y65, rfl, f63, f64⟩ := q60
                      subst H58
                      clear o61
                      refine fz_lstore (ls' := [(9, fz_l y65), (7, fz_l x46), (5, fz_l y43), (4, fz_i y32), (0, fz_r 0), (1, fz_i d), (2, fz_i t), (3, fz_i pt)]) kX10_garbled rfl (by decide) rfl ?_
                      refine fz_lload kX10_garbled rfl rfl ?_
                      refine fz_lconst (x := 0) ⟨by decide, by decide⟩ rfl kX10_garbled rfl ?_
                      refine fz_lcmp kX10_garbled rfl ?_
                      have b66 := fz_cmp_c y65 0
                      refine fz_if_gt (tgt := 119) kX10_garbled rfl (by decide) (fun c67 => ?_) (fun c67 => ?_)
                      · refine fz_iload_n kX10_garbled rfl rfl ?_
                        refine fz_if_ne (tgt := 128) kX10_garbled rfl (by decide) (fun c68 => ?_) (fun c68 => ?_)
                        · refine fz_lload kX10_garbled rfl rfl ?_
                          refine fz_lload kX10_garbled rfl rfl ?_
                          refine fz_ldiv (by omega) kX10_garbled rfl ?_
                          have b69 := fz_wl_b (Int.tdiv x46 y65)
                          exact fz_lret kX10_garbled rfl rfl (fun _ => ⟨hI39, hf44, _, rfl, (by omega), (by first | exact Or.inl ⟨(by unfold fl_oG; omega), rfl⟩ | exact Or.inr (Or.inl ⟨(by unfold fl_oG; omega), by rw [← f31]; omega, rfl⟩) | exact Or.inr (Or.inr ⟨(by unfold fl_oG; omega), by rw [← f31]; omega, by rw [← f31]; exact fl_ga_0 f42 k56 f64 (by omega)⟩) | exact Or.inr (Or.inr ⟨(by unfold fl_oG; omega), by rw [← f31]; omega, by rw [← f31]; exact fl_ga_1 f42 k56 f64 (by omega) (Or.inl ⟨by omega, rfl⟩) rfl⟩) | exact Or.inr (Or.inr ⟨(by unfold fl_oG; omega), by rw [← f31]; omega, by rw [← f31]; exact fl_ga_1 f42 k56 f64 (by omega) (Or.inr ⟨by omega, rfl⟩) rfl⟩))⟩)
                        · refine fz_lload kX10_garbled rfl rfl ?_
                          refine fz_goto (tgt := 130) kX10_garbled rfl (by decide) ?_
                          refine fz_lload kX10_garbled rfl rfl ?_
                          refine fz_ldiv (by omega) kX10_garbled rfl ?_
                          have b71 := fz_wl_b (Int.tdiv y43 y65)
                          exact fz_lret kX10_garbled rfl rfl (fun _ => ⟨hI39, hf44, _, rfl, (by omega), (by first | exact Or.inl ⟨(by unfold fl_oG; omega), rfl⟩ | exact Or.inr (Or.inl ⟨(by unfold fl_oG; omega), by rw [← f31]; omega, rfl⟩) | exact Or.inr (Or.inr ⟨(by unfold fl_oG; omega), by rw [← f31]; omega, by rw [← f31]; exact fl_ga_0 f42 k56 f64 (by omega)⟩) | exact Or.inr (Or.inr ⟨(by unfold fl_oG; omega), by rw [← f31]; omega, by rw [← f31]; exact fl_ga_1 f42 k56 f64 (by omega) (Or.inl ⟨by omega, rfl⟩) rfl⟩) | exact Or.inr (Or.inr ⟨(by unfold fl_oG; omega), by rw [← f31]; omega, by rw [← f31]; exact fl_ga_1 f42 k56 f64 (by omega) (Or.inr ⟨by omega, rfl⟩) rfl⟩))⟩)
                      · refine fz_iload_n kX10_garbled rfl rfl ?_
                        refine fz_i2l kX10_garbled rfl ?_
                        exact fz_lret kX10_garbled rfl rfl (fun _ => ⟨hI39, hf44, _, rfl, (by omega), (by first | exact Or.inl ⟨(by unfold fl_oG; omega), rfl⟩ | exact Or.inr (Or.inl ⟨(by unfold fl_oG; omega), by rw [← f31]; omega, rfl⟩) | exact Or.inr (Or.inr ⟨(by unfold fl_oG; omega), by rw [← f31]; omega, by rw [← f31]; exact fl_ga_0 f42 k56 f64 (by omega)⟩) | exact Or.inr (Or.inr ⟨(by unfold fl_oG; omega), by rw [← f31]; omega, by rw [← f31]; exact fl_ga_1 f42 k56 f64 (by omega) (Or.inl ⟨by omega, rfl⟩) rfl⟩) | exact Or.inr (Or.inr ⟨(by unfold fl_oG; omega), by rw [← f31]; omega, by rw [← f31]; exact fl_ga_1 f42 k56 f64 (by omega) (Or.inr ⟨by omega, rfl⟩) rfl⟩))⟩)
                    · refine fz_lload kX10_garbled rfl rfl ?_
                      refine fz_ldc2 (x := 12) kX10_garbled rfl rfl rfl ?_
                      refine fz_lmul kX10_garbled rfl ?_
                      have b74 := fz_wl_b (x46 * 12)
                      refine fz_lstore (ls' := [(7, fz_l (fz_wl (x46 * 12))), (9, fz_i x45), (5, fz_l y43), (4, fz_i y32), (0, fz_r 0), (1, fz_i d), (2, fz_i t), (3, fz_i pt)]) kX10_garbled rfl (by decide) rfl ?_
                      refine fz_iincN (ls' := [(9, fz_i (x45 + 1)), (7, fz_l (fz_wl (x46 * 12))), (5, fz_l y43), (4, fz_i y32), (0, fz_r 0), (1, fz_i d), (2, fz_i t), (3, fz_i pt)]) kX10_garbled rfl (by decide) rfl (by omega) rfl ?_
                      refine fz_goto (tgt := 79) kX10_garbled rfl (by decide) ?_
                      exact ih49 (x45 + 1) (fz_wl (x46 * 12)) (by omega) (by omega) (by omega) (fl_p12_s hv54 (by omega)) (by omega)
                exact lp48 _ 0 1 (by omega) (by omega) (by omega) (rfl) (Nat.lt_succ_self _)
              · refine fz_iload_n kX10_garbled rfl rfl ?_
                refine fz_i2l kX10_garbled rfl ?_
                exact fz_lret kX10_garbled rfl rfl (fun _ => ⟨hI, hf, _, rfl, (by omega), (by first | exact Or.inl ⟨(by unfold fl_oG; omega), rfl⟩ | exact Or.inr (Or.inl ⟨(by unfold fl_oG; omega), by rw [← f31]; omega, rfl⟩) | exact Or.inr (Or.inr ⟨(by unfold fl_oG; omega), by rw [← f31]; omega, by rw [← f31]; exact fl_ga_0 lost lost lost (by omega)⟩) | exact Or.inr (Or.inr ⟨(by unfold fl_oG; omega), by rw [← f31]; omega, by rw [← f31]; exact fl_ga_1 lost lost lost (by omega) (Or.inl ⟨by omega, rfl⟩) rfl⟩) | exact Or.inr (Or.inr ⟨(by unfold fl_oG; omega), by rw [← f31]; omega, by rw [← f31]; exact fl_ga_1 lost lost lost (by omega) (Or.inr ⟨by omega, rfl⟩) rfl⟩))⟩)
            · refine fz_ldc2 (x := (-9223372036854775808)) kX10_garbled rfl rfl rfl ?_
              exact fz_lret kX10_garbled rfl rfl (fun _ => ⟨hI, hf, _, rfl, (by omega), (by first | exact Or.inl ⟨(by unfold fl_oG; omega), rfl⟩ | exact Or.inr (Or.inl ⟨(by unfold fl_oG; omega), by rw [← lost]; omega, rfl⟩) | exact Or.inr (Or.inr ⟨(by unfold fl_oG; omega), by rw [← lost]; omega, by rw [← lost]; exact fl_ga_0 lost lost lost (by omega)⟩) | exact Or.inr (Or.inr ⟨(by unfold fl_oG; omega), by rw [← lost]; omega, by rw [← lost]; exact fl_ga_1 lost lost lost (by omega) (Or.inl ⟨by omega, rfl⟩) rfl⟩) | exact Or.inr (Or.inr ⟨(by unfold fl_oG; omega), by rw [← lost]; omega, by rw [← lost]; exact fl_ga_1 lost lost lost (by omega) (Or.inr ⟨by omega, rfl⟩) rfl⟩))⟩)
      · refine fz_if_eq (tgt := 31) kX10_garbled rfl (by decide) (fun c79 => ?_) (fun c79 => ?_)
        · refine fz_ldc2 (x := (-9223372036854775808)) kX10_garbled rfl rfl rfl ?_
          exact fz_lret kX10_garbled rfl rfl (fun _ => ⟨hI, hf, _, rfl, (by omega), (by first | exact Or.inl ⟨(by unfold fl_oG; omega), rfl⟩ | exact Or.inr (Or.inl ⟨(by unfold fl_oG; omega), by rw [← lost]; omega, rfl⟩) | exact Or.inr (Or.inr ⟨(by unfold fl_oG; omega), by rw [← lost]; omega, by rw [← lost]; exact fl_ga_0 lost lost lost (by omega)⟩) | exact Or.inr (Or.inr ⟨(by unfold fl_oG; omega), by rw [← lost]; omega, by rw [← lost]; exact fl_ga_1 lost lost lost (by omega) (Or.inl ⟨by omega, rfl⟩) rfl⟩) | exact Or.inr (Or.inr ⟨(by unfold fl_oG; omega), by rw [← lost]; omega, by rw [← lost]; exact fl_ga_1 lost lost lost (by omega) (Or.inr ⟨by omega, rfl⟩) rfl⟩))⟩)
        · exfalso; omega
  · refine fz_if_eq (tgt := 31) kX10_garbled rfl (by decide) (fun c81 => ?_) (fun c81 => ?_)
    · refine fz_ldc2 (x := (-9223372036854775808)) kX10_garbled rfl rfl rfl ?_
      exact fz_lret kX10_garbled rfl rfl (fun _ => ⟨hI, hf, _, rfl, (by omega), (by first | exact Or.inl ⟨(by unfold fl_oG; omega), rfl⟩ | exact Or.inr (Or.inl ⟨(by unfold fl_oG; omega), by rw [← lost]; omega, rfl⟩) | exact Or.inr (Or.inr ⟨(by unfold fl_oG; omega), by rw [← lost]; omega, by rw [← lost]; exact fl_ga_0 lost lost lost (by omega)⟩) | exact Or.inr (Or.inr ⟨(by unfold fl_oG; omega), by rw [← lost]; omega, by rw [← lost]; exact fl_ga_1 lost lost lost (by omega) (Or.inl ⟨by omega, rfl⟩) rfl⟩) | exact Or.inr (Or.inr ⟨(by unfold fl_oG; omega), by rw [← lost]; omega, by rw [← lost]; exact fl_ga_1 lost lost lost (by omega) (Or.inr ⟨by omega, rfl⟩) rfl⟩))⟩)
    · exfalso; omega

abbrev qX10_drawn (h : fz_H) (d t se nw : Int) : fz_H → Option fz_V → Prop := fun h' r0 => h' = h ∧ ∃ r : Int, r0 = some (fz_i r) ∧ ((-1) ≤ r ∧ r ≤ 200) ∧ (fz_dwC h d t se nw r)
set_option maxHeartbeats 1000000 in
set_option maxRecDepth 100000 in
theorem sX10_drawn (h : fz_H) (hI : fz_Iv h) (d t se nw : Int) : fz_R 1 mX10_drawn 0 [(0, fz_r 0), (1, fz_i d), (2, fz_i t), (3, fz_i se), (4, fz_i nw)] [] h (qX10_drawn h d t se nw) := by
  refine fz_knowl (fun hk => ?_)
  have hr_d : -2147483648 ≤ d ∧ d < 2147483648 := hk _ (List.Mem.tail _ (List.Mem.head _))
  have hr_t : -2147483648 ≤ t ∧ t < 2147483648 := hk _ (List.Mem.tail _ (List.Mem.tail _ (List.Mem.head _)))
  have hr_se : -2147483648 ≤ se ∧ se < 2147483648 := hk _ (List.Mem.tail _ (List.Mem.tail _ (List.Mem.tail _ (List.Mem.head _))))
  have hr_nw : -2147483648 ≤ nw ∧ nw < 2147483648 := hk _ (List.Mem.tail _ (List.Mem.tail _ (List.Mem.tail _ (List.Mem.tail _ (List.Mem.head _)))))
  clear hk
  refine fz_iload kX10_drawn rfl rfl ?_
  refine fz_bipush ⟨by decide, by decide⟩ kX10_drawn rfl ?_
  refine fz_idivT kX10_drawn rfl (by decide) (by omega) (fun z1 r2 e3 e4 e5 e6 e7 e8 e9 => ?_)
  refine fz_istore (ls' := [(5, fz_i z1), (0, fz_r 0), (1, fz_i d), (2, fz_i t), (3, fz_i se), (4, fz_i nw)]) kX10_drawn rfl (by decide) rfl ?_
  refine fz_iload kX10_drawn rfl rfl ?_
  refine fz_bipush ⟨by decide, by decide⟩ kX10_drawn rfl ?_
  refine fz_iremT kX10_drawn rfl (by decide) (by decide) (fun z10 r11 e12 e13 e14 e15 e16 e17 => ?_)
  refine fz_istore (ls' := [(6, fz_i z10), (5, fz_i z1), (0, fz_r 0), (1, fz_i d), (2, fz_i t), (3, fz_i se), (4, fz_i nw)]) kX10_drawn rfl (by decide) rfl ?_
  refine fz_aload_n kX10_drawn rfl rfl ?_
  refine fz_getR (t := 9) kX10_drawn rfl rfl ?_
  refine fz_iload_n kX10_drawn rfl rfl ?_
  have b19 : 0 ≤ h 9 5 ∧ h 9 5 ≤ 10 := hI.1 9 _
  refine fz_callV (d' := 0) (M' := mX4_isDeed) (As := [fz_i d]) (st := []) kX10_drawn rfl rfl vX4_isDeed rfl rfl rfl rfl (Nat.le_of_ble_eq_true rfl) (Nat.le_of_ble_eq_true rfl) (by decide) (sX4_isDeed h hI d ) (fun H20 r21 q22 o23 => ?_)
  obtain ⟨e24, y25, rfl, p26⟩ := q22
  subst H20
  clear o23
  rcases p26 with ⟨rfl, c27⟩ | ⟨rfl, c27⟩
  · refine fz_if_eq (tgt := 60) kX10_drawn rfl (by decide) (fun c28 => ?_) (fun c28 => ?_)
    · exfalso; omega
    · refine fz_aload_n kX10_drawn rfl rfl ?_
      refine fz_getR (t := 1) kX10_drawn rfl rfl ?_
      refine fz_iload_n kX10_drawn rfl rfl ?_
      have b29 : 0 ≤ h 1 7 ∧ h 1 7 ≤ 8 := hI.1 1 _
      refine fz_callV (d' := 0) (M' := mX2_isTown) (As := [fz_i t]) (st := []) kX10_drawn rfl rfl vX2_isTown rfl rfl rfl rfl (Nat.le_of_ble_eq_true rfl) (Nat.le_of_ble_eq_true rfl) (by decide) (sX2_isTown h hI t ) (fun H30 r31 q32 o33 => ?_)
      obtain ⟨e34, y35, rfl, p36⟩ := q32
      subst H30
      clear o33
      rcases p36 with ⟨rfl, c37⟩ | ⟨rfl, c37⟩
      · refine fz_if_eq (tgt := 60) kX10_drawn rfl (by decide) (fun c38 => ?_) (fun c38 => ?_)
        · exfalso; omega
        · refine fz_iload kX10_drawn rfl rfl ?_
          refine fz_iconst ⟨by decide, by decide⟩ kX10_drawn rfl ?_
          refine fz_icmp_lt (tgt := 60) kX10_drawn rfl (by decide) (fun c39 => ?_) (fun c39 => ?_)
          · refine fz_iconst ⟨by decide, by decide⟩ kX10_drawn rfl ?_
            exact fz_iret kX10_drawn rfl rfl (fun _ => ⟨rfl, _, rfl, (by omega), (by show fz_dw _ _ _ _ _ _ _ _ _ _; first | exact Or.inr (Or.inr ⟨(by unfold fz_dwO; omega), by omega, (by rw [← lost]; exact fz_d3_0 lost (by omega) (by omega))⟩) | exact Or.inr (Or.inr ⟨(by unfold fz_dwO; omega), by omega, (by rw [← lost]; exact fz_d3_1 lost (by omega) (by omega))⟩) | exact Or.inr (Or.inl ⟨(by unfold fz_dwO; omega), by omega, rfl⟩) | exact Or.inl ⟨(by unfold fz_dwO; omega), rfl⟩)⟩)
          · refine fz_iload kX10_drawn rfl rfl ?_
            refine fz_bipush ⟨by decide, by decide⟩ kX10_drawn rfl ?_
            refine fz_icmp_gt (tgt := 60) kX10_drawn rfl (by decide) (fun c41 => ?_) (fun c41 => ?_)
            · refine fz_iconst ⟨by decide, by decide⟩ kX10_drawn rfl ?_
              exact fz_iret kX10_drawn rfl rfl (fun _ => ⟨rfl, _, rfl, (by omega), (by show fz_dw _ _ _ _ _ _ _ _ _ _; first | exact Or.inr (Or.inr ⟨(by unfold fz_dwO; omega), by omega, (by rw [← lost]; exact fz_d3_0 lost (by omega) (by omega))⟩) | exact Or.inr (Or.inr ⟨(by unfold fz_dwO; omega), by omega, (by rw [← lost]; exact fz_d3_1 lost (by omega) (by omega))⟩) | exact Or.inr (Or.inl ⟨(by unfold fz_dwO; omega), by omega, rfl⟩) | exact Or.inl ⟨(by unfold fz_dwO; omega), rfl⟩)⟩)
            · refine fz_iload kX10_drawn rfl rfl ?_
              refine fz_if_lt (tgt := 60) kX10_drawn rfl (by decide) (fun c43 => ?_) (fun c43 => ?_)
              · refine fz_iconst ⟨by decide, by decide⟩ kX10_drawn rfl ?_
                exact fz_iret kX10_drawn rfl rfl (fun _ => ⟨rfl, _, rfl, (by omega), (by show fz_dw _ _ _ _ _ _ _ _ _ _; first | exact Or.inr (Or.inr ⟨(by unfold fz_dwO; omega), by omega, (by rw [← lost]; exact fz_d3_0 lost (by omega) (by omega))⟩) | exact Or.inr (Or.inr ⟨(by unfold fz_dwO; omega), by omega, (by rw [← lost]; exact fz_d3_1 lost (by omega) (by omega))⟩) | exact Or.inr (Or.inl ⟨(by unfold fz_dwO; omega), by omega, rfl⟩) | exact Or.inl ⟨(by unfold fz_dwO; omega), rfl⟩)⟩)
              · refine fz_iload kX10_drawn rfl rfl ?_
                refine fz_iconst ⟨by decide, by decide⟩ kX10_drawn rfl ?_
                refine fz_icmp_le (tgt := 62) kX10_drawn rfl (by decide) (fun c45 => ?_) (fun c45 => ?_)
                · refine fz_aload_n kX10_drawn rfl rfl ?_
                  refine fz_getR (t := 1) kX10_drawn rfl rfl ?_
                  refine fz_aload_n kX10_drawn rfl rfl ?_
                  refine fz_getR (t := 9) kX10_drawn rfl rfl ?_
                  refine fz_getR (t := 11) kX10_drawn rfl rfl ?_
                  refine fz_iload_n kX10_drawn rfl rfl ?_
                  refine fz_ialdV (n := 11) (v := h 11 (d.toNat)) kX10_drawn rfl rfl (by omega) (by omega) rfl ?_
                  have b46 : 0 ≤ h 11 (d.toNat) ∧ h 11 (d.toNat) ≤ 7 := hI.1 11 _
                  refine fz_iload_n kX10_drawn rfl rfl ?_
                  refine fz_callV (d' := 0) (M' := mX2_roadsByCarters) (As := [fz_i (h 11 (d.toNat)), fz_i t]) (st := []) kX10_drawn rfl rfl vX2_roadsByCarters rfl rfl rfl rfl (Nat.le_of_ble_eq_true rfl) (Nat.le_of_ble_eq_true rfl) (by decide) (sX2_roadsByCarters h hI (h 11 (d.toNat)) t (by omega) (by omega)) (fun H47 r48 q49 o50 => ?_)
                  obtain ⟨e51, y54, rfl, f52, f53⟩ := q49
                  subst H47
                  clear o50
                  refine fz_istore (ls' := [(7, fz_i y54), (6, fz_i z10), (5, fz_i z1), (0, fz_r 0), (1, fz_i d), (2, fz_i t), (3, fz_i se), (4, fz_i nw)]) kX10_drawn rfl (by decide) rfl ?_
                  refine fz_iload kX10_drawn rfl rfl ?_
                  refine fz_if_ge (tgt := 88) kX10_drawn rfl (by decide) (fun c55 => ?_) (fun c55 => ?_)
                  · refine fz_iload_n kX10_drawn rfl rfl ?_
                    refine fz_istore (ls' := [(8, fz_i se), (7, fz_i y54), (6, fz_i z10), (5, fz_i z1), (0, fz_r 0), (1, fz_i d), (2, fz_i t), (3, fz_i se), (4, fz_i nw)]) kX10_drawn rfl (by decide) rfl ?_
                    refine fz_iconst ⟨by decide, by decide⟩ kX10_drawn rfl ?_
                    refine fz_istore (ls' := [(9, fz_i 0), (8, fz_i se), (7, fz_i y54), (6, fz_i z10), (5, fz_i z1), (0, fz_r 0), (1, fz_i d), (2, fz_i t), (3, fz_i se), (4, fz_i nw)]) kX10_drawn rfl (by decide) rfl ?_
                    refine fz_iconst ⟨by decide, by decide⟩ kX10_drawn rfl ?_
                    refine fz_istore (ls' := [(10, fz_i 0), (9, fz_i 0), (8, fz_i se), (7, fz_i y54), (6, fz_i z10), (5, fz_i z1), (0, fz_r 0), (1, fz_i d), (2, fz_i t), (3, fz_i se), (4, fz_i nw)]) kX10_drawn rfl (by decide) rfl ?_
                    refine fz_iconst ⟨by decide, by decide⟩ kX10_drawn rfl ?_
                    refine fz_istore (ls' := [(11, fz_i 0), (10, fz_i 0), (9, fz_i 0), (8, fz_i se), (7, fz_i y54), (6, fz_i z10), (5, fz_i z1), (0, fz_r 0), (1, fz_i d), (2, fz_i t), (3, fz_i se), (4, fz_i nw)]) kX10_drawn rfl (by decide) rfl ?_
                    have lp61 : ∀ (n60 : Nat) (x56 : Int) (x57 : Int) (x58 : Int) (x59 : Int), (0 ≤ x56 ∧ x56 ≤ 2147483647) → (0 ≤ x57 ∧ x57 ≤ 200) → (0 ≤ x58 ∧ x58 ≤ 50) → ((-2147483648) ≤ x59 ∧ x59 ≤ 2147483647) → (x58 ≤ x56) → (x57 ≤ 4 * x56) → (x56 ≤ z1) → ((x59, x58, x57) = fz_d2 (h 27 9) (h 13 d.toNat) (y54).toNat (x56).toNat (se, 0, 0)) → (z1 - x56).toNat < n60 → fz_R 1 mX10_drawn 100 [(11, fz_i x56), (10, fz_i x57), (9, fz_i x58), (8, fz_i x59), (7, fz_i y54), (6, fz_i z10), (5, fz_i z1), (0, fz_r 0), (1, fz_i d), (2, fz_i t), (3, fz_i se), (4, fz_i nw)] [] h (qX10_drawn h d t se nw) := by
                      intro n60
                      induction n60 with
                      | zero => intro x56 x57 x58 x59 hv64 hv65 hv66 hv67 hv68 hv69 hv70 hv71 hm63; exact absurd hm63 (by omega)
                      | succ n60 ih62 =>
                        intro x56 x57 x58 x59 hv64 hv65 hv66 hv67 hv68 hv69 hv70 hv71 hm63
                        refine fz_iload kX10_drawn rfl rfl ?_
                        refine fz_iload kX10_drawn rfl rfl ?_
                        refine fz_icmp_ge (tgt := 209) kX10_drawn rfl (by decide) (fun c72 => ?_) (fun c72 => ?_)
                        · refine fz_iload kX10_drawn rfl rfl ?_
                          refine fz_if_ne (tgt := 219) kX10_drawn rfl (by decide) (fun c73 => ?_) (fun c73 => ?_)
                          · refine fz_iload kX10_drawn rfl rfl ?_
                            exact fz_iret kX10_drawn rfl rfl (fun _ => ⟨rfl, _, rfl, (by omega), (by show fz_dw _ _ _ _ _ _ _ _ _ _; first | exact Or.inr (Or.inr ⟨(by unfold fz_dwO; omega), by omega, (by rw [← f53]; exact fz_d3_0 hv71 (by omega) (by omega))⟩) | exact Or.inr (Or.inr ⟨(by unfold fz_dwO; omega), by omega, (by rw [← f53]; exact fz_d3_1 hv71 (by omega) (by omega))⟩) | exact Or.inr (Or.inl ⟨(by unfold fz_dwO; omega), by omega, rfl⟩) | exact Or.inl ⟨(by unfold fz_dwO; omega), rfl⟩)⟩)
                          · refine fz_iload kX10_drawn rfl rfl ?_
                            refine fz_goto (tgt := 221) kX10_drawn rfl (by decide) ?_
                            exact fz_iret kX10_drawn rfl rfl (fun _ => ⟨rfl, _, rfl, (by omega), (by show fz_dw _ _ _ _ _ _ _ _ _ _; first | exact Or.inr (Or.inr ⟨(by unfold fz_dwO; omega), by omega, (by rw [← f53]; exact fz_d3_0 hv71 (by omega) (by omega))⟩) | exact Or.inr (Or.inr ⟨(by unfold fz_dwO; omega), by omega, (by rw [← f53]; exact fz_d3_1 hv71 (by omega) (by omega))⟩) | exact Or.inr (Or.inl ⟨(by unfold fz_dwO; omega), by omega, rfl⟩) | exact Or.inl ⟨(by unfold fz_dwO; omega), rfl⟩)⟩)
                        · refine fz_aload_n kX10_drawn rfl rfl ?_
                          refine fz_getR (t := 9) kX10_drawn rfl rfl ?_
                          refine fz_getR (t := 13) kX10_drawn rfl rfl ?_
                          refine fz_iload_n kX10_drawn rfl rfl ?_
                          refine fz_ialdV (n := 11) (v := h 13 (d.toNat)) kX10_drawn rfl rfl (by omega) (by omega) rfl ?_
                          have b76 : 0 ≤ h 13 (d.toNat) ∧ h 13 (d.toNat) ≤ 4 := hI.1 13 _
                          refine fz_istore (ls' := [(12, fz_i (h 13 (d.toNat))), (11, fz_i x56), (10, fz_i x57), (9, fz_i x58), (8, fz_i x59), (7, fz_i y54), (6, fz_i z10), (5, fz_i z1), (0, fz_r 0), (1, fz_i d), (2, fz_i t), (3, fz_i se), (4, fz_i nw)]) kX10_drawn rfl (by decide) rfl ?_
                          obtain ⟨k77, k78⟩ : ∃ z, z = x59 := ⟨_, rfl⟩
                          obtain ⟨k80, k81⟩ : ∃ z, z = x58 := ⟨_, rfl⟩
                          obtain ⟨k83, k84⟩ : ∃ z, z = x57 := ⟨_, rfl⟩
                          refine fz_iconst ⟨by decide, by decide⟩ kX10_drawn rfl ?_
                          refine fz_istore (ls' := [(13, fz_i 0), (12, fz_i (h 13 (d.toNat))), (11, fz_i x56), (10, fz_i x57), (9, fz_i x58), (8, fz_i x59), (7, fz_i y54), (6, fz_i z10), (5, fz_i z1), (0, fz_r 0), (1, fz_i d), (2, fz_i t), (3, fz_i se), (4, fz_i nw)]) kX10_drawn rfl (by decide) rfl ?_
                          have lp90 : ∀ (n89 : Nat) (x86 : Int) (x87 : Int) (x88 : Int), (0 ≤ x86 ∧ x86 ≤ 2147483647) → (0 ≤ x87 ∧ x87 ≤ 4) → ((-2147483648) ≤ x88 ∧ x88 ≤ 2147483647) → (x86 ≤ y54) → ((x88, x87) = fz_d1 (h 27 9) (x86).toNat (k77, h 13 d.toNat)) → (y54 - x86).toNat < n89 → fz_R 1 mX10_drawn 121 [(13, fz_i x86), (12, fz_i x87), (11, fz_i x56), (10, fz_i x57), (9, fz_i x58), (8, fz_i x88), (7, fz_i y54), (6, fz_i z10), (5, fz_i z1), (0, fz_r 0), (1, fz_i d), (2, fz_i t), (3, fz_i se), (4, fz_i nw)] [] h (qX10_drawn h d t se nw) := by
                            intro n89
                            induction n89 with
                            | zero => intro x86 x87 x88 hv93 hv94 hv95 hv96 hv97 hm92; exact absurd hm92 (by omega)
                            | succ n89 ih91 =>
                              intro x86 x87 x88 hv93 hv94 hv95 hv96 hv97 hm92
                              refine fz_iload kX10_drawn rfl rfl ?_
                              refine fz_iload kX10_drawn rfl rfl ?_
                              refine fz_icmp_ge (tgt := 172) kX10_drawn rfl (by decide) (fun c98 => ?_) (fun c98 => ?_)
                              · refine fz_iload kX10_drawn rfl rfl ?_
                                refine fz_iload kX10_drawn rfl rfl ?_
                                refine fz_aload_n kX10_drawn rfl rfl ?_
                                refine fz_getR (t := 9) kX10_drawn rfl rfl ?_
                                refine fz_getR (t := 13) kX10_drawn rfl rfl ?_
                                refine fz_iload_n kX10_drawn rfl rfl ?_
                                refine fz_ialdV (n := 11) (v := h 13 (d.toNat)) kX10_drawn rfl rfl (by omega) (by omega) rfl ?_
                                refine fz_icmp_ne (tgt := 192) kX10_drawn rfl (by decide) (fun c99 => ?_) (fun c99 => ?_)
                                · refine fz_iconst ⟨by decide, by decide⟩ kX10_drawn rfl ?_
                                  refine fz_iaddN kX10_drawn rfl (by omega) ?_
                                  refine fz_istore (ls' := [(9, fz_i (x58 + 0)), (13, fz_i x86), (12, fz_i x87), (11, fz_i x56), (10, fz_i x57), (8, fz_i x88), (7, fz_i y54), (6, fz_i z10), (5, fz_i z1), (0, fz_r 0), (1, fz_i d), (2, fz_i t), (3, fz_i se), (4, fz_i nw)]) kX10_drawn rfl (by decide) rfl ?_
                                  refine fz_iload kX10_drawn rfl rfl ?_
                                  refine fz_iload kX10_drawn rfl rfl ?_
                                  refine fz_iaddN kX10_drawn rfl (by omega) ?_
                                  refine fz_istore (ls' := [(10, fz_i (x57 + x87)), (9, fz_i (x58 + 0)), (13, fz_i x86), (12, fz_i x87), (11, fz_i x56), (8, fz_i x88), (7, fz_i y54), (6, fz_i z10), (5, fz_i z1), (0, fz_r 0), (1, fz_i d), (2, fz_i t), (3, fz_i se), (4, fz_i nw)]) kX10_drawn rfl (by decide) rfl ?_
                                  refine fz_iincN (ls' := [(11, fz_i (x56 + 1)), (10, fz_i (x57 + x87)), (9, fz_i (x58 + 0)), (13, fz_i x86), (12, fz_i x87), (8, fz_i x88), (7, fz_i y54), (6, fz_i z10), (5, fz_i z1), (0, fz_r 0), (1, fz_i d), (2, fz_i t), (3, fz_i se), (4, fz_i nw)]) kX10_drawn rfl (by decide) rfl (by omega) rfl ?_
                                  refine fz_goto (tgt := 100) kX10_drawn rfl (by decide) ?_
                                  refine fz_sub (fz_pk_sub (ls' := [(11, fz_i (x56 + 1)), (10, fz_i (x57 + x87)), (9, fz_i (x58 + 0)), (8, fz_i x88), (7, fz_i y54), (6, fz_i z10), (5, fz_i z1), (0, fz_r 0), (1, fz_i d), (2, fz_i t), (3, fz_i se), (4, fz_i nw)]) [0, 1, 2, 5, 6, 7, 8, 9, 10, 11, 12, 13] rfl) ?_
                                  exact ih62 (x56 + 1) (x57 + x87) (x58 + 0) x88 (by omega) (by omega) (by omega) (by omega) (by omega) (by omega) (by omega) (fz_d2_st (rd := y54) (k := x86) (m := x87) hv71 (by omega) (by rw [← k78]; exact hv97) (by omega) (by first | (rw [if_pos (by omega)]) | (rw [if_neg (by omega)])) rfl) (by omega)
                                · refine fz_iconst ⟨by decide, by decide⟩ kX10_drawn rfl ?_
                                  refine fz_goto (tgt := 193) kX10_drawn rfl (by decide) ?_
                                  refine fz_iaddN kX10_drawn rfl (by omega) ?_
                                  refine fz_istore (ls' := [(9, fz_i (x58 + 1)), (13, fz_i x86), (12, fz_i x87), (11, fz_i x56), (10, fz_i x57), (8, fz_i x88), (7, fz_i y54), (6, fz_i z10), (5, fz_i z1), (0, fz_r 0), (1, fz_i d), (2, fz_i t), (3, fz_i se), (4, fz_i nw)]) kX10_drawn rfl (by decide) rfl ?_
                                  refine fz_iload kX10_drawn rfl rfl ?_
                                  refine fz_iload kX10_drawn rfl rfl ?_
                                  refine fz_iaddN kX10_drawn rfl (by omega) ?_
                                  refine fz_istore (ls' := [(10, fz_i (x57 + x87)), (9, fz_i (x58 + 1)), (13, fz_i x86), (12, fz_i x87), (11, fz_i x56), (8, fz_i x88), (7, fz_i y54), (6, fz_i z10), (5, fz_i z1), (0, fz_r 0), (1, fz_i d), (2, fz_i t), (3, fz_i se), (4, fz_i nw)]) kX10_drawn rfl (by decide) rfl ?_
                                  refine fz_iincN (ls' := [(11, fz_i (x56 + 1)), (10, fz_i (x57 + x87)), (9, fz_i (x58 + 1)), (13, fz_i x86), (12, fz_i x87), (8, fz_i x88), (7, fz_i y54), (6, fz_i z10), (5, fz_i z1), (0, fz_r 0), (1, fz_i d), (2, fz_i t), (3, fz_i se), (4, fz_i nw)]) kX10_drawn rfl (by decide) rfl (by omega) rfl ?_
                                  refine fz_goto (tgt := 100) kX10_drawn rfl (by decide) ?_
                                  refine fz_sub (fz_pk_sub (ls' := [(11, fz_i (x56 + 1)), (10, fz_i (x57 + x87)), (9, fz_i (x58 + 1)), (8, fz_i x88), (7, fz_i y54), (6, fz_i z10), (5, fz_i z1), (0, fz_r 0), (1, fz_i d), (2, fz_i t), (3, fz_i se), (4, fz_i nw)]) [0, 1, 2, 5, 6, 7, 8, 9, 10, 11, 12, 13] rfl) ?_
                                  exact ih62 (x56 + 1) (x57 + x87) (x58 + 1) x88 (by omega) (by omega) (by omega) (by omega) (by omega) (by omega) (by omega) (fz_d2_st (rd := y54) (k := x86) (m := x87) hv71 (by omega) (by rw [← k78]; exact hv97) (by omega) (by first | (rw [if_pos (by omega)]) | (rw [if_neg (by omega)])) rfl) (by omega)
                              · refine fz_iload kX10_drawn rfl rfl ?_
                                refine fz_ldcw (x := 1103515245) kX10_drawn rfl rfl rfl ?_
                                refine fz_imul kX10_drawn rfl ?_
                                have b102 := fz_w_b (x88 * 1103515245)
                                refine fz_sipush ⟨by decide, by decide⟩ kX10_drawn rfl ?_
                                refine fz_iadd kX10_drawn rfl ?_
                                have b103 := fz_w_b ((fz_w (x88 * 1103515245)) + 12345)
                                refine fz_istore (ls' := [(8, fz_i (fz_w ((fz_w (x88 * 1103515245)) + 12345))), (13, fz_i x86), (12, fz_i x87), (11, fz_i x56), (10, fz_i x57), (9, fz_i x58), (7, fz_i y54), (6, fz_i z10), (5, fz_i z1), (0, fz_r 0), (1, fz_i d), (2, fz_i t), (3, fz_i se), (4, fz_i nw)]) kX10_drawn rfl (by decide) rfl ?_
                                refine fz_iload kX10_drawn rfl rfl ?_
                                refine fz_bipush ⟨by decide, by decide⟩ kX10_drawn rfl ?_
                                refine fz_iushr kX10_drawn rfl ?_
                                have b104 : -2147483648 ≤ (fz_ush (fz_w ((fz_w (x88 * 1103515245)) + 12345)) 8) ∧ (fz_ush (fz_w ((fz_w (x88 * 1103515245)) + 12345)) 8) < 2147483648 := fz_b32 _
                                have k105 : 0 ≤ (fz_ush (fz_w ((fz_w (x88 * 1103515245)) + 12345)) 8) ∧ (fz_ush (fz_w ((fz_w (x88 * 1103515245)) + 12345)) 8) ≤ 16777215 := fz_ush_8
                                have k107 : 0 ≤ (fz_ush (fz_w ((fz_w (x88 * 1103515245)) + 12345)) 8) ∧ (fz_ush (fz_w ((fz_w (x88 * 1103515245)) + 12345)) 8) ≤ 16777215 := by omega
                                refine fz_bipush ⟨by decide, by decide⟩ kX10_drawn rfl ?_
                                refine fz_iremN kX10_drawn rfl (by omega) (by omega) (by omega) ?_
                                refine fz_aload_n kX10_drawn rfl rfl ?_
                                refine fz_getR (t := 27) kX10_drawn rfl rfl ?_
                                refine fz_getV (v := h 27 9) kX10_drawn rfl rfl rfl ?_
                                have b108 : 0 ≤ h 27 9 ∧ h 27 9 ≤ 12 := hI.1 27 _
                                refine fz_icmp_ge (tgt := 166) kX10_drawn rfl (by decide) (fun c109 => ?_) (fun c109 => ?_)
                                · refine fz_iincN (ls' := [(13, fz_i (x86 + 1)), (8, fz_i (fz_w ((fz_w (x88 * 1103515245)) + 12345))), (12, fz_i x87), (11, fz_i x56), (10, fz_i x57), (9, fz_i x58), (7, fz_i y54), (6, fz_i z10), (5, fz_i z1), (0, fz_r 0), (1, fz_i d), (2, fz_i t), (3, fz_i se), (4, fz_i nw)]) kX10_drawn rfl (by decide) rfl (by omega) rfl ?_
                                  refine fz_goto (tgt := 121) kX10_drawn rfl (by decide) ?_
                                  refine fz_sub (fz_pk_sub (ls' := [(13, fz_i (x86 + 1)), (12, fz_i x87), (11, fz_i x56), (10, fz_i x57), (9, fz_i x58), (8, fz_i (fz_w ((fz_w (x88 * 1103515245)) + 12345))), (7, fz_i y54), (6, fz_i z10), (5, fz_i z1), (0, fz_r 0), (1, fz_i d), (2, fz_i t), (3, fz_i se), (4, fz_i nw)]) [0, 2, 3, 4, 5, 1, 6, 7, 8, 9, 10, 11, 12, 13] rfl) ?_
                                  exact ih91 (x86 + 1) x87 (fz_w ((fz_w (x88 * 1103515245)) + 12345)) (by omega) (by omega) (by omega) (by omega) (by first | exact fz_d1_y hv97 (by omega) (by omega) | exact fz_d1_n hv97 (by omega) (by omega)) (by omega)
                                · refine fz_iload kX10_drawn rfl rfl ?_
                                  refine fz_iconst ⟨by decide, by decide⟩ kX10_drawn rfl ?_
                                  refine fz_iaddN kX10_drawn rfl (by omega) ?_
                                  refine fz_iconst ⟨by decide, by decide⟩ kX10_drawn rfl ?_
                                  refine fz_iremN kX10_drawn rfl (by omega) (by omega) (by omega) ?_
                                  refine fz_istore (ls' := [(12, fz_i ((x87 + 1) % 5)), (8, fz_i (fz_w ((fz_w (x88 * 1103515245)) + 12345))), (13, fz_i x86), (11, fz_i x56), (10, fz_i x57), (9, fz_i x58), (7, fz_i y54), (6, fz_i z10), (5, fz_i z1), (0, fz_r 0), (1, fz_i d), (2, fz_i t), (3, fz_i se), (4, fz_i nw)]) kX10_drawn rfl (by decide) rfl ?_
                                  refine fz_iincN (ls' := [(13, fz_i (x86 + 1)), (12, fz_i ((x87 + 1) % 5)), (8, fz_i (fz_w ((fz_w (x88 * 1103515245)) + 12345))), (11, fz_i x56), (10, fz_i x57), (9, fz_i x58), (7, fz_i y54), (6, fz_i z10), (5, fz_i z1), (0, fz_r 0), (1, fz_i d), (2, fz_i t), (3, fz_i se), (4, fz_i nw)]) kX10_drawn rfl (by decide) rfl (by omega) rfl ?_
                                  refine fz_goto (tgt := 121) kX10_drawn rfl (by decide) ?_
                                  refine fz_sub (fz_pk_sub (ls' := [(13, fz_i (x86 + 1)), (12, fz_i ((x87 + 1) % 5)), (11, fz_i x56), (10, fz_i x57), (9, fz_i x58), (8, fz_i (fz_w ((fz_w (x88 * 1103515245)) + 12345))), (7, fz_i y54), (6, fz_i z10), (5, fz_i z1), (0, fz_r 0), (1, fz_i d), (2, fz_i t), (3, fz_i se), (4, fz_i nw)]) [0, 1, 3, 4, 5, 2, 6, 7, 8, 9, 10, 11, 12, 13] rfl) ?_
                                  exact ih91 (x86 + 1) ((x87 + 1) % 5) (fz_w ((fz_w (x88 * 1103515245)) + 12345)) (by omega) (by omega) (by omega) (by omega) (by first | exact fz_d1_y hv97 (by omega) (by omega) | exact fz_d1_n hv97 (by omega) (by omega)) (by omega)
                          exact lp90 _ 0 (h 13 (d.toNat)) x59 (by omega) (by omega) (by omega) (by omega) (by rw [k78]; rfl) (Nat.lt_succ_self _)
                    exact lp61 _ 0 0 0 se (by omega) (by omega) (by omega) (by omega) (by omega) (by omega) (by omega) (rfl) (Nat.lt_succ_self _)
                  · refine fz_iconst ⟨by decide, by decide⟩ kX10_drawn rfl ?_
                    exact fz_iret kX10_drawn rfl rfl (fun _ => ⟨rfl, _, rfl, (by omega), (by show fz_dw _ _ _ _ _ _ _ _ _ _; first | exact Or.inr (Or.inr ⟨(by unfold fz_dwO; omega), by omega, (by rw [← f53]; exact fz_d3_0 lost (by omega) (by omega))⟩) | exact Or.inr (Or.inr ⟨(by unfold fz_dwO; omega), by omega, (by rw [← f53]; exact fz_d3_1 lost (by omega) (by omega))⟩) | exact Or.inr (Or.inl ⟨(by unfold fz_dwO; omega), by omega, rfl⟩) | exact Or.inl ⟨(by unfold fz_dwO; omega), rfl⟩)⟩)
                · refine fz_iconst ⟨by decide, by decide⟩ kX10_drawn rfl ?_
                  exact fz_iret kX10_drawn rfl rfl (fun _ => ⟨rfl, _, rfl, (by omega), (by show fz_dw _ _ _ _ _ _ _ _ _ _; first | exact Or.inr (Or.inr ⟨(by unfold fz_dwO; omega), by omega, (by rw [← lost]; exact fz_d3_0 lost (by omega) (by omega))⟩) | exact Or.inr (Or.inr ⟨(by unfold fz_dwO; omega), by omega, (by rw [← lost]; exact fz_d3_1 lost (by omega) (by omega))⟩) | exact Or.inr (Or.inl ⟨(by unfold fz_dwO; omega), by omega, rfl⟩) | exact Or.inl ⟨(by unfold fz_dwO; omega), rfl⟩)⟩)
      · refine fz_if_eq (tgt := 60) kX10_drawn rfl (by decide) (fun c116 => ?_) (fun c116 => ?_)
        · refine fz_iconst ⟨by decide, by decide⟩ kX10_drawn rfl ?_
          exact fz_iret kX10_drawn rfl rfl (fun _ => ⟨rfl, _, rfl, (by omega), (by show fz_dw _ _ _ _ _ _ _ _ _ _; first | exact Or.inr (Or.inr ⟨(by unfold fz_dwO; omega), by omega, (by rw [← lost]; exact fz_d3_0 lost (by omega) (by omega))⟩) | exact Or.inr (Or.inr ⟨(by unfold fz_dwO; omega), by omega, (by rw [← lost]; exact fz_d3_1 lost (by omega) (by omega))⟩) | exact Or.inr (Or.inl ⟨(by unfold fz_dwO; omega), by omega, rfl⟩) | exact Or.inl ⟨(by unfold fz_dwO; omega), rfl⟩)⟩)
        · exfalso; omega
  · refine fz_if_eq (tgt := 60) kX10_drawn rfl (by decide) (fun c118 => ?_) (fun c118 => ?_)
    · refine fz_iconst ⟨by decide, by decide⟩ kX10_drawn rfl ?_
      exact fz_iret kX10_drawn rfl rfl (fun _ => ⟨rfl, _, rfl, (by omega), (by show fz_dw _ _ _ _ _ _ _ _ _ _; first | exact Or.inr (Or.inr ⟨(by unfold fz_dwO; omega), by omega, (by rw [← lost]; exact fz_d3_0 lost (by omega) (by omega))⟩) | exact Or.inr (Or.inr ⟨(by unfold fz_dwO; omega), by omega, (by rw [← lost]; exact fz_d3_1 lost (by omega) (by omega))⟩) | exact Or.inr (Or.inl ⟨(by unfold fz_dwO; omega), by omega, rfl⟩) | exact Or.inl ⟨(by unfold fz_dwO; omega), rfl⟩)⟩)
    · exfalso; omega
