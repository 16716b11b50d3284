/-! ===== what the methods keep ===== -/
abbrev qX10_needs (h : fz_H) (pm th to x : Int) : fz_H → Option fz_V → Prop := fun h' r0 => fz_Iv h' ∧ fz_fr [(10, 99999), (11, 99999), (12, 99999), (13, 99999), (14, 99999), (18, 99999), (19, 99999)] h h' ∧ ∃ r : Int, r0 = some (fz_i r) ∧ ((-2) ≤ r ∧ r ≤ 9) ∧ (fz_apC h h' 0 (fun _ => (0, 0, 0, 0, 0)))
set_option maxHeartbeats 1000000 in
set_option maxRecDepth 100000 in
theorem sX10_needs (h : fz_H) (hI : fz_Iv h) (pm th to x : Int) : fz_R 5 mX10_needs 0 [(0, fz_r 0), (1, fz_i pm), (2, fz_i th), (3, fz_i to), (4, fz_i x)] [] h (qX10_needs h pm th to x) := by
  refine fz_knowl (fun hk => ?_)
  have hr_pm : -2147483648 ≤ pm ∧ pm < 2147483648 := hk _ (List.Mem.tail _ (List.Mem.head _))
  have hr_th : -2147483648 ≤ th ∧ th < 2147483648 := hk _ (List.Mem.tail _ (List.Mem.tail _ (List.Mem.head _)))
  have hr_to : -2147483648 ≤ to ∧ to < 2147483648 := hk _ (List.Mem.tail _ (List.Mem.tail _ (List.Mem.tail _ (List.Mem.head _))))
  have hr_x : -2147483648 ≤ x ∧ x < 2147483648 := hk _ (List.Mem.tail _ (List.Mem.tail _ (List.Mem.tail _ (List.Mem.tail _ (List.Mem.head _)))))
  clear hk
  have hf : fz_fr [(10, 99999), (11, 99999), (12, 99999), (13, 99999), (14, 99999), (18, 99999), (19, 99999)] h h := fz_fr_rf
  have k1 : 0 ≤ h 9 5 ∧ h 9 5 ≤ 10 := hI.1 9 _
  refine fz_aload_n kX10_needs rfl rfl ?_
  refine fz_iload_n kX10_needs rfl rfl ?_
  refine fz_callV (d' := 1) (M' := mX10_isMarkOfOne) (As := [fz_i pm]) (st := []) kX10_needs rfl rfl vX10_isMarkOfOne rfl rfl rfl rfl (Nat.le_of_ble_eq_true rfl) (Nat.le_of_ble_eq_true rfl) (by decide) (sX10_isMarkOfOne h hI pm ) (fun H2 r3 q4 o5 => ?_)
  obtain ⟨e6, y7, rfl, p8⟩ := q4
  subst H2
  clear o5
  rcases p8 with ⟨rfl, c9⟩ | ⟨rfl, c9⟩
  · refine fz_if_eq (tgt := 33) kX10_needs rfl (by decide) (fun c10 => ?_) (fun c10 => ?_)
    · exfalso; omega
    · refine fz_aload_n kX10_needs rfl rfl ?_
      refine fz_iload_n kX10_needs rfl rfl ?_
      have b11 : 0 ≤ h 1 7 ∧ h 1 7 ≤ 8 := hI.1 1 _
      refine fz_callV (d' := 1) (M' := mX10_isTownAndHour) (As := [fz_i th]) (st := []) kX10_needs rfl rfl vX10_isTownAndHour rfl rfl rfl rfl (Nat.le_of_ble_eq_true rfl) (Nat.le_of_ble_eq_true rfl) (by decide) (sX10_isTownAndHour h hI th ) (fun H12 r13 q14 o15 => ?_)
      obtain ⟨e16, y17, rfl, p18⟩ := q14
      subst H12
      clear o15
      rcases p18 with ⟨rfl, c19⟩ | ⟨rfl, c19⟩
      · refine fz_if_eq (tgt := 33) kX10_needs rfl (by decide) (fun c20 => ?_) (fun c20 => ?_)
        · exfalso; omega
        · refine fz_aload_n kX10_needs rfl rfl ?_
          refine fz_iload_n kX10_needs rfl rfl ?_
          refine fz_callV (d' := 1) (M' := mX10_isTownAndHour) (As := [fz_i to]) (st := []) kX10_needs rfl rfl vX10_isTownAndHour rfl rfl rfl rfl (Nat.le_of_ble_eq_true rfl) (Nat.le_of_ble_eq_true rfl) (by decide) (sX10_isTownAndHour h hI to ) (fun H21 r22 q23 o24 => ?_)
          obtain ⟨e25, y26, rfl, p27⟩ := q23
          subst H21
          clear o24
          rcases p27 with ⟨rfl, c28⟩ | ⟨rfl, c28⟩
          · refine fz_if_eq (tgt := 33) kX10_needs rfl (by decide) (fun c29 => ?_) (fun c29 => ?_)
            · exfalso; omega
            · refine fz_aload_n kX10_needs rfl rfl ?_
              refine fz_iload kX10_needs rfl rfl ?_
              refine fz_callV (d' := 0) (M' := mX10_isVolume) (As := [fz_i x]) (st := []) kX10_needs rfl rfl vX10_isVolume rfl rfl rfl rfl (Nat.le_of_ble_eq_true rfl) (Nat.le_of_ble_eq_true rfl) (by decide) (sX10_isVolume h hI x ) (fun H30 r31 q32 o33 => ?_)
              obtain ⟨e34, y35, rfl, p36⟩ := q32
              subst H30
              clear o33
              rcases p36 with ⟨rfl, c37⟩ | ⟨rfl, c37⟩
              · refine fz_if_ne (tgt := 35) kX10_needs rfl (by decide) (fun c38 => ?_) (fun c38 => ?_)
                · refine fz_aload_n kX10_needs rfl rfl ?_
                  refine fz_getR (t := 27) kX10_needs rfl rfl ?_
                  refine fz_iload_n kX10_needs rfl rfl ?_
                  refine fz_iload_n kX10_needs rfl rfl ?_
                  refine fz_sipush ⟨by decide, by decide⟩ kX10_needs rfl ?_
                  refine fz_idivN kX10_needs rfl (by omega) (by omega) (by omega) ?_
                  refine fz_iload_n kX10_needs rfl rfl ?_
                  refine fz_sipush ⟨by decide, by decide⟩ kX10_needs rfl ?_
                  refine fz_iremN kX10_needs rfl (by omega) (by omega) (by omega) ?_
                  refine fz_callV (d' := 4) (M' := mX8_loudestOf) (As := [fz_i pm, fz_i (to / 1000), fz_i (to % 1000)]) (st := []) kX10_needs rfl rfl vX8_loudestOf rfl rfl rfl rfl (Nat.le_of_ble_eq_true rfl) (Nat.le_of_ble_eq_true rfl) (by decide) (sX8_loudestOf h hI pm (to / 1000) (to % 1000) (by omega)) (fun H39 r40 q41 o42 => ?_)
                  obtain ⟨hI43, hf44, y46, rfl, f45⟩ := q41
                  clear o42
                  have hf47 := fz_fr_tr hf hf44 (show fz_su [(18, 99999), (19, 99999)] [(10, 99999), (11, 99999), (12, 99999), (13, 99999), (14, 99999), (18, 99999), (19, 99999)] = true from rfl)
                  have t48 : H39 9 5 = h 9 5 := hf44 9 5 rfl
                  refine fz_iload kX10_needs rfl rfl ?_
                  refine fz_icmp_lt (tgt := 60) kX10_needs rfl (by decide) (fun c49 => ?_) (fun c49 => ?_)
                  · refine fz_iconst ⟨by decide, by decide⟩ kX10_needs rfl ?_
                    refine fz_istore (ls' := [(5, fz_i 1), (0, fz_r 0), (1, fz_i pm), (2, fz_i th), (3, fz_i to), (4, fz_i x)]) kX10_needs rfl (by decide) rfl ?_
                    have lp55 : ∀ (n54 : Nat) (x50 : Int) (H51 : fz_H), fz_Iv H51 → fz_fr [(10, 99999), (11, 99999), (12, 99999), (13, 99999), (14, 99999), (18, 99999), (19, 99999)] h H51 → (1 ≤ x50 ∧ x50 ≤ 2147483647) → (H51 9 5 = h 9 5) → (fz_apC h H51 0 (fun _ => (0, 0, 0, 0, 0))) → (9 + 1 - x50).toNat < n54 → fz_R 5 mX10_needs 63 [(5, fz_i x50), (0, fz_r 0), (1, fz_i pm), (2, fz_i th), (3, fz_i to), (4, fz_i x)] [] H51 (qX10_needs h pm th to x) := by
                      intro n54
                      induction n54 with
                      | zero => intro x50 H51 hI52 hf53 hv58 hv59 hv60 hm57; exact absurd hm57 (by omega)
                      | succ n54 ih56 =>
                        intro x50 H51 hI52 hf53 hv58 hv59 hv60 hm57
                        refine fz_iload kX10_needs rfl rfl ?_
                        refine fz_bipush ⟨by decide, by decide⟩ kX10_needs rfl ?_
                        refine fz_icmp_gt (tgt := 127) kX10_needs rfl (by decide) (fun c61 => ?_) (fun c61 => ?_)
                        · refine fz_bipush ⟨by decide, by decide⟩ kX10_needs rfl ?_
                          exact fz_iret kX10_needs rfl rfl (fun _ => ⟨hI52, hf53, _, rfl, (by omega), (by first | exact fz_apC_f (fz_apC_s0 hv60 lost (by omega) (by omega) (by omega) rfl) (funext fun s => lost 10 s rfl) (funext fun s => lost 11 s rfl) (funext fun s => lost 12 s rfl) (funext fun s => lost 13 s rfl) (funext fun s => lost 14 s rfl) | exact hv60 | exact fz_apC_f (fz_apC_z (by omega)) (funext fun s => hf44 10 s rfl) (funext fun s => hf44 11 s rfl) (funext fun s => hf44 12 s rfl) (funext fun s => hf44 13 s rfl) (funext fun s => hf44 14 s rfl) | exact fz_apC_z (by omega))⟩)
                        · refine fz_aload_n kX10_needs rfl rfl ?_
                          refine fz_getR (t := 9) kX10_needs rfl rfl ?_
                          refine fz_iload_n kX10_needs rfl rfl ?_
                          refine fz_iload_n kX10_needs rfl rfl ?_
                          refine fz_sipush ⟨by decide, by decide⟩ kX10_needs rfl ?_
                          refine fz_idivN kX10_needs rfl (by omega) (by omega) (by omega) ?_
                          refine fz_iload_n kX10_needs rfl rfl ?_
                          refine fz_sipush ⟨by decide, by decide⟩ kX10_needs rfl ?_
                          refine fz_iremN kX10_needs rfl (by omega) (by omega) (by omega) ?_
                          refine fz_iload kX10_needs rfl rfl ?_
                          refine fz_callV (d' := 1) (M' := mX4_imagine) (As := [fz_i pm, fz_i (th / 1000), fz_i (th % 1000), fz_i x50]) (st := []) kX10_needs rfl rfl vX4_imagine rfl rfl rfl rfl (Nat.le_of_ble_eq_true rfl) (Nat.le_of_ble_eq_true rfl) (by decide) (sX4_imagine H51 hI52 pm (th / 1000) (th % 1000) x50 (by omega) (by omega) (by omega) (by omega) (by omega)) (fun H63 r64 q65 o66 => ?_)
                          obtain ⟨hI67, hf68, rfl, f69⟩ := q65
                          clear o66
                          have hf70 := fz_fr_tr hf53 hf68 (show fz_su [(10, 99999), (11, 99999), (12, 99999), (13, 99999), (14, 99999)] [(10, 99999), (11, 99999), (12, 99999), (13, 99999), (14, 99999), (18, 99999), (19, 99999)] = true from rfl)
                          have t71 : H63 9 5 = H51 9 5 := hf68 9 5 rfl
                          refine fz_aload_n kX10_needs rfl rfl ?_
                          refine fz_getR (t := 27) kX10_needs rfl rfl ?_
                          refine fz_bipush ⟨by decide, by decide⟩ kX10_needs rfl ?_
                          refine fz_iload_n kX10_needs rfl rfl ?_
                          refine fz_bipush ⟨by decide, by decide⟩ kX10_needs rfl ?_
                          refine fz_idivN kX10_needs rfl (by omega) (by omega) (by omega) ?_
                          refine fz_iload_n kX10_needs rfl rfl ?_
                          refine fz_sipush ⟨by decide, by decide⟩ kX10_needs rfl ?_
                          refine fz_idivN kX10_needs rfl (by omega) (by omega) (by omega) ?_
                          refine fz_iload_n kX10_needs rfl rfl ?_
                          refine fz_sipush ⟨by decide, by decide⟩ kX10_needs rfl ?_
                          refine fz_iremN kX10_needs rfl (by omega) (by omega) (by omega) ?_
                          refine fz_callV (d' := 3) (M' := mX8_loudness) (As := [fz_i 10, fz_i (pm / 10), fz_i (to / 1000), fz_i (to % 1000)]) (st := []) kX10_needs rfl rfl vX8_loudness rfl rfl rfl rfl (Nat.le_of_ble_eq_true rfl) (Nat.le_of_ble_eq_true rfl) (by decide) (sX8_loudness H63 hI67 10 (pm / 10) (to / 1000) (to % 1000) (by omega) (by omega)) (fun H72 r73 q74 o75 => ?_)
                          obtain ⟨hI76, hf77, y79, rfl, f78⟩ := q74
                          clear o75
                          have hf80 := fz_fr_tr hf70 hf77 (show fz_su [(18, 99999), (19, 99999)] [(10, 99999), (11, 99999), (12, 99999), (13, 99999), (14, 99999), (18, 99999), (19, 99999)] = true from rfl)
                          have t81 : H72 9 5 = H63 9 5 := hf77 9 5 rfl
                          refine fz_iload kX10_needs rfl rfl ?_
                          refine fz_icmp_lt (tgt := 121) kX10_needs rfl (by decide) (fun c82 => ?_) (fun c82 => ?_)
                          · refine fz_iincN (ls' := [(5, fz_i (x50 + 1)), (0, fz_r 0), (1, fz_i pm), (2, fz_i th), (3, fz_i to), (4, fz_i x)]) kX10_needs rfl (by decide) rfl (by omega) rfl ?_
                            refine fz_goto (tgt := 63) kX10_needs rfl (by decide) ?_
                            exact ih56 (x50 + 1) H72 hI76 hf80 (by omega) (by omega) (fz_apC_f (fz_apC_s0 hv60 f69 (by omega) (by omega) (by omega) rfl) (funext fun s => hf77 10 s rfl) (funext fun s => hf77 11 s rfl) (funext fun s => hf77 12 s rfl) (funext fun s => hf77 13 s rfl) (funext fun s => hf77 14 s rfl)) (by omega)
                          · refine fz_iload kX10_needs rfl rfl ?_
                            exact fz_iret kX10_needs rfl rfl (fun _ => ⟨hI76, hf80, _, rfl, (by omega), (by first | exact fz_apC_f (fz_apC_s0 hv60 f69 (by omega) (by omega) (by omega) rfl) (funext fun s => hf77 10 s rfl) (funext fun s => hf77 11 s rfl) (funext fun s => hf77 12 s rfl) (funext fun s => hf77 13 s rfl) (funext fun s => hf77 14 s rfl) | exact hv60 | exact fz_apC_f (fz_apC_z (by omega)) (funext fun s => hf44 10 s rfl) (funext fun s => hf44 11 s rfl) (funext fun s => hf44 12 s rfl) (funext fun s => hf44 13 s rfl) (funext fun s => hf44 14 s rfl) | exact fz_apC_z (by omega))⟩)
                    exact lp55 _ 1 H39 hI43 hf47 (by omega) (by omega) (fz_apC_f (fz_apC_z (by omega)) (funext fun s => hf44 10 s rfl) (funext fun s => hf44 11 s rfl) (funext fun s => hf44 12 s rfl) (funext fun s => hf44 13 s rfl) (funext fun s => hf44 14 s rfl)) (Nat.lt_succ_self _)
                  · refine fz_iconst ⟨by decide, by decide⟩ kX10_needs rfl ?_
                    exact fz_iret kX10_needs rfl rfl (fun _ => ⟨hI43, hf47, _, rfl, (by omega), (by first | exact fz_apC_f (fz_apC_s0 lost lost (by omega) (by omega) (by omega) rfl) (funext fun s => lost 10 s rfl) (funext fun s => lost 11 s rfl) (funext fun s => lost 12 s rfl) (funext fun s => lost 13 s rfl) (funext fun s => lost 14 s rfl) | exact lost | exact fz_apC_f (fz_apC_z (by omega)) (funext fun s => hf44 10 s rfl) (funext fun s => hf44 11 s rfl) (funext fun s => hf44 12 s rfl) (funext fun s => hf44 13 s rfl) (funext fun s => hf44 14 s rfl) | exact fz_apC_z (by omega))⟩)
                · exfalso; omega
              · refine fz_if_ne (tgt := 35) kX10_needs rfl (by decide) (fun c87 => ?_) (fun c87 => ?_)
                · exfalso; omega
                · refine fz_iconst ⟨by decide, by decide⟩ kX10_needs rfl ?_
                  exact fz_iret kX10_needs rfl rfl (fun _ => ⟨hI, hf, _, rfl, (by omega), (by first | exact fz_apC_f (fz_apC_s0 lost lost (by omega) (by omega) (by omega) rfl) (funext fun s => lost 10 s rfl) (funext fun s => lost 11 s rfl) (funext fun s => lost 12 s rfl) (funext fun s => lost 13 s rfl) (funext fun s => lost 14 s rfl) | exact lost | exact fz_apC_f (fz_apC_z (by omega)) (funext fun s => lost 10 s rfl) (funext fun s => lost 11 s rfl) (funext fun s => lost 12 s rfl) (funext fun s => lost 13 s rfl) (funext fun s => lost 14 s rfl) | exact fz_apC_z (by omega))⟩)
          · refine fz_if_eq (tgt := 33) kX10_needs rfl (by decide) (fun c89 => ?_) (fun c89 => ?_)
            · refine fz_iconst ⟨by decide, by decide⟩ kX10_needs rfl ?_
              exact fz_iret kX10_needs rfl rfl (fun _ => ⟨hI, hf, _, rfl, (by omega), (by first | exact fz_apC_f (fz_apC_s0 lost lost (by omega) (by omega) (by omega) rfl) (funext fun s => lost 10 s rfl) (funext fun s => lost 11 s rfl) (funext fun s => lost 12 s rfl) (funext fun s => lost 13 s rfl) (funext fun s => lost 14 s rfl) | exact lost | exact fz_apC_f (fz_apC_z (by omega)) (funext fun s => lost 10 s rfl) (funext fun s => lost 11 s rfl) (funext fun s => lost 12 s rfl) (funext fun s => lost 13 s rfl) (funext fun s => lost 14 s rfl) | exact fz_apC_z (by omega))⟩)
            · exfalso; omega
      · refine fz_if_eq (tgt := 33) kX10_needs rfl (by decide) (fun c91 => ?_) (fun c91 => ?_)
        · refine fz_iconst ⟨by decide, by decide⟩ kX10_needs rfl ?_
          exact fz_iret kX10_needs rfl rfl (fun _ => ⟨hI, hf, _, rfl, (by omega), (by first | exact fz_apC_f (fz_apC_s0 lost lost (by omega) (by omega) (by omega) rfl) (funext fun s => lost 10 s rfl) (funext fun s => lost 11 s rfl) (funext fun s => lost 12 s rfl) (funext fun s => lost 13 s rfl) (funext fun s => lost 14 s rfl) | exact lost | exact fz_apC_f (fz_apC_z (by omega)) (funext fun s => lost 10 s rfl) (funext fun s => lost 11 s rfl) (funext fun s => lost 12 s rfl) (funext fun s => lost 13 s rfl) (funext fun s => lost 14 s rfl) | exact fz_apC_z (by omega))⟩)
        · exfalso; omega
  · refine fz_if_eq (tgt := 33) kX10_needs rfl (by decide) (fun c93 => ?_) (fun c93 => ?_)
    · refine fz_iconst ⟨by decide, by decide⟩ kX10_needs rfl ?_
      exact fz_iret kX10_needs rfl rfl (fun _ => ⟨hI, hf, _, rfl, (by omega), (by first | exact fz_apC_f (fz_apC_s0 lost lost (by omega) (by omega) (by omega) rfl) (funext fun s => lost 10 s rfl) (funext fun s => lost 11 s rfl) (funext fun s => lost 12 s rfl) (funext fun s => lost 13 s rfl) (funext fun s => lost 14 s rfl) | exact lost | exact fz_apC_f (fz_apC_z (by omega)) (funext fun s => lost 10 s rfl) (funext fun s => lost 11 s rfl) (funext fun s => lost 12 s rfl) (funext fun s => lost 13 s rfl) (funext fun s => lost 14 s rfl) | exact fz_apC_z (by omega))⟩)
    · exfalso; omega

abbrev qX10_latest (h : fz_H) (pm t to wx : Int) : fz_H → Option fz_V → Prop := fun h' r0 => fz_Iv h' ∧ fz_fr [(10, 99999), (11, 99999), (12, 99999), (13, 99999), (14, 99999), (18, 99999), (19, 99999)] h h' ∧ ∃ r : Int, r0 = some (fz_i r) ∧ ((-2) ≤ r ∧ r ≤ 999) ∧ (fz_apC h h' 0 (fun _ => (0, 0, 0, 0, 0)))
set_option maxHeartbeats 1000000 in
set_option maxRecDepth 100000 in
theorem sX10_latest (h : fz_H) (hI : fz_Iv h) (pm t to wx : Int) : fz_R 5 mX10_latest 0 [(0, fz_r 0), (1, fz_i pm), (2, fz_i t), (3, fz_i to), (4, fz_i wx)] [] h (qX10_latest h pm t to wx) := by
  refine fz_knowl (fun hk => ?_)
  have hr_pm : -2147483648 ≤ pm ∧ pm < 2147483648 := hk _ (List.Mem.tail _ (List.Mem.head _))
  have hr_t : -2147483648 ≤ t ∧ t < 2147483648 := hk _ (List.Mem.tail _ (List.Mem.tail _ (List.Mem.head _)))
  have hr_to : -2147483648 ≤ to ∧ to < 2147483648 := hk _ (List.Mem.tail _ (List.Mem.tail _ (List.Mem.tail _ (List.Mem.head _))))
  have hr_wx : -2147483648 ≤ wx ∧ wx < 2147483648 := hk _ (List.Mem.tail _ (List.Mem.tail _ (List.Mem.tail _ (List.Mem.tail _ (List.Mem.head _)))))
  clear hk
  have hf : fz_fr [(10, 99999), (11, 99999), (12, 99999), (13, 99999), (14, 99999), (18, 99999), (19, 99999)] h h := fz_fr_rf
  have k1 : 0 ≤ h 9 5 ∧ h 9 5 ≤ 10 := hI.1 9 _
  refine fz_iload kX10_latest rfl rfl ?_
  refine fz_bipush ⟨by decide, by decide⟩ kX10_latest rfl ?_
  refine fz_iremT kX10_latest rfl (by decide) (by decide) (fun z2 r3 e4 e5 e6 e7 e8 e9 => ?_)
  refine fz_istore (ls' := [(5, fz_i z2), (0, fz_r 0), (1, fz_i pm), (2, fz_i t), (3, fz_i to), (4, fz_i wx)]) kX10_latest rfl (by decide) rfl ?_
  refine fz_iload kX10_latest rfl rfl ?_
  refine fz_bipush ⟨by decide, by decide⟩ kX10_latest rfl ?_
  refine fz_idivT kX10_latest rfl (by decide) (by omega) (fun z11 r12 e13 e14 e15 e16 e17 e18 e19 => ?_)
  refine fz_istore (ls' := [(6, fz_i z11), (5, fz_i z2), (0, fz_r 0), (1, fz_i pm), (2, fz_i t), (3, fz_i to), (4, fz_i wx)]) kX10_latest rfl (by decide) rfl ?_
  refine fz_aload_n kX10_latest rfl rfl ?_
  refine fz_iload_n kX10_latest rfl rfl ?_
  refine fz_callV (d' := 1) (M' := mX10_isMarkOfOne) (As := [fz_i pm]) (st := []) kX10_latest rfl rfl vX10_isMarkOfOne rfl rfl rfl rfl (Nat.le_of_ble_eq_true rfl) (Nat.le_of_ble_eq_true rfl) (by decide) (sX10_isMarkOfOne h hI pm ) (fun H20 r21 q22 o23 => ?_)
  obtain ⟨e24, y25, rfl, p26⟩ := q22
  subst H20
  clear o23
  rcases p26 with ⟨rfl, c27⟩ | ⟨rfl, c27⟩
  · refine fz_if_eq (tgt := 59) kX10_latest rfl (by decide) (fun c28 => ?_) (fun c28 => ?_)
    · exfalso; omega
    · refine fz_aload_n kX10_latest rfl rfl ?_
      refine fz_getR (t := 1) kX10_latest rfl rfl ?_
      refine fz_iload_n kX10_latest rfl rfl ?_
      have b29 : 0 ≤ h 1 7 ∧ h 1 7 ≤ 8 := hI.1 1 _
      refine fz_callV (d' := 0) (M' := mX2_isTown) (As := [fz_i t]) (st := []) kX10_latest rfl rfl vX2_isTown rfl rfl rfl rfl (Nat.le_of_ble_eq_true rfl) (Nat.le_of_ble_eq_true rfl) (by decide) (sX2_isTown h hI t ) (fun H30 r31 q32 o33 => ?_)
      obtain ⟨e34, y35, rfl, p36⟩ := q32
      subst H30
      clear o33
      rcases p36 with ⟨rfl, c37⟩ | ⟨rfl, c37⟩
      · refine fz_if_eq (tgt := 59) kX10_latest rfl (by decide) (fun c38 => ?_) (fun c38 => ?_)
        · exfalso; omega
        · refine fz_aload_n kX10_latest rfl rfl ?_
          refine fz_iload_n kX10_latest rfl rfl ?_
          refine fz_callV (d' := 1) (M' := mX10_isTownAndHour) (As := [fz_i to]) (st := []) kX10_latest rfl rfl vX10_isTownAndHour rfl rfl rfl rfl (Nat.le_of_ble_eq_true rfl) (Nat.le_of_ble_eq_true rfl) (by decide) (sX10_isTownAndHour h hI to ) (fun H39 r40 q41 o42 => ?_)
          obtain ⟨e43, y44, rfl, p45⟩ := q41
          subst H39
          clear o42
          rcases p45 with ⟨rfl, c46⟩ | ⟨rfl, c46⟩
          · refine fz_if_eq (tgt := 59) kX10_latest rfl (by decide) (fun c47 => ?_) (fun c47 => ?_)
            · exfalso; omega
            · refine fz_aload_n kX10_latest rfl rfl ?_
              refine fz_iload kX10_latest rfl rfl ?_
              refine fz_callV (d' := 0) (M' := mX10_isWeight) (As := [fz_i z11]) (st := []) kX10_latest rfl rfl vX10_isWeight rfl rfl rfl rfl (Nat.le_of_ble_eq_true rfl) (Nat.le_of_ble_eq_true rfl) (by decide) (sX10_isWeight h hI z11 ) (fun H48 r49 q50 o51 => ?_)
              obtain ⟨e52, y53, rfl, p54⟩ := q50
              subst H48
              clear o51
              rcases p54 with ⟨rfl, c55⟩ | ⟨rfl, c55⟩
              · refine fz_if_eq (tgt := 59) kX10_latest rfl (by decide) (fun c56 => ?_) (fun c56 => ?_)
                · exfalso; omega
                · refine fz_aload_n kX10_latest rfl rfl ?_
                  refine fz_iload kX10_latest rfl rfl ?_
                  refine fz_callV (d' := 0) (M' := mX10_isVolume) (As := [fz_i z2]) (st := []) kX10_latest rfl rfl vX10_isVolume rfl rfl rfl rfl (Nat.le_of_ble_eq_true rfl) (Nat.le_of_ble_eq_true rfl) (by decide) (sX10_isVolume h hI z2 ) (fun H57 r58 q59 o60 => ?_)
                  obtain ⟨e61, y62, rfl, p63⟩ := q59
                  subst H57
                  clear o60
                  rcases p63 with ⟨rfl, c64⟩ | ⟨rfl, c64⟩
                  · refine fz_if_ne (tgt := 61) kX10_latest rfl (by decide) (fun c65 => ?_) (fun c65 => ?_)
                    · refine fz_aload_n kX10_latest rfl rfl ?_
                      refine fz_getR (t := 27) kX10_latest rfl rfl ?_
                      refine fz_iload_n kX10_latest rfl rfl ?_
                      refine fz_iload_n kX10_latest rfl rfl ?_
                      refine fz_sipush ⟨by decide, by decide⟩ kX10_latest rfl ?_
                      refine fz_idivN kX10_latest rfl (by omega) (by omega) (by omega) ?_
                      refine fz_iload_n kX10_latest rfl rfl ?_
                      refine fz_sipush ⟨by decide, by decide⟩ kX10_latest rfl ?_
                      refine fz_iremN kX10_latest rfl (by omega) (by omega) (by omega) ?_
                      refine fz_callV (d' := 4) (M' := mX8_loudestOf) (As := [fz_i pm, fz_i (to / 1000), fz_i (to % 1000)]) (st := []) kX10_latest rfl rfl vX8_loudestOf rfl rfl rfl rfl (Nat.le_of_ble_eq_true rfl) (Nat.le_of_ble_eq_true rfl) (by decide) (sX8_loudestOf h hI pm (to / 1000) (to % 1000) (by omega)) (fun H66 r67 q68 o69 => ?_)
                      obtain ⟨hI70, hf71, y73, rfl, f72⟩ := q68
                      clear o69
                      have hf74 := fz_fr_tr hf hf71 (show fz_su [(18, 99999), (19, 99999)] [(10, 99999), (11, 99999), (12, 99999), (13, 99999), (14, 99999), (18, 99999), (19, 99999)] = true from rfl)
                      have t75 : H66 9 5 = h 9 5 := hf71 9 5 rfl
                      refine fz_iload kX10_latest rfl rfl ?_
                      refine fz_icmp_lt (tgt := 88) kX10_latest rfl (by decide) (fun c76 => ?_) (fun c76 => ?_)
                      · refine fz_sipush ⟨by decide, by decide⟩ kX10_latest rfl ?_
                        refine fz_istore (ls' := [(7, fz_i 999), (6, fz_i z11), (5, fz_i z2), (0, fz_r 0), (1, fz_i pm), (2, fz_i t), (3, fz_i to), (4, fz_i wx)]) kX10_latest rfl (by decide) rfl ?_
                        have lp82 : ∀ (n81 : Nat) (x77 : Int) (H78 : fz_H), fz_Iv H78 → fz_fr [(10, 99999), (11, 99999), (12, 99999), (13, 99999), (14, 99999), (18, 99999), (19, 99999)] h H78 → ((-2147483648) ≤ x77 ∧ x77 ≤ 999) → (H78 9 5 = h 9 5) → (fz_apC h H78 0 (fun _ => (0, 0, 0, 0, 0))) → (x77 + 1 - 0).toNat < n81 → fz_R 5 mX10_latest 93 [(7, fz_i x77), (6, fz_i z11), (5, fz_i z2), (0, fz_r 0), (1, fz_i pm), (2, fz_i t), (3, fz_i to), (4, fz_i wx)] [] H78 (qX10_latest h pm t to wx) := by
                          intro n81
                          induction n81 with
                          | zero => intro x77 H78 hI79 hf80 hv85 hv86 hv87 hm84; exact absurd hm84 (by omega)
                          | succ n81 ih83 =>
                            intro x77 H78 hI79 hf80 hv85 hv86 hv87 hm84
                            refine fz_iload kX10_latest rfl rfl ?_
                            refine fz_if_lt (tgt := 148) kX10_latest rfl (by decide) (fun c88 => ?_) (fun c88 => ?_)
                            · refine fz_bipush ⟨by decide, by decide⟩ kX10_latest rfl ?_
                              exact fz_iret kX10_latest rfl rfl (fun _ => ⟨hI79, hf80, _, rfl, (by omega), (by first | exact fz_apC_f (fz_apC_s0 hv87 lost (by omega) (by omega) (by omega) rfl) (funext fun s => lost 10 s rfl) (funext fun s => lost 11 s rfl) (funext fun s => lost 12 s rfl) (funext fun s => lost 13 s rfl) (funext fun s => lost 14 s rfl) | exact hv87 | exact fz_apC_f (fz_apC_z (by omega)) (funext fun s => hf71 10 s rfl) (funext fun s => hf71 11 s rfl) (funext fun s => hf71 12 s rfl) (funext fun s => hf71 13 s rfl) (funext fun s => hf71 14 s rfl) | exact fz_apC_z (by omega))⟩)
                            · refine fz_aload_n kX10_latest rfl rfl ?_
                              refine fz_getR (t := 9) kX10_latest rfl rfl ?_
                              refine fz_iload_n kX10_latest rfl rfl ?_
                              refine fz_iload_n kX10_latest rfl rfl ?_
                              refine fz_iload kX10_latest rfl rfl ?_
                              refine fz_iload kX10_latest rfl rfl ?_
                              refine fz_callV (d' := 1) (M' := mX4_imagine) (As := [fz_i pm, fz_i t, fz_i x77, fz_i z11]) (st := []) kX10_latest rfl rfl vX4_imagine rfl rfl rfl rfl (Nat.le_of_ble_eq_true rfl) (Nat.le_of_ble_eq_true rfl) (by decide) (sX4_imagine H78 hI79 pm t x77 z11 (by omega) (by omega) (by omega) (by omega) (by omega)) (fun H90 r91 q92 o93 => ?_)
                              obtain ⟨hI94, hf95, rfl, f96⟩ := q92
                              clear o93
                              have hf97 := fz_fr_tr hf80 hf95 (show fz_su [(10, 99999), (11, 99999), (12, 99999), (13, 99999), (14, 99999)] [(10, 99999), (11, 99999), (12, 99999), (13, 99999), (14, 99999), (18, 99999), (19, 99999)] = true from rfl)
                              have t98 : H90 9 5 = H78 9 5 := hf95 9 5 rfl
                              refine fz_aload_n kX10_latest rfl rfl ?_
                              refine fz_getR (t := 27) kX10_latest rfl rfl ?_
                              refine fz_bipush ⟨by decide, by decide⟩ kX10_latest rfl ?_
                              refine fz_iload_n kX10_latest rfl rfl ?_
                              refine fz_bipush ⟨by decide, by decide⟩ kX10_latest rfl ?_
                              refine fz_idivN kX10_latest rfl (by omega) (by omega) (by omega) ?_
                              refine fz_iload_n kX10_latest rfl rfl ?_
                              refine fz_sipush ⟨by decide, by decide⟩ kX10_latest rfl ?_
                              refine fz_idivN kX10_latest rfl (by omega) (by omega) (by omega) ?_
                              refine fz_iload_n kX10_latest rfl rfl ?_
                              refine fz_sipush ⟨by decide, by decide⟩ kX10_latest rfl ?_
                              refine fz_iremN kX10_latest rfl (by omega) (by omega) (by omega) ?_
                              refine fz_callV (d' := 3) (M' := mX8_loudness) (As := [fz_i 10, fz_i (pm / 10), fz_i (to / 1000), fz_i (to % 1000)]) (st := []) kX10_latest rfl rfl vX8_loudness rfl rfl rfl rfl (Nat.le_of_ble_eq_true rfl) (Nat.le_of_ble_eq_true rfl) (by decide) (sX8_loudness H90 hI94 10 (pm / 10) (to / 1000) (to % 1000) (by omega) (by omega)) (fun H99 r100 q101 o102 => ?_)
                              obtain ⟨hI103, hf104, y106, rfl, f105⟩ := q101
                              clear o102
                              have hf107 := fz_fr_tr hf97 hf104 (show fz_su [(18, 99999), (19, 99999)] [(10, 99999), (11, 99999), (12, 99999), (13, 99999), (14, 99999), (18, 99999), (19, 99999)] = true from rfl)
                              have t108 : H99 9 5 = H90 9 5 := hf104 9 5 rfl
                              refine fz_iload kX10_latest rfl rfl ?_
                              refine fz_icmp_lt (tgt := 142) kX10_latest rfl (by decide) (fun c109 => ?_) (fun c109 => ?_)
                              · refine fz_iincN (ls' := [(7, fz_i (x77 + (-1))), (6, fz_i z11), (5, fz_i z2), (0, fz_r 0), (1, fz_i pm), (2, fz_i t), (3, fz_i to), (4, fz_i wx)]) kX10_latest rfl (by decide) rfl (by omega) rfl ?_
                                refine fz_goto (tgt := 93) kX10_latest rfl (by decide) ?_
                                exact ih83 (x77 + (-1)) H99 hI103 hf107 (by omega) (by omega) (fz_apC_f (fz_apC_s0 hv87 f96 (by omega) (by omega) (by omega) rfl) (funext fun s => hf104 10 s rfl) (funext fun s => hf104 11 s rfl) (funext fun s => hf104 12 s rfl) (funext fun s => hf104 13 s rfl) (funext fun s => hf104 14 s rfl)) (by omega)
                              · refine fz_iload kX10_latest rfl rfl ?_
                                exact fz_iret kX10_latest rfl rfl (fun _ => ⟨hI103, hf107, _, rfl, (by omega), (by first | exact fz_apC_f (fz_apC_s0 hv87 f96 (by omega) (by omega) (by omega) rfl) (funext fun s => hf104 10 s rfl) (funext fun s => hf104 11 s rfl) (funext fun s => hf104 12 s rfl) (funext fun s => hf104 13 s rfl) (funext fun s => hf104 14 s rfl) | exact hv87 | exact fz_apC_f (fz_apC_z (by omega)) (funext fun s => hf71 10 s rfl) (funext fun s => hf71 11 s rfl) (funext fun s => hf71 12 s rfl) (funext fun s => hf71 13 s rfl) (funext fun s => hf71 14 s rfl) | exact fz_apC_z (by omega))⟩)
                        exact lp82 _ 999 H66 hI70 hf74 (by omega) (by omega) (fz_apC_f (fz_apC_z (by omega)) (funext fun s => hf71 10 s rfl) (funext fun s => hf71 11 s rfl) (funext fun s => hf71 12 s rfl) (funext fun s => hf71 13 s rfl) (funext fun s => hf71 14 s rfl)) (Nat.lt_succ_self _)
                      · refine fz_sipush ⟨by decide, by decide⟩ kX10_latest rfl ?_
                        exact fz_iret kX10_latest rfl rfl (fun _ => ⟨hI70, hf74, _, rfl, (by omega), (by first | exact fz_apC_f (fz_apC_s0 lost lost (by omega) (by omega) (by omega) rfl) (funext fun s => lost 10 s rfl) (funext fun s => lost 11 s rfl) (funext fun s => lost 12 s rfl) (funext fun s => lost 13 s rfl) (funext fun s => lost 14 s rfl) | exact lost | exact fz_apC_f (fz_apC_z (by omega)) (funext fun s => hf71 10 s rfl) (funext fun s => hf71 11 s rfl) (funext fun s => hf71 12 s rfl) (funext fun s => hf71 13 s rfl) (funext fun s => hf71 14 s rfl) | exact fz_apC_z (by omega))⟩)
                    · exfalso; omega
                  · refine fz_if_ne (tgt := 61) kX10_latest rfl (by decide) (fun c114 => ?_) (fun c114 => ?_)
                    · exfalso; omega
                    · refine fz_iconst ⟨by decide, by decide⟩ kX10_latest rfl ?_
                      exact fz_iret kX10_latest rfl rfl (fun _ => ⟨hI, hf, _, rfl, (by omega), (by first | exact fz_apC_f (fz_apC_s0 lost lost (by omega) (by omega) (by omega) rfl) (funext fun s => lost 10 s rfl) (funext fun s => lost 11 s rfl) (funext fun s => lost 12 s rfl) (funext fun s => lost 13 s rfl) (funext fun s => lost 14 s rfl) | exact lost | exact fz_apC_f (fz_apC_z (by omega)) (funext fun s => lost 10 s rfl) (funext fun s => lost 11 s rfl) (funext fun s => lost 12 s rfl) (funext fun s => lost 13 s rfl) (funext fun s => lost 14 s rfl) | exact fz_apC_z (by omega))⟩)
              · refine fz_if_eq (tgt := 59) kX10_latest rfl (by decide) (fun c116 => ?_) (fun c116 => ?_)
                · refine fz_iconst ⟨by decide, by decide⟩ kX10_latest rfl ?_
                  exact fz_iret kX10_latest rfl rfl (fun _ => ⟨hI, hf, _, rfl, (by omega), (by first | exact fz_apC_f (fz_apC_s0 lost lost (by omega) (by omega) (by omega) rfl) (funext fun s => lost 10 s rfl) (funext fun s => lost 11 s rfl) (funext fun s => lost 12 s rfl) (funext fun s => lost 13 s rfl) (funext fun s => lost 14 s rfl) | exact lost | exact fz_apC_f (fz_apC_z (by omega)) (funext fun s => lost 10 s rfl) (funext fun s => lost 11 s rfl) (funext fun s => lost 12 s rfl) (funext fun s => lost 13 s rfl) (funext fun s => lost 14 s rfl) | exact fz_apC_z (by omega))⟩)
                · exfalso; omega
          · refine fz_if_eq (tgt := 59) kX10_latest rfl (by decide) (fun c118 => ?_) (fun c118 => ?_)
            · refine fz_iconst ⟨by decide, by decide⟩ kX10_latest rfl ?_
              exact fz_iret kX10_latest rfl rfl (fun _ => ⟨hI, hf, _, rfl, (by omega), (by first | exact fz_apC_f (fz_apC_s0 lost lost (by omega) (by omega) (by omega) rfl) (funext fun s => lost 10 s rfl) (funext fun s => lost 11 s rfl) (funext fun s => lost 12 s rfl) (funext fun s => lost 13 s rfl) (funext fun s => lost 14 s rfl) | exact lost | exact fz_apC_f (fz_apC_z (by omega)) (funext fun s => lost 10 s rfl) (funext fun s => lost 11 s rfl) (funext fun s => lost 12 s rfl) (funext fun s => lost 13 s rfl) (funext fun s => lost 14 s rfl) | exact fz_apC_z (by omega))⟩)
            · exfalso; omega
      · refine fz_if_eq (tgt := 59) kX10_latest rfl (by decide) (fun c120 => ?_) (fun c120 => ?_)
        · refine fz_iconst ⟨by decide, by decide⟩ kX10_latest rfl ?_
          exact fz_iret kX10_latest rfl rfl (fun _ => ⟨hI, hf, _, rfl, (by omega), (by first | exact fz_apC_f (fz_apC_s0 lost lost (by omega) (by omega) (by omega) rfl) (funext fun s => lost 10 s rfl) (funext fun s => lost 11 s rfl) (funext fun s => lost 12 s rfl) (funext fun s => lost 13 s rfl) (funext fun s => lost 14 s rfl) | exact lost | exact fz_apC_f (fz_apC_z (by omega)) (funext fun s => lost 10 s rfl) (funext fun s => lost 11 s rfl) (funext fun s => lost 12 s rfl) (funext fun s => lost 13 s rfl) (funext fun s => lost 14 s rfl) | exact fz_apC_z (by omega))⟩)
        · exfalso; omega
  · refine fz_if_eq (tgt := 59) kX10_latest rfl (by decide) (fun c122 => ?_) (fun c122 => ?_)
    · refine fz_iconst ⟨by decide, by decide⟩ kX10_latest rfl ?_
      exact fz_iret kX10_latest rfl rfl (fun _ => ⟨hI, hf, _, rfl, (by omega), (by first | exact fz_apC_f (fz_apC_s0 lost lost (by omega) (by omega) (by omega) rfl) (funext fun s => lost 10 s rfl) (funext fun s => lost 11 s rfl) (funext fun s => lost 12 s rfl) (funext fun s => lost 13 s rfl) (funext fun s => lost 14 s rfl) | exact lost | exact fz_apC_f (fz_apC_z (by omega)) (funext fun s => lost 10 s rfl) (funext fun s => lost 11 s rfl) (funext fun s => lost 12 s rfl) (funext fun s => lost 13 s rfl) (funext fun s => lost 14 s rfl) | exact fz_apC_z (by omega))⟩)
    · exfalso; omega

abbrev qX10_cut (h : fz_H) (d t wh : Int) : fz_H → Option fz_V → Prop := fun h' r0 => h' = h ∧ ∃ r : Int, r0 = some (fz_i r) ∧ ((-2147483648) ≤ r ∧ r ≤ 2147483647)
set_option maxHeartbeats 1000000 in
set_option maxRecDepth 100000 in
theorem sX10_cut (h : fz_H) (hI : fz_Iv h) (d t wh : Int) : fz_R 1 mX10_cut 0 [(0, fz_r 0), (1, fz_i d), (2, fz_i t), (3, fz_i wh)] [] h (qX10_cut h d t wh) := by
  refine fz_knowl (fun hk => ?_)
  have hr_d : -2147483648 ≤ d ∧ d < 2147483648 := hk _ (List.Mem.tail _ (List.Mem.head _))
  have hr_t : -2147483648 ≤ t ∧ t < 2147483648 := hk _ (List.Mem.tail _ (List.Mem.tail _ (List.Mem.head _)))
  have hr_wh : -2147483648 ≤ wh ∧ wh < 2147483648 := hk _ (List.Mem.tail _ (List.Mem.tail _ (List.Mem.tail _ (List.Mem.head _))))
  clear hk
  refine fz_aload_n kX10_cut rfl rfl ?_
  refine fz_getR (t := 9) kX10_cut rfl rfl ?_
  refine fz_iload_n kX10_cut rfl rfl ?_
  have b1 : 0 ≤ h 9 5 ∧ h 9 5 ≤ 10 := hI.1 9 _
  refine fz_callV (d' := 0) (M' := mX4_isDeed) (As := [fz_i d]) (st := []) kX10_cut rfl rfl vX4_isDeed rfl rfl rfl rfl (Nat.le_of_ble_eq_true rfl) (Nat.le_of_ble_eq_true rfl) (by decide) (sX4_isDeed h hI d ) (fun H2 r3 q4 o5 => ?_)
  obtain ⟨e6, y7, rfl, p8⟩ := q4
  subst H2
  clear o5
  rcases p8 with ⟨rfl, c9⟩ | ⟨rfl, c9⟩
  · refine fz_if_eq (tgt := 31) kX10_cut rfl (by decide) (fun c10 => ?_) (fun c10 => ?_)
    · exfalso; omega
    · refine fz_aload_n kX10_cut rfl rfl ?_
      refine fz_getR (t := 1) kX10_cut rfl rfl ?_
      refine fz_iload_n kX10_cut rfl rfl ?_
      have b11 : 0 ≤ h 1 7 ∧ h 1 7 ≤ 8 := hI.1 1 _
      refine fz_callV (d' := 0) (M' := mX2_isTown) (As := [fz_i t]) (st := []) kX10_cut rfl rfl vX2_isTown rfl rfl rfl rfl (Nat.le_of_ble_eq_true rfl) (Nat.le_of_ble_eq_true rfl) (by decide) (sX2_isTown h hI t ) (fun H12 r13 q14 o15 => ?_)
      obtain ⟨e16, y17, rfl, p18⟩ := q14
      subst H12
      clear o15
      rcases p18 with ⟨rfl, c19⟩ | ⟨rfl, c19⟩
      · refine fz_if_eq (tgt := 31) kX10_cut rfl (by decide) (fun c20 => ?_) (fun c20 => ?_)
        · exfalso; omega
        · refine fz_iload_n kX10_cut rfl rfl ?_
          refine fz_if_lt (tgt := 31) kX10_cut rfl (by decide) (fun c21 => ?_) (fun c21 => ?_)
          · refine fz_iconst ⟨by decide, by decide⟩ kX10_cut rfl ?_
            exact fz_iret kX10_cut rfl rfl (fun _ => ⟨rfl, _, rfl, (by omega)⟩)
          · refine fz_iload_n kX10_cut rfl rfl ?_
            refine fz_iconst ⟨by decide, by decide⟩ kX10_cut rfl ?_
            refine fz_icmp_le (tgt := 33) kX10_cut rfl (by decide) (fun c22 => ?_) (fun c22 => ?_)
            · refine fz_iconst ⟨by decide, by decide⟩ kX10_cut rfl ?_
              refine fz_istore (ls' := [(4, fz_i 4), (0, fz_r 0), (1, fz_i d), (2, fz_i t), (3, fz_i wh)]) kX10_cut rfl (by decide) rfl ?_
              refine fz_bipush ⟨by decide, by decide⟩ kX10_cut rfl ?_
              refine fz_istore (ls' := [(5, fz_i (-2)), (4, fz_i 4), (0, fz_r 0), (1, fz_i d), (2, fz_i t), (3, fz_i wh)]) kX10_cut rfl (by decide) rfl ?_
              refine fz_iconst ⟨by decide, by decide⟩ kX10_cut rfl ?_
              refine fz_istore (ls' := [(6, fz_i 0), (5, fz_i (-2)), (4, fz_i 4), (0, fz_r 0), (1, fz_i d), (2, fz_i t), (3, fz_i wh)]) kX10_cut rfl (by decide) rfl ?_
              have lp27 : ∀ (n26 : Nat) (x23 : Int) (x24 : Int) (x25 : Int), (0 ≤ x23 ∧ x23 ≤ 2147483647) → ((-2147483648) ≤ x24 ∧ x24 ≤ 2147483647) → ((-2147483648) ≤ x25 ∧ x25 ≤ 2147483647) → ((fz_shl 1 (h 1 8)) - x23).toNat < n26 → fz_R 1 mX10_cut 43 [(6, fz_i x23), (5, fz_i x24), (4, fz_i x25), (0, fz_r 0), (1, fz_i d), (2, fz_i t), (3, fz_i wh)] [] h (qX10_cut h d t wh) := by
                intro n26
                induction n26 with
                | zero => intro x23 x24 x25 hv30 hv31 hv32 hm29; exact absurd hm29 (by omega)
                | succ n26 ih28 =>
                  intro x23 x24 x25 hv30 hv31 hv32 hm29
                  refine fz_iload kX10_cut rfl rfl ?_
                  refine fz_iconst ⟨by decide, by decide⟩ kX10_cut rfl ?_
                  refine fz_aload_n kX10_cut rfl rfl ?_
                  refine fz_getR (t := 1) kX10_cut rfl rfl ?_
                  refine fz_getV (v := h 1 8) kX10_cut rfl rfl rfl ?_
                  have b33 : 0 ≤ h 1 8 ∧ h 1 8 ≤ 12 := hI.1 1 _
                  refine fz_ishl kX10_cut rfl ?_
                  have b34 : -2147483648 ≤ (fz_shl 1 (h 1 8)) ∧ (fz_shl 1 (h 1 8)) < 2147483648 := fz_b32 _
                  refine fz_icmp_ge (tgt := 107) kX10_cut rfl (by decide) (fun c35 => ?_) (fun c35 => ?_)
                  · refine fz_iload kX10_cut rfl rfl ?_
                    refine fz_bipush ⟨by decide, by decide⟩ kX10_cut rfl ?_
                    refine fz_icmp_eq (tgt := 119) kX10_cut rfl (by decide) (fun c36 => ?_) (fun c36 => ?_)
                    · refine fz_iload kX10_cut rfl rfl ?_
                      refine fz_goto (tgt := 126) kX10_cut rfl (by decide) ?_
                      exact fz_iret kX10_cut rfl rfl (fun _ => ⟨rfl, _, rfl, (by omega)⟩)
                    · refine fz_iload_n kX10_cut rfl rfl ?_
                      refine fz_iconst ⟨by decide, by decide⟩ kX10_cut rfl ?_
                      refine fz_icmp_ne (tgt := 124) kX10_cut rfl (by decide) (fun c37 => ?_) (fun c37 => ?_)
                      · refine fz_iload kX10_cut rfl rfl ?_
                        exact fz_iret kX10_cut rfl rfl (fun _ => ⟨rfl, _, rfl, (by omega)⟩)
                      · refine fz_iload kX10_cut rfl rfl ?_
                        refine fz_goto (tgt := 126) kX10_cut rfl (by decide) ?_
                        exact fz_iret kX10_cut rfl rfl (fun _ => ⟨rfl, _, rfl, (by omega)⟩)
                  · refine fz_iload kX10_cut rfl rfl ?_
                    refine fz_callS (d' := 0) (M' := mJ6_bitCount_0f7a4) (As := [fz_i x23]) (st := []) kX10_cut rfl rfl vJ6_bitCount_0f7a4 rfl rfl (Nat.le_of_ble_eq_true rfl) (Nat.le_of_ble_eq_true rfl) (by decide) (sJ6_bitCount_0f7a4 h hI x23 ) (fun H38 r39 q40 o41 => ?_)
                    obtain ⟨e42, y44, rfl, f43⟩ := q40
                    subst H38
                    clear o41
                    refine fz_istore (ls' := [(7, fz_i y44), (6, fz_i x23), (5, fz_i x24), (4, fz_i x25), (0, fz_r 0), (1, fz_i d), (2, fz_i t), (3, fz_i wh)]) kX10_cut rfl (by decide) rfl ?_
                    refine fz_iload kX10_cut rfl rfl ?_
                    refine fz_iload kX10_cut rfl rfl ?_
                    refine fz_icmp_ge (tgt := 101) kX10_cut rfl (by decide) (fun c45 => ?_) (fun c45 => ?_)
                    · refine fz_iincN (ls' := [(6, fz_i (x23 + 1)), (7, fz_i y44), (5, fz_i x24), (4, fz_i x25), (0, fz_r 0), (1, fz_i d), (2, fz_i t), (3, fz_i wh)]) kX10_cut rfl (by decide) rfl (by omega) rfl ?_
                      refine fz_goto (tgt := 43) kX10_cut rfl (by decide) ?_
                      refine fz_sub (fz_pk_sub (ls' := [(6, fz_i (x23 + 1)), (5, fz_i x24), (4, fz_i x25), (0, fz_r 0), (1, fz_i d), (2, fz_i t), (3, fz_i wh)]) [0, 2, 3, 4, 5, 6, 7] rfl) ?_
                      exact ih28 (x23 + 1) x24 x25 (by omega) (by omega) (by omega) (by omega)
                    · refine fz_aload_n kX10_cut rfl rfl ?_
                      refine fz_getR (t := 1) kX10_cut rfl rfl ?_
                      refine fz_aload_n kX10_cut rfl rfl ?_
                      refine fz_getR (t := 9) kX10_cut rfl rfl ?_
                      refine fz_getR (t := 11) kX10_cut rfl rfl ?_
                      refine fz_iload_n kX10_cut rfl rfl ?_
                      refine fz_ialdV (n := 11) (v := h 11 (d.toNat)) kX10_cut rfl rfl (by omega) (by omega) rfl ?_
                      have b46 : 0 ≤ h 11 (d.toNat) ∧ h 11 (d.toNat) ≤ 7 := hI.1 11 _
                      refine fz_iload_n kX10_cut rfl rfl ?_
                      refine fz_iload kX10_cut rfl rfl ?_
                      refine fz_callV (d' := 0) (M' := mX2_isCartedTo) (As := [fz_i (h 11 (d.toNat)), fz_i t, fz_i x23]) (st := []) kX10_cut rfl rfl vX2_isCartedTo rfl rfl rfl rfl (Nat.le_of_ble_eq_true rfl) (Nat.le_of_ble_eq_true rfl) (by decide) (sX2_isCartedTo h hI (h 11 (d.toNat)) t x23 ) (fun H47 r48 q49 o50 => ?_)
                      obtain ⟨e51, y52, rfl, p53⟩ := q49
                      subst H47
                      clear o50
                      refine fz_if_ne (tgt := 101) kX10_cut rfl (by decide) (fun c54 => ?_) (fun c54 => ?_)
                      · refine fz_iincN (ls' := [(6, fz_i (x23 + 1)), (7, fz_i y44), (5, fz_i x24), (4, fz_i x25), (0, fz_r 0), (1, fz_i d), (2, fz_i t), (3, fz_i wh)]) kX10_cut rfl (by decide) rfl (by omega) rfl ?_
                        refine fz_goto (tgt := 43) kX10_cut rfl (by decide) ?_
                        refine fz_sub (fz_pk_sub (ls' := [(6, fz_i (x23 + 1)), (5, fz_i x24), (4, fz_i x25), (0, fz_r 0), (1, fz_i d), (2, fz_i t), (3, fz_i wh)]) [0, 2, 3, 4, 5, 6, 7] rfl) ?_
                        exact ih28 (x23 + 1) x24 x25 (by omega) (by omega) (by omega) (by omega)
                      · refine fz_iload kX10_cut rfl rfl ?_
                        refine fz_istore (ls' := [(4, fz_i y44), (7, fz_i y44), (6, fz_i x23), (5, fz_i x24), (0, fz_r 0), (1, fz_i d), (2, fz_i t), (3, fz_i wh)]) kX10_cut rfl (by decide) rfl ?_
                        refine fz_iload kX10_cut rfl rfl ?_
                        refine fz_istore (ls' := [(5, fz_i x23), (4, fz_i y44), (7, fz_i y44), (6, fz_i x23), (0, fz_r 0), (1, fz_i d), (2, fz_i t), (3, fz_i wh)]) kX10_cut rfl (by decide) rfl ?_
                        refine fz_iincN (ls' := [(6, fz_i (x23 + 1)), (5, fz_i x23), (4, fz_i y44), (7, fz_i y44), (0, fz_r 0), (1, fz_i d), (2, fz_i t), (3, fz_i wh)]) kX10_cut rfl (by decide) rfl (by omega) rfl ?_
                        refine fz_goto (tgt := 43) kX10_cut rfl (by decide) ?_
                        refine fz_sub (fz_pk_sub (ls' := [(6, fz_i (x23 + 1)), (5, fz_i x23), (4, fz_i y44), (0, fz_r 0), (1, fz_i d), (2, fz_i t), (3, fz_i wh)]) [0, 1, 2, 4, 5, 6, 7] rfl) ?_
                        exact ih28 (x23 + 1) x23 y44 (by omega) (by omega) (by omega) (by omega)
              exact lp27 _ 0 (-2) 4 (by omega) (by omega) (by omega) (Nat.lt_succ_self _)
            · refine fz_iconst ⟨by decide, by decide⟩ kX10_cut rfl ?_
              exact fz_iret kX10_cut rfl rfl (fun _ => ⟨rfl, _, rfl, (by omega)⟩)
      · refine fz_if_eq (tgt := 31) kX10_cut rfl (by decide) (fun c55 => ?_) (fun c55 => ?_)
        · refine fz_iconst ⟨by decide, by decide⟩ kX10_cut rfl ?_
          exact fz_iret kX10_cut rfl rfl (fun _ => ⟨rfl, _, rfl, (by omega)⟩)
        · exfalso; omega
  · refine fz_if_eq (tgt := 31) kX10_cut rfl (by decide) (fun c56 => ?_) (fun c56 => ?_)
    · refine fz_iconst ⟨by decide, by decide⟩ kX10_cut rfl ?_
      exact fz_iret kX10_cut rfl rfl (fun _ => ⟨rfl, _, rfl, (by omega)⟩)
    · exfalso; omega

abbrev qX10_arrestsSomewhere (h : fz_H) (d hr : Int) : fz_H → Option fz_V → Prop := fun h' r0 => fz_Iv h' ∧ fz_fr [(18, 99999), (19, 99999)] h h' ∧ ∃ r : Int, r0 = some (fz_i r) ∧ (r = 0 ∨ r = 1)
set_option maxHeartbeats 1000000 in
set_option maxRecDepth 100000 in
theorem sX10_arrestsSomewhere (h : fz_H) (hI : fz_Iv h) (d hr : Int) (hp0 : 0 ≤ d ∧ d < 11) : fz_R 4 mX10_arrestsSomewhere 0 [(0, fz_r 0), (1, fz_i d), (2, fz_i hr)] [] h (qX10_arrestsSomewhere h d hr) := by
  refine fz_knowl (fun hk => ?_)
  have hr_d : -2147483648 ≤ d ∧ d < 2147483648 := hk _ (List.Mem.tail _ (List.Mem.head _))
  have hr_hr : -2147483648 ≤ hr ∧ hr < 2147483648 := hk _ (List.Mem.tail _ (List.Mem.tail _ (List.Mem.head _)))
  clear hk
  have hf : fz_fr [(18, 99999), (19, 99999)] h h := fz_fr_rf
  refine fz_iconst ⟨by decide, by decide⟩ kX10_arrestsSomewhere rfl ?_
  refine fz_istore_n (ls' := [(3, fz_i 0), (0, fz_r 0), (1, fz_i d), (2, fz_i hr)]) kX10_arrestsSomewhere rfl (by decide) rfl ?_
  have lp6 : ∀ (n5 : Nat) (x1 : Int) (H2 : fz_H), fz_Iv H2 → fz_fr [(18, 99999), (19, 99999)] h H2 → (0 ≤ x1 ∧ x1 ≤ 2147483647) → ((h 1 7) - x1).toNat < n5 → fz_R 4 mX10_arrestsSomewhere 2 [(3, fz_i x1), (0, fz_r 0), (1, fz_i d), (2, fz_i hr)] [] H2 (qX10_arrestsSomewhere h d hr) := by
    intro n5
    induction n5 with
    | zero => intro x1 H2 hI3 hf4 hv9 hm8; exact absurd hm8 (by omega)
    | succ n5 ih7 =>
      intro x1 H2 hI3 hf4 hv9 hm8
      refine fz_iload_n kX10_arrestsSomewhere rfl rfl ?_
      refine fz_aload_n kX10_arrestsSomewhere rfl rfl ?_
      refine fz_getR (t := 1) kX10_arrestsSomewhere rfl rfl ?_
      refine fz_getV (v := h 1 7) kX10_arrestsSomewhere rfl rfl (hf4 1 7 rfl) ?_
      have b10 : 0 ≤ h 1 7 ∧ h 1 7 ≤ 8 := hI.1 1 _
      refine fz_icmp_ge (tgt := 50) kX10_arrestsSomewhere rfl (by decide) (fun c11 => ?_) (fun c11 => ?_)
      · refine fz_iconst ⟨by decide, by decide⟩ kX10_arrestsSomewhere rfl ?_
        exact fz_zret kX10_arrestsSomewhere rfl rfl (by omega) ⟨hI3, hf4, _, rfl, (by omega)⟩
      · refine fz_aload_n kX10_arrestsSomewhere rfl rfl ?_
        refine fz_getR (t := 27) kX10_arrestsSomewhere rfl rfl ?_
        refine fz_aload_n kX10_arrestsSomewhere rfl rfl ?_
        refine fz_getR (t := 27) kX10_arrestsSomewhere rfl rfl ?_
        refine fz_iload_n kX10_arrestsSomewhere rfl rfl ?_
        refine fz_aload_n kX10_arrestsSomewhere rfl rfl ?_
        refine fz_getR (t := 9) kX10_arrestsSomewhere rfl rfl ?_
        refine fz_getR (t := 10) kX10_arrestsSomewhere rfl rfl ?_
        refine fz_iload_n kX10_arrestsSomewhere rfl rfl ?_
        refine fz_ialdV (n := 11) (v := h 10 (d.toNat)) kX10_arrestsSomewhere rfl rfl (by omega) (by omega) (hf4 10 _ rfl) ?_
        have b12 : 0 ≤ h 10 (d.toNat) ∧ h 10 (d.toNat) ≤ 3 := hI.1 10 _
        refine fz_iload_n kX10_arrestsSomewhere rfl rfl ?_
        refine fz_iload_n kX10_arrestsSomewhere rfl rfl ?_
        refine fz_callV (d' := 3) (M' := mX8_loudness) (As := [fz_i d, fz_i (h 10 (d.toNat)), fz_i x1, fz_i hr]) (st := [fz_r 27]) kX10_arrestsSomewhere rfl rfl vX8_loudness rfl rfl rfl rfl (Nat.le_of_ble_eq_true rfl) (Nat.le_of_ble_eq_true rfl) (by decide) (sX8_loudness H2 hI3 d (h 10 (d.toNat)) x1 hr (by omega) (by omega)) (fun H13 r14 q15 o16 => ?_)
        obtain ⟨hI17, hf18, y20, rfl, f19⟩ := q15
        clear o16
        have hf21 := fz_fr_tr hf4 hf18 (show fz_su [(18, 99999), (19, 99999)] [(18, 99999), (19, 99999)] = true from rfl)
        refine fz_callV (d' := 0) (M' := mX8_arrestsAt) (As := [fz_i y20]) (st := []) kX10_arrestsSomewhere rfl rfl vX8_arrestsAt rfl rfl rfl rfl (Nat.le_of_ble_eq_true rfl) (Nat.le_of_ble_eq_true rfl) (by decide) (sX8_arrestsAt H13 hI17 y20 ) (fun H22 r23 q24 o25 => ?_)
        obtain ⟨e26, y27, rfl, p28⟩ := q24
        subst H22
        clear o25
        refine fz_if_eq (tgt := 44) kX10_arrestsSomewhere rfl (by decide) (fun c29 => ?_) (fun c29 => ?_)
        · refine fz_iincN (ls' := [(3, fz_i (x1 + 1)), (0, fz_r 0), (1, fz_i d), (2, fz_i hr)]) kX10_arrestsSomewhere rfl (by decide) rfl (by omega) rfl ?_
          refine fz_goto (tgt := 2) kX10_arrestsSomewhere rfl (by decide) ?_
          exact ih7 (x1 + 1) H13 hI17 hf21 (by omega) (by omega)
        · refine fz_iconst ⟨by decide, by decide⟩ kX10_arrestsSomewhere rfl ?_
          exact fz_zret kX10_arrestsSomewhere rfl rfl (by omega) ⟨hI17, hf21, _, rfl, (by omega)⟩
  exact lp6 _ 0 h hI hf (by omega) (Nat.lt_succ_self _)

abbrev qX10_free (h : fz_H) (on hr wh : Int) : fz_H → Option fz_V → Prop := fun h' r0 => fz_Iv h' ∧ fz_fr [(18, 99999), (19, 99999)] h h' ∧ ∃ r : Int, r0 = some (fz_i r) ∧ ((-2147483648) ≤ r ∧ r ≤ 2147483647)
set_option maxHeartbeats 1000000 in
set_option maxRecDepth 100000 in
theorem sX10_free (h : fz_H) (hI : fz_Iv h) (on hr wh : Int) : fz_R 5 mX10_free 0 [(0, fz_r 0), (1, fz_i on), (2, fz_i hr), (3, fz_i wh)] [] h (qX10_free h on hr wh) := by
  refine fz_knowl (fun hk => ?_)
  have hr_on : -2147483648 ≤ on ∧ on < 2147483648 := hk _ (List.Mem.tail _ (List.Mem.head _))
  have hr_hr : -2147483648 ≤ hr ∧ hr < 2147483648 := hk _ (List.Mem.tail _ (List.Mem.tail _ (List.Mem.head _)))
  have hr_wh : -2147483648 ≤ wh ∧ wh < 2147483648 := hk _ (List.Mem.tail _ (List.Mem.tail _ (List.Mem.tail _ (List.Mem.head _))))
  clear hk
  have hf : fz_fr [(18, 99999), (19, 99999)] h h := fz_fr_rf
  refine fz_aload_n kX10_free rfl rfl ?_
  refine fz_iload_n kX10_free rfl rfl ?_
  refine fz_callV (d' := 0) (M' := mX10_isOne) (As := [fz_i on]) (st := []) kX10_free rfl rfl vX10_isOne rfl rfl rfl rfl (Nat.le_of_ble_eq_true rfl) (Nat.le_of_ble_eq_true rfl) (by decide) (sX10_isOne h hI on ) (fun H1 r2 q3 o4 => ?_)
  obtain ⟨e5, y6, rfl, p7⟩ := q3
  subst H1
  clear o4
  rcases p7 with ⟨rfl, c8⟩ | ⟨rfl, c8⟩
  · refine fz_if_eq (tgt := 25) kX10_free rfl (by decide) (fun c9 => ?_) (fun c9 => ?_)
    · exfalso; omega
    · refine fz_aload_n kX10_free rfl rfl ?_
      refine fz_iload_n kX10_free rfl rfl ?_
      refine fz_callV (d' := 0) (M' := mX10_isHour) (As := [fz_i hr]) (st := []) kX10_free rfl rfl vX10_isHour rfl rfl rfl rfl (Nat.le_of_ble_eq_true rfl) (Nat.le_of_ble_eq_true rfl) (by decide) (sX10_isHour h hI hr ) (fun H10 r11 q12 o13 => ?_)
      obtain ⟨e14, y15, rfl, p16⟩ := q12
      subst H10
      clear o13
      rcases p16 with ⟨rfl, c17⟩ | ⟨rfl, c17⟩
      · refine fz_if_eq (tgt := 25) kX10_free rfl (by decide) (fun c18 => ?_) (fun c18 => ?_)
        · exfalso; omega
        · refine fz_iload_n kX10_free rfl rfl ?_
          refine fz_if_lt (tgt := 25) kX10_free rfl (by decide) (fun c19 => ?_) (fun c19 => ?_)
          · refine fz_iconst ⟨by decide, by decide⟩ kX10_free rfl ?_
            exact fz_iret kX10_free rfl rfl (fun _ => ⟨hI, hf, _, rfl, (by omega)⟩)
          · refine fz_iload_n kX10_free rfl rfl ?_
            refine fz_iconst ⟨by decide, by decide⟩ kX10_free rfl ?_
            refine fz_icmp_le (tgt := 27) kX10_free rfl (by decide) (fun c20 => ?_) (fun c20 => ?_)
            · refine fz_iconst ⟨by decide, by decide⟩ kX10_free rfl ?_
              refine fz_istore (ls' := [(4, fz_i 0), (0, fz_r 0), (1, fz_i on), (2, fz_i hr), (3, fz_i wh)]) kX10_free rfl (by decide) rfl ?_
              refine fz_iconst ⟨by decide, by decide⟩ kX10_free rfl ?_
              refine fz_istore (ls' := [(5, fz_i 0), (4, fz_i 0), (0, fz_r 0), (1, fz_i on), (2, fz_i hr), (3, fz_i wh)]) kX10_free rfl (by decide) rfl ?_
              have lp27 : ∀ (n26 : Nat) (x21 : Int) (x22 : Int) (H23 : fz_H), fz_Iv H23 → fz_fr [(18, 99999), (19, 99999)] h H23 → (0 ≤ x21 ∧ x21 ≤ 2147483647) → ((-2147483648) ≤ x22 ∧ x22 ≤ 2147483647) → ((h 9 5) - x21).toNat < n26 → fz_R 5 mX10_free 33 [(5, fz_i x21), (4, fz_i x22), (0, fz_r 0), (1, fz_i on), (2, fz_i hr), (3, fz_i wh)] [] H23 (qX10_free h on hr wh) := by
                intro n26
                induction n26 with
                | zero => intro x21 x22 H23 hI24 hf25 hv30 hv31 hm29; exact absurd hm29 (by omega)
                | succ n26 ih28 =>
                  intro x21 x22 H23 hI24 hf25 hv30 hv31 hm29
                  refine fz_iload kX10_free rfl rfl ?_
                  refine fz_aload_n kX10_free rfl rfl ?_
                  refine fz_getR (t := 9) kX10_free rfl rfl ?_
                  refine fz_getV (v := h 9 5) kX10_free rfl rfl (hf25 9 5 rfl) ?_
                  have b32 : 0 ≤ h 9 5 ∧ h 9 5 ≤ 10 := hI.1 9 _
                  refine fz_icmp_ge (tgt := 98) kX10_free rfl (by decide) (fun c33 => ?_) (fun c33 => ?_)
                  · refine fz_iload_n kX10_free rfl rfl ?_
                    refine fz_iconst ⟨by decide, by decide⟩ kX10_free rfl ?_
                    refine fz_icmp_ne (tgt := 108) kX10_free rfl (by decide) (fun c34 => ?_) (fun c34 => ?_)
                    · refine fz_iload kX10_free rfl rfl ?_
                      refine fz_callS (d' := 0) (M' := mJ6_bitCount_0f7a4) (As := [fz_i x22]) (st := []) kX10_free rfl rfl vJ6_bitCount_0f7a4 rfl rfl (Nat.le_of_ble_eq_true rfl) (Nat.le_of_ble_eq_true rfl) (by decide) (sJ6_bitCount_0f7a4 H23 hI24 x22 ) (fun H35 r36 q37 o38 => ?_)
                      obtain ⟨e39, y41, rfl, f40⟩ := q37
                      subst H35
                      clear o38
                      exact fz_iret kX10_free rfl rfl (fun _ => ⟨hI24, hf25, _, rfl, (by omega)⟩)
                    · refine fz_iload kX10_free rfl rfl ?_
                      refine fz_goto (tgt := 113) kX10_free rfl (by decide) ?_
                      exact fz_iret kX10_free rfl rfl (fun _ => ⟨hI24, hf25, _, rfl, (by omega)⟩)
                  · refine fz_aload_n kX10_free rfl rfl ?_
                    refine fz_getR (t := 9) kX10_free rfl rfl ?_
                    refine fz_getR (t := 10) kX10_free rfl rfl ?_
                    refine fz_iload kX10_free rfl rfl ?_
                    refine fz_ialdV (n := 11) (v := h 10 (x21.toNat)) kX10_free rfl rfl (by omega) (by omega) (hf25 10 _ rfl) ?_
                    have b42 : 0 ≤ h 10 (x21.toNat) ∧ h 10 (x21.toNat) ≤ 3 := hI.1 10 _
                    refine fz_iload_n kX10_free rfl rfl ?_
                    refine fz_icmp_ne (tgt := 92) kX10_free rfl (by decide) (fun c43 => ?_) (fun c43 => ?_)
                    · refine fz_iincN (ls' := [(5, fz_i (x21 + 1)), (4, fz_i x22), (0, fz_r 0), (1, fz_i on), (2, fz_i hr), (3, fz_i wh)]) kX10_free rfl (by decide) rfl (by omega) rfl ?_
                      refine fz_goto (tgt := 33) kX10_free rfl (by decide) ?_
                      exact ih28 (x21 + 1) x22 H23 hI24 hf25 (by omega) (by omega) (by omega)
                    · refine fz_aload_n kX10_free rfl rfl ?_
                      refine fz_getR (t := 9) kX10_free rfl rfl ?_
                      refine fz_getR (t := 13) kX10_free rfl rfl ?_
                      refine fz_iload kX10_free rfl rfl ?_
                      refine fz_ialdV (n := 11) (v := h 13 (x21.toNat)) kX10_free rfl rfl (by omega) (by omega) (hf25 13 _ rfl) ?_
                      have b44 : 0 ≤ h 13 (x21.toNat) ∧ h 13 (x21.toNat) ≤ 4 := hI.1 13 _
                      refine fz_iconst ⟨by decide, by decide⟩ kX10_free rfl ?_
                      refine fz_icmp_ne (tgt := 92) kX10_free rfl (by decide) (fun c45 => ?_) (fun c45 => ?_)
                      · refine fz_iincN (ls' := [(5, fz_i (x21 + 1)), (4, fz_i x22), (0, fz_r 0), (1, fz_i on), (2, fz_i hr), (3, fz_i wh)]) kX10_free rfl (by decide) rfl (by omega) rfl ?_
                        refine fz_goto (tgt := 33) kX10_free rfl (by decide) ?_
                        exact ih28 (x21 + 1) x22 H23 hI24 hf25 (by omega) (by omega) (by omega)
                      · refine fz_aload_n kX10_free rfl rfl ?_
                        refine fz_iload kX10_free rfl rfl ?_
                        refine fz_iload_n kX10_free rfl rfl ?_
                        refine fz_callV (d' := 4) (M' := mX10_arrestsSomewhere) (As := [fz_i x21, fz_i hr]) (st := []) kX10_free rfl rfl vX10_arrestsSomewhere rfl rfl rfl rfl (Nat.le_of_ble_eq_true rfl) (Nat.le_of_ble_eq_true rfl) (by decide) (sX10_arrestsSomewhere H23 hI24 x21 hr (by omega)) (fun H46 r47 q48 o49 => ?_)
                        obtain ⟨hI50, hf51, y52, rfl, p53⟩ := q48
                        clear o49
                        have hf54 := fz_fr_tr hf25 hf51 (show fz_su [(18, 99999), (19, 99999)] [(18, 99999), (19, 99999)] = true from rfl)
                        refine fz_if_eq (tgt := 92) kX10_free rfl (by decide) (fun c55 => ?_) (fun c55 => ?_)
                        · refine fz_iincN (ls' := [(5, fz_i (x21 + 1)), (4, fz_i x22), (0, fz_r 0), (1, fz_i on), (2, fz_i hr), (3, fz_i wh)]) kX10_free rfl (by decide) rfl (by omega) rfl ?_
                          refine fz_goto (tgt := 33) kX10_free rfl (by decide) ?_
                          exact ih28 (x21 + 1) x22 H46 hI50 hf54 (by omega) (by omega) (by omega)
                        · refine fz_iload kX10_free rfl rfl ?_
                          refine fz_iconst ⟨by decide, by decide⟩ kX10_free rfl ?_
                          refine fz_iload kX10_free rfl rfl ?_
                          refine fz_ishl kX10_free rfl ?_
                          have b56 : -2147483648 ≤ (fz_shl 1 x21) ∧ (fz_shl 1 x21) < 2147483648 := fz_b32 _
                          refine fz_ior kX10_free rfl ?_
                          have b57 : -2147483648 ≤ (fz_or x22 (fz_shl 1 x21)) ∧ (fz_or x22 (fz_shl 1 x21)) < 2147483648 := fz_b32 _
                          refine fz_istore (ls' := [(4, fz_i (fz_or x22 (fz_shl 1 x21))), (5, fz_i x21), (0, fz_r 0), (1, fz_i on), (2, fz_i hr), (3, fz_i wh)]) kX10_free rfl (by decide) rfl ?_
                          refine fz_iincN (ls' := [(5, fz_i (x21 + 1)), (4, fz_i (fz_or x22 (fz_shl 1 x21))), (0, fz_r 0), (1, fz_i on), (2, fz_i hr), (3, fz_i wh)]) kX10_free rfl (by decide) rfl (by omega) rfl ?_
                          refine fz_goto (tgt := 33) kX10_free rfl (by decide) ?_
                          exact ih28 (x21 + 1) (fz_or x22 (fz_shl 1 x21)) H46 hI50 hf54 (by omega) (by omega) (by omega)
              exact lp27 _ 0 0 h hI hf (by omega) (by omega) (Nat.lt_succ_self _)
            · refine fz_iconst ⟨by decide, by decide⟩ kX10_free rfl ?_
              exact fz_iret kX10_free rfl rfl (fun _ => ⟨hI, hf, _, rfl, (by omega)⟩)
      · refine fz_if_eq (tgt := 25) kX10_free rfl (by decide) (fun c58 => ?_) (fun c58 => ?_)
        · refine fz_iconst ⟨by decide, by decide⟩ kX10_free rfl ?_
          exact fz_iret kX10_free rfl rfl (fun _ => ⟨hI, hf, _, rfl, (by omega)⟩)
        · exfalso; omega
  · refine fz_if_eq (tgt := 25) kX10_free rfl (by decide) (fun c59 => ?_) (fun c59 => ?_)
    · refine fz_iconst ⟨by decide, by decide⟩ kX10_free rfl ?_
      exact fz_iret kX10_free rfl rfl (fun _ => ⟨hI, hf, _, rfl, (by omega)⟩)
    · exfalso; omega

abbrev qX10_mixed (h : fz_H) (on ot t hr : Int) : fz_H → Option fz_V → Prop := fun h' r0 => fz_Iv h' ∧ fz_fr [(18, 99999), (19, 99999), (29, 99999)] h h' ∧ ∃ r : Int, r0 = some (fz_i r) ∧ ((-2147483648) ≤ r ∧ r ≤ 2147483647)
set_option maxHeartbeats 1000000 in
set_option maxRecDepth 100000 in
theorem sX10_mixed (h : fz_H) (hI : fz_Iv h) (on ot t hr : Int) (hp0 : 0 ≤ t ∧ t < 8) : fz_R 5 mX10_mixed 0 [(0, fz_r 0), (1, fz_i on), (2, fz_i ot), (3, fz_i t), (4, fz_i hr)] [] h (qX10_mixed h on ot t hr) := by
  refine fz_knowl (fun hk => ?_)
  have hr_on : -2147483648 ≤ on ∧ on < 2147483648 := hk _ (List.Mem.tail _ (List.Mem.head _))
  have hr_ot : -2147483648 ≤ ot ∧ ot < 2147483648 := hk _ (List.Mem.tail _ (List.Mem.tail _ (List.Mem.head _)))
  have hr_t : -2147483648 ≤ t ∧ t < 2147483648 := hk _ (List.Mem.tail _ (List.Mem.tail _ (List.Mem.tail _ (List.Mem.head _))))
  have hr_hr : -2147483648 ≤ hr ∧ hr < 2147483648 := hk _ (List.Mem.tail _ (List.Mem.tail _ (List.Mem.tail _ (List.Mem.tail _ (List.Mem.head _)))))
  clear hk
  have hf : fz_fr [(18, 99999), (19, 99999), (29, 99999)] h h := fz_fr_rf
  refine fz_aload_n kX10_mixed rfl rfl ?_
  refine fz_getR (t := 27) kX10_mixed rfl rfl ?_
  refine fz_iload_n kX10_mixed rfl rfl ?_
  refine fz_iload_n kX10_mixed rfl rfl ?_
  refine fz_iload_n kX10_mixed rfl rfl ?_
  refine fz_iload kX10_mixed rfl rfl ?_
  refine fz_callV (d' := 4) (M' := mX8_listen) (As := [fz_i on, fz_i ot, fz_i t, fz_i hr]) (st := []) kX10_mixed rfl rfl vX8_listen rfl rfl rfl rfl (Nat.le_of_ble_eq_true rfl) (Nat.le_of_ble_eq_true rfl) (by decide) (sX8_listen h hI on ot t hr (by omega)) (fun H1 r2 q3 o4 => ?_)
  obtain ⟨hI5, hf6, rfl⟩ := q3
  clear o4
  have hf7 := fz_fr_tr hf hf6 (show fz_su [(18, 99999), (19, 99999), (29, 99999)] [(18, 99999), (19, 99999), (29, 99999)] = true from rfl)
  refine fz_aload_n kX10_mixed rfl rfl ?_
  refine fz_getR (t := 27) kX10_mixed rfl rfl ?_
  refine fz_callV (d' := 0) (M' := mX8_reception) (As := []) (st := []) kX10_mixed rfl rfl vX8_reception rfl rfl rfl rfl (Nat.le_of_ble_eq_true rfl) (Nat.le_of_ble_eq_true rfl) (by decide) (sX8_reception H1 hI5  ) (fun H8 r9 q10 o11 => ?_)
  obtain ⟨e12, y14, rfl, f13⟩ := q10
  subst H8
  clear o11
  refine fz_istore (ls' := [(5, fz_i y14), (0, fz_r 0), (1, fz_i on), (2, fz_i ot), (3, fz_i t), (4, fz_i hr)]) kX10_mixed rfl (by decide) rfl ?_
  refine fz_aload_n kX10_mixed rfl rfl ?_
  refine fz_getR (t := 27) kX10_mixed rfl rfl ?_
  refine fz_iload_n kX10_mixed rfl rfl ?_
  refine fz_iload_n kX10_mixed rfl rfl ?_
  refine fz_iload_n kX10_mixed rfl rfl ?_
  refine fz_iload kX10_mixed rfl rfl ?_
  refine fz_callV (d' := 4) (M' := mX8_listen) (As := [fz_i on, fz_i on, fz_i t, fz_i hr]) (st := []) kX10_mixed rfl rfl vX8_listen rfl rfl rfl rfl (Nat.le_of_ble_eq_true rfl) (Nat.le_of_ble_eq_true rfl) (by decide) (sX8_listen H1 hI5 on on t hr (by omega)) (fun H15 r16 q17 o18 => ?_)
  obtain ⟨hI19, hf20, rfl⟩ := q17
  clear o18
  have hf21 := fz_fr_tr hf7 hf20 (show fz_su [(18, 99999), (19, 99999), (29, 99999)] [(18, 99999), (19, 99999), (29, 99999)] = true from rfl)
  refine fz_iload kX10_mixed rfl rfl ?_
  refine fz_aload_n kX10_mixed rfl rfl ?_
  refine fz_getR (t := 27) kX10_mixed rfl rfl ?_
  refine fz_callV (d' := 0) (M' := mX8_reception) (As := []) (st := [fz_i y14]) kX10_mixed rfl rfl vX8_reception rfl rfl rfl rfl (Nat.le_of_ble_eq_true rfl) (Nat.le_of_ble_eq_true rfl) (by decide) (sX8_reception H15 hI19  ) (fun H22 r23 q24 o25 => ?_)
  obtain ⟨e26, y28, rfl, f27⟩ := q24
  subst H22
  clear o25
  refine fz_isub kX10_mixed rfl ?_
  refine fz_nmw (fun z29 e30 => ?_)
  exact fz_iret kX10_mixed rfl rfl (fun _ => ⟨hI19, hf21, _, rfl, (by omega)⟩)

abbrev qX10_alike (h : fz_H) (pq th wh : Int) : fz_H → Option fz_V → Prop := fun h' r0 => fz_Iv h' ∧ fz_fr [(18, 99999), (19, 99999), (29, 99999), (30, 99999)] h h' ∧ ∃ r : Int, r0 = some (fz_i r) ∧ ((-2147483648) ≤ r ∧ r ≤ 2147483647)
set_option maxHeartbeats 1000000 in
set_option maxRecDepth 100000 in
theorem sX10_alike (h : fz_H) (hI : fz_Iv h) (pq th wh : Int) : fz_R 6 mX10_alike 0 [(0, fz_r 0), (1, fz_i pq), (2, fz_i th), (3, fz_i wh)] [] h (qX10_alike h pq th wh) := by
  refine fz_knowl (fun hk => ?_)
  have hr_pq : -2147483648 ≤ pq ∧ pq < 2147483648 := hk _ (List.Mem.tail _ (List.Mem.head _))
  have hr_th : -2147483648 ≤ th ∧ th < 2147483648 := hk _ (List.Mem.tail _ (List.Mem.tail _ (List.Mem.head _)))
  have hr_wh : -2147483648 ≤ wh ∧ wh < 2147483648 := hk _ (List.Mem.tail _ (List.Mem.tail _ (List.Mem.tail _ (List.Mem.head _))))
  clear hk
  have hf : fz_fr [(18, 99999), (19, 99999), (29, 99999), (30, 99999)] h h := fz_fr_rf
  refine fz_iload_n kX10_alike rfl rfl ?_
  refine fz_bipush ⟨by decide, by decide⟩ kX10_alike rfl ?_
  refine fz_idivT kX10_alike rfl (by decide) (by omega) (fun z1 r2 e3 e4 e5 e6 e7 e8 e9 => ?_)
  refine fz_istore (ls' := [(4, fz_i z1), (0, fz_r 0), (1, fz_i pq), (2, fz_i th), (3, fz_i wh)]) kX10_alike rfl (by decide) rfl ?_
  refine fz_iload_n kX10_alike rfl rfl ?_
  refine fz_bipush ⟨by decide, by decide⟩ kX10_alike rfl ?_
  refine fz_iremT kX10_alike rfl (by decide) (by decide) (fun z10 r11 e12 e13 e14 e15 e16 e17 => ?_)
  refine fz_istore (ls' := [(5, fz_i z10), (4, fz_i z1), (0, fz_r 0), (1, fz_i pq), (2, fz_i th), (3, fz_i wh)]) kX10_alike rfl (by decide) rfl ?_
  refine fz_aload_n kX10_alike rfl rfl ?_
  refine fz_iload kX10_alike rfl rfl ?_
  refine fz_callV (d' := 0) (M' := mX10_isOne) (As := [fz_i z1]) (st := []) kX10_alike rfl rfl vX10_isOne rfl rfl rfl rfl (Nat.le_of_ble_eq_true rfl) (Nat.le_of_ble_eq_true rfl) (by decide) (sX10_isOne h hI z1 ) (fun H19 r20 q21 o22 => ?_)
  obtain ⟨e23, y24, rfl, p25⟩ := q21
  subst H19
  clear o22
  rcases p25 with ⟨rfl, c26⟩ | ⟨rfl, c26⟩
  · refine fz_if_eq (tgt := 54) kX10_alike rfl (by decide) (fun c27 => ?_) (fun c27 => ?_)
    · exfalso; omega
    · refine fz_aload_n kX10_alike rfl rfl ?_
      refine fz_iload kX10_alike rfl rfl ?_
      refine fz_callV (d' := 0) (M' := mX10_isOne) (As := [fz_i z10]) (st := []) kX10_alike rfl rfl vX10_isOne rfl rfl rfl rfl (Nat.le_of_ble_eq_true rfl) (Nat.le_of_ble_eq_true rfl) (by decide) (sX10_isOne h hI z10 ) (fun H28 r29 q30 o31 => ?_)
      obtain ⟨e32, y33, rfl, p34⟩ := q30
      subst H28
      clear o31
      rcases p34 with ⟨rfl, c35⟩ | ⟨rfl, c35⟩
      · refine fz_if_eq (tgt := 54) kX10_alike rfl (by decide) (fun c36 => ?_) (fun c36 => ?_)
        · exfalso; omega
        · refine fz_iload kX10_alike rfl rfl ?_
          refine fz_iload kX10_alike rfl rfl ?_
          refine fz_icmp_eq (tgt := 54) kX10_alike rfl (by decide) (fun c37 => ?_) (fun c37 => ?_)
          · refine fz_ldc (x := (-2000000000)) kX10_alike rfl rfl rfl ?_
            exact fz_iret kX10_alike rfl rfl (fun _ => ⟨hI, hf, _, rfl, (by omega)⟩)
          · refine fz_aload_n kX10_alike rfl rfl ?_
            refine fz_iload_n kX10_alike rfl rfl ?_
            have b38 : 0 ≤ h 1 7 ∧ h 1 7 ≤ 8 := hI.1 1 _
            refine fz_callV (d' := 1) (M' := mX10_isTownAndHour) (As := [fz_i th]) (st := []) kX10_alike rfl rfl vX10_isTownAndHour rfl rfl rfl rfl (Nat.le_of_ble_eq_true rfl) (Nat.le_of_ble_eq_true rfl) (by decide) (sX10_isTownAndHour h hI th ) (fun H39 r40 q41 o42 => ?_)
            obtain ⟨e43, y44, rfl, p45⟩ := q41
            subst H39
            clear o42
            rcases p45 with ⟨rfl, c46⟩ | ⟨rfl, c46⟩
            · refine fz_if_eq (tgt := 54) kX10_alike rfl (by decide) (fun c47 => ?_) (fun c47 => ?_)
              · exfalso; omega
              · refine fz_iload_n kX10_alike rfl rfl ?_
                refine fz_if_lt (tgt := 54) kX10_alike rfl (by decide) (fun c48 => ?_) (fun c48 => ?_)
                · refine fz_ldc (x := (-2000000000)) kX10_alike rfl rfl rfl ?_
                  exact fz_iret kX10_alike rfl rfl (fun _ => ⟨hI, hf, _, rfl, (by omega)⟩)
                · refine fz_iload_n kX10_alike rfl rfl ?_
                  refine fz_iconst ⟨by decide, by decide⟩ kX10_alike rfl ?_
                  refine fz_icmp_le (tgt := 57) kX10_alike rfl (by decide) (fun c49 => ?_) (fun c49 => ?_)
                  · refine fz_iload_n kX10_alike rfl rfl ?_
                    refine fz_sipush ⟨by decide, by decide⟩ kX10_alike rfl ?_
                    refine fz_idivN kX10_alike rfl (by omega) (by omega) (by omega) ?_
                    refine fz_istore (ls' := [(6, fz_i (th / 1000)), (5, fz_i z10), (4, fz_i z1), (0, fz_r 0), (1, fz_i pq), (2, fz_i th), (3, fz_i wh)]) kX10_alike rfl (by decide) rfl ?_
                    refine fz_iload_n kX10_alike rfl rfl ?_
                    refine fz_sipush ⟨by decide, by decide⟩ kX10_alike rfl ?_
                    refine fz_iremN kX10_alike rfl (by omega) (by omega) (by omega) ?_
                    refine fz_istore (ls' := [(7, fz_i (th % 1000)), (6, fz_i (th / 1000)), (5, fz_i z10), (4, fz_i z1), (0, fz_r 0), (1, fz_i pq), (2, fz_i th), (3, fz_i wh)]) kX10_alike rfl (by decide) rfl ?_
                    refine fz_iload_n kX10_alike rfl rfl ?_
                    refine fz_if_ne (tgt := 91) kX10_alike rfl (by decide) (fun c50 => ?_) (fun c50 => ?_)
                    · refine fz_iload_n kX10_alike rfl rfl ?_
                      refine fz_iconst ⟨by decide, by decide⟩ kX10_alike rfl ?_
                      refine fz_icmp_ne (tgt := 109) kX10_alike rfl (by decide) (fun c51 => ?_) (fun c51 => ?_)
                      · refine fz_iconst ⟨by decide, by decide⟩ kX10_alike rfl ?_
                        refine fz_istore (ls' := [(8, fz_i 0), (7, fz_i (th % 1000)), (6, fz_i (th / 1000)), (5, fz_i z10), (4, fz_i z1), (0, fz_r 0), (1, fz_i pq), (2, fz_i th), (3, fz_i wh)]) kX10_alike rfl (by decide) rfl ?_
                        refine fz_iconst ⟨by decide, by decide⟩ kX10_alike rfl ?_
                        refine fz_istore (ls' := [(9, fz_i 0), (8, fz_i 0), (7, fz_i (th % 1000)), (6, fz_i (th / 1000)), (5, fz_i z10), (4, fz_i z1), (0, fz_r 0), (1, fz_i pq), (2, fz_i th), (3, fz_i wh)]) kX10_alike rfl (by decide) rfl ?_
                        have lp58 : ∀ (n57 : Nat) (x52 : Int) (x53 : Int) (H54 : fz_H), fz_Iv H54 → fz_fr [(18, 99999), (19, 99999), (29, 99999), (30, 99999)] h H54 → (0 ≤ x52 ∧ x52 ≤ 2147483647) → ((-2147483648) ≤ x53 ∧ x53 ≤ 2147483647) → ((h 1 7) - x52).toNat < n57 → fz_R 6 mX10_alike 115 [(9, fz_i x52), (8, fz_i x53), (7, fz_i (th % 1000)), (6, fz_i (th / 1000)), (5, fz_i z10), (4, fz_i z1), (0, fz_r 0), (1, fz_i pq), (2, fz_i th), (3, fz_i wh)] [] H54 (qX10_alike h pq th wh) := by
                          intro n57
                          induction n57 with
                          | zero => intro x52 x53 H54 hI55 hf56 hv61 hv62 hm60; exact absurd hm60 (by omega)
                          | succ n57 ih59 =>
                            intro x52 x53 H54 hI55 hf56 hv61 hv62 hm60
                            refine fz_iload kX10_alike rfl rfl ?_
                            refine fz_aload_n kX10_alike rfl rfl ?_
                            refine fz_getR (t := 1) kX10_alike rfl rfl ?_
                            refine fz_getV (v := h 1 7) kX10_alike rfl rfl (hf56 1 7 rfl) ?_
                            have b63 : 0 ≤ h 1 7 ∧ h 1 7 ≤ 8 := hI.1 1 _
                            refine fz_icmp_ge (tgt := 161) kX10_alike rfl (by decide) (fun c64 => ?_) (fun c64 => ?_)
                            · refine fz_iload kX10_alike rfl rfl ?_
                              exact fz_iret kX10_alike rfl rfl (fun _ => ⟨hI55, hf56, _, rfl, (by omega)⟩)
                            · refine fz_aload_n kX10_alike rfl rfl ?_
                              refine fz_getR (t := 27) kX10_alike rfl rfl ?_
                              refine fz_iload kX10_alike rfl rfl ?_
                              refine fz_iload kX10_alike rfl rfl ?_
                              refine fz_iload kX10_alike rfl rfl ?_
                              refine fz_iload kX10_alike rfl rfl ?_
                              refine fz_callV (d' := 5) (M' := mX8_marksAlike) (As := [fz_i z1, fz_i z10, fz_i x52, fz_i (th % 1000)]) (st := []) kX10_alike rfl rfl vX8_marksAlike rfl rfl rfl rfl (Nat.le_of_ble_eq_true rfl) (Nat.le_of_ble_eq_true rfl) (by decide) (sX8_marksAlike H54 hI55 z1 z10 x52 (th % 1000) (by omega)) (fun H65 r66 q67 o68 => ?_)
                              obtain ⟨hI69, hf70, y72, rfl, f71⟩ := q67
                              clear o68
                              have hf73 := fz_fr_tr hf56 hf70 (show fz_su [(18, 99999), (19, 99999), (29, 99999), (30, 99999)] [(18, 99999), (19, 99999), (29, 99999), (30, 99999)] = true from rfl)
                              refine fz_iconst ⟨by decide, by decide⟩ kX10_alike rfl ?_
                              refine fz_icmp_ge (tgt := 155) kX10_alike rfl (by decide) (fun c74 => ?_) (fun c74 => ?_)
                              · refine fz_iincN (ls' := [(9, fz_i (x52 + 1)), (8, fz_i x53), (7, fz_i (th % 1000)), (6, fz_i (th / 1000)), (5, fz_i z10), (4, fz_i z1), (0, fz_r 0), (1, fz_i pq), (2, fz_i th), (3, fz_i wh)]) kX10_alike rfl (by decide) rfl (by omega) rfl ?_
                                refine fz_goto (tgt := 115) kX10_alike rfl (by decide) ?_
                                exact ih59 (x52 + 1) x53 H65 hI69 hf73 (by omega) (by omega) (by omega)
                              · refine fz_iload kX10_alike rfl rfl ?_
                                refine fz_iconst ⟨by decide, by decide⟩ kX10_alike rfl ?_
                                refine fz_iload kX10_alike rfl rfl ?_
                                refine fz_ishl kX10_alike rfl ?_
                                have b75 : -2147483648 ≤ (fz_shl 1 x52) ∧ (fz_shl 1 x52) < 2147483648 := fz_b32 _
                                refine fz_ior kX10_alike rfl ?_
                                have b76 : -2147483648 ≤ (fz_or x53 (fz_shl 1 x52)) ∧ (fz_or x53 (fz_shl 1 x52)) < 2147483648 := fz_b32 _
                                refine fz_istore (ls' := [(8, fz_i (fz_or x53 (fz_shl 1 x52))), (9, fz_i x52), (7, fz_i (th % 1000)), (6, fz_i (th / 1000)), (5, fz_i z10), (4, fz_i z1), (0, fz_r 0), (1, fz_i pq), (2, fz_i th), (3, fz_i wh)]) kX10_alike rfl (by decide) rfl ?_
                                refine fz_iincN (ls' := [(9, fz_i (x52 + 1)), (8, fz_i (fz_or x53 (fz_shl 1 x52))), (7, fz_i (th % 1000)), (6, fz_i (th / 1000)), (5, fz_i z10), (4, fz_i z1), (0, fz_r 0), (1, fz_i pq), (2, fz_i th), (3, fz_i wh)]) kX10_alike rfl (by decide) rfl (by omega) rfl ?_
                                refine fz_goto (tgt := 115) kX10_alike rfl (by decide) ?_
                                exact ih59 (x52 + 1) (fz_or x53 (fz_shl 1 x52)) H65 hI69 hf73 (by omega) (by omega) (by omega)
                        exact lp58 _ 0 0 h hI hf (by omega) (by omega) (Nat.lt_succ_self _)
                      · refine fz_aload_n kX10_alike rfl rfl ?_
                        refine fz_iload kX10_alike rfl rfl ?_
                        refine fz_iload kX10_alike rfl rfl ?_
                        refine fz_iload kX10_alike rfl rfl ?_
                        refine fz_iload kX10_alike rfl rfl ?_
                        refine fz_callV (d' := 5) (M' := mX10_mixed) (As := [fz_i z1, fz_i z10, fz_i (th / 1000), fz_i (th % 1000)]) (st := []) kX10_alike rfl rfl vX10_mixed rfl rfl rfl rfl (Nat.le_of_ble_eq_true rfl) (Nat.le_of_ble_eq_true rfl) (by decide) (sX10_mixed h hI z1 z10 (th / 1000) (th % 1000) (by omega)) (fun H77 r78 q79 o80 => ?_)
                        obtain ⟨hI81, hf82, y84, rfl, f83⟩ := q79
                        clear o80
                        have hf85 := fz_fr_tr hf hf82 (show fz_su [(18, 99999), (19, 99999), (29, 99999)] [(18, 99999), (19, 99999), (29, 99999), (30, 99999)] = true from rfl)
                        exact fz_iret kX10_alike rfl rfl (fun _ => ⟨hI81, hf85, _, rfl, (by omega)⟩)
                    · refine fz_aload_n kX10_alike rfl rfl ?_
                      refine fz_getR (t := 27) kX10_alike rfl rfl ?_
                      refine fz_iload kX10_alike rfl rfl ?_
                      refine fz_iload kX10_alike rfl rfl ?_
                      refine fz_iload kX10_alike rfl rfl ?_
                      refine fz_iload kX10_alike rfl rfl ?_
                      refine fz_callV (d' := 5) (M' := mX8_marksAlike) (As := [fz_i z1, fz_i z10, fz_i (th / 1000), fz_i (th % 1000)]) (st := []) kX10_alike rfl rfl vX8_marksAlike rfl rfl rfl rfl (Nat.le_of_ble_eq_true rfl) (Nat.le_of_ble_eq_true rfl) (by decide) (sX8_marksAlike h hI z1 z10 (th / 1000) (th % 1000) (by omega)) (fun H86 r87 q88 o89 => ?_)
                      obtain ⟨hI90, hf91, y93, rfl, f92⟩ := q88
                      clear o89
                      have hf94 := fz_fr_tr hf hf91 (show fz_su [(18, 99999), (19, 99999), (29, 99999), (30, 99999)] [(18, 99999), (19, 99999), (29, 99999), (30, 99999)] = true from rfl)
                      exact fz_iret kX10_alike rfl rfl (fun _ => ⟨hI90, hf94, _, rfl, (by omega)⟩)
                  · refine fz_ldc (x := (-2000000000)) kX10_alike rfl rfl rfl ?_
                    exact fz_iret kX10_alike rfl rfl (fun _ => ⟨hI, hf, _, rfl, (by omega)⟩)
            · refine fz_if_eq (tgt := 54) kX10_alike rfl (by decide) (fun c95 => ?_) (fun c95 => ?_)
              · refine fz_ldc (x := (-2000000000)) kX10_alike rfl rfl rfl ?_
                exact fz_iret kX10_alike rfl rfl (fun _ => ⟨hI, hf, _, rfl, (by omega)⟩)
              · exfalso; omega
      · refine fz_if_eq (tgt := 54) kX10_alike rfl (by decide) (fun c96 => ?_) (fun c96 => ?_)
        · refine fz_ldc (x := (-2000000000)) kX10_alike rfl rfl rfl ?_
          exact fz_iret kX10_alike rfl rfl (fun _ => ⟨hI, hf, _, rfl, (by omega)⟩)
        · exfalso; omega
  · refine fz_if_eq (tgt := 54) kX10_alike rfl (by decide) (fun c97 => ?_) (fun c97 => ?_)
    · refine fz_ldc (x := (-2000000000)) kX10_alike rfl rfl rfl ?_
      exact fz_iret kX10_alike rfl rfl (fun _ => ⟨hI, hf, _, rfl, (by omega)⟩)
    · exfalso; omega

abbrev qX10_refusalOfSeen (h : fz_H) (s on th : Int) : fz_H → Option fz_V → Prop := fun h' r0 => h' = h ∧ ∃ r : Int, r0 = some (fz_i r) ∧ ((-12) ≤ r ∧ r ≤ 0) ∧ (0 ≤ r → (0 ≤ s ∧ s ≤ 5 ∧ 0 ≤ on ∧ on ≤ 3 ∧ 0 ≤ th ∧ th ≤ 7999 ∧ th / 1000 ≤ 7))
set_option maxHeartbeats 1000000 in
set_option maxRecDepth 100000 in
theorem sX10_refusalOfSeen (h : fz_H) (hI : fz_Iv h) (s on th : Int) : fz_R 2 mX10_refusalOfSeen 0 [(0, fz_r 0), (1, fz_i s), (2, fz_i on), (3, fz_i th)] [] h (qX10_refusalOfSeen h s on th) := by
  refine fz_knowl (fun hk => ?_)
  have hr_s : -2147483648 ≤ s ∧ s < 2147483648 := hk _ (List.Mem.tail _ (List.Mem.head _))
  have hr_on : -2147483648 ≤ on ∧ on < 2147483648 := hk _ (List.Mem.tail _ (List.Mem.tail _ (List.Mem.head _)))
  have hr_th : -2147483648 ≤ th ∧ th < 2147483648 := hk _ (List.Mem.tail _ (List.Mem.tail _ (List.Mem.tail _ (List.Mem.head _))))
  clear hk
  refine fz_aload_n kX10_refusalOfSeen rfl rfl ?_
  refine fz_getR (t := 47) kX10_refusalOfSeen rfl rfl ?_
  refine fz_iload_n kX10_refusalOfSeen rfl rfl ?_
  refine fz_callV (d' := 0) (M' := mX7_isShelf) (As := [fz_i s]) (st := []) kX10_refusalOfSeen rfl rfl vX7_isShelf rfl rfl rfl rfl (Nat.le_of_ble_eq_true rfl) (Nat.le_of_ble_eq_true rfl) (by decide) (sX7_isShelf h hI s ) (fun H1 r2 q3 o4 => ?_)
  obtain ⟨e5, y6, rfl, p7⟩ := q3
  subst H1
  clear o4
  rcases p7 with ⟨rfl, c8⟩ | ⟨rfl, c8⟩
  · refine fz_if_eq (tgt := 27) kX10_refusalOfSeen rfl (by decide) (fun c9 => ?_) (fun c9 => ?_)
    · exfalso; omega
    · refine fz_aload_n kX10_refusalOfSeen rfl rfl ?_
      refine fz_iload_n kX10_refusalOfSeen rfl rfl ?_
      refine fz_callV (d' := 0) (M' := mX10_isOne) (As := [fz_i on]) (st := []) kX10_refusalOfSeen rfl rfl vX10_isOne rfl rfl rfl rfl (Nat.le_of_ble_eq_true rfl) (Nat.le_of_ble_eq_true rfl) (by decide) (sX10_isOne h hI on ) (fun H10 r11 q12 o13 => ?_)
      obtain ⟨e14, y15, rfl, p16⟩ := q12
      subst H10
      clear o13
      rcases p16 with ⟨rfl, c17⟩ | ⟨rfl, c17⟩
      · refine fz_if_eq (tgt := 27) kX10_refusalOfSeen rfl (by decide) (fun c18 => ?_) (fun c18 => ?_)
        · exfalso; omega
        · refine fz_aload_n kX10_refusalOfSeen rfl rfl ?_
          refine fz_iload_n kX10_refusalOfSeen rfl rfl ?_
          have b19 : 0 ≤ h 1 7 ∧ h 1 7 ≤ 8 := hI.1 1 _
          refine fz_callV (d' := 1) (M' := mX10_isTownAndHour) (As := [fz_i th]) (st := []) kX10_refusalOfSeen rfl rfl vX10_isTownAndHour rfl rfl rfl rfl (Nat.le_of_ble_eq_true rfl) (Nat.le_of_ble_eq_true rfl) (by decide) (sX10_isTownAndHour h hI th ) (fun H20 r21 q22 o23 => ?_)
          obtain ⟨e24, y25, rfl, p26⟩ := q22
          subst H20
          clear o23
          rcases p26 with ⟨rfl, c27⟩ | ⟨rfl, c27⟩
          · refine fz_if_ne (tgt := 29) kX10_refusalOfSeen rfl (by decide) (fun c28 => ?_) (fun c28 => ?_)
            · refine fz_aload_n kX10_refusalOfSeen rfl rfl ?_
              refine fz_getR (t := 47) kX10_refusalOfSeen rfl rfl ?_
              refine fz_iload_n kX10_refusalOfSeen rfl rfl ?_
              refine fz_callV (d' := 0) (M' := mX7_isEmpty) (As := [fz_i s]) (st := []) kX10_refusalOfSeen rfl rfl vX7_isEmpty rfl rfl rfl rfl (Nat.le_of_ble_eq_true rfl) (Nat.le_of_ble_eq_true rfl) (by decide) (sX7_isEmpty h hI s (by omega)) (fun H29 r30 q31 o32 => ?_)
              obtain ⟨e33, y34, rfl, p35⟩ := q31
              subst H29
              clear o32
              rcases p35 with ⟨rfl, c36⟩ | ⟨rfl, c36⟩
              · refine fz_if_eq (tgt := 43) kX10_refusalOfSeen rfl (by decide) (fun c37 => ?_) (fun c37 => ?_)
                · exfalso; omega
                · refine fz_bipush ⟨by decide, by decide⟩ kX10_refusalOfSeen rfl ?_
                  exact fz_iret kX10_refusalOfSeen rfl rfl (fun _ => ⟨rfl, _, rfl, (by omega), (by omega)⟩)
              · refine fz_if_eq (tgt := 43) kX10_refusalOfSeen rfl (by decide) (fun c38 => ?_) (fun c38 => ?_)
                · refine fz_aload_n kX10_refusalOfSeen rfl rfl ?_
                  refine fz_getR (t := 47) kX10_refusalOfSeen rfl rfl ?_
                  refine fz_iload_n kX10_refusalOfSeen rfl rfl ?_
                  refine fz_iconst ⟨by decide, by decide⟩ kX10_refusalOfSeen rfl ?_
                  refine fz_callV (d' := 1) (M' := mX7_holdsRow) (As := [fz_i s, fz_i 0]) (st := []) kX10_refusalOfSeen rfl rfl vX7_holdsRow rfl rfl rfl rfl (Nat.le_of_ble_eq_true rfl) (Nat.le_of_ble_eq_true rfl) (by decide) (sX7_holdsRow h hI s 0 (by omega)) (fun H39 r40 q41 o42 => ?_)
                  obtain ⟨e43, y44, rfl, p45⟩ := q41
                  subst H39
                  clear o42
                  rcases p45 with ⟨rfl, c46⟩ | ⟨rfl, c46⟩
                  · refine fz_if_eq (tgt := 59) kX10_refusalOfSeen rfl (by decide) (fun c47 => ?_) (fun c47 => ?_)
                    · exfalso; omega
                    · refine fz_iconst ⟨by decide, by decide⟩ kX10_refusalOfSeen rfl ?_
                      refine fz_goto (tgt := 61) kX10_refusalOfSeen rfl (by decide) ?_
                      exact fz_iret kX10_refusalOfSeen rfl rfl (fun _ => ⟨rfl, _, rfl, (by omega), (by omega)⟩)
                  · refine fz_if_eq (tgt := 59) kX10_refusalOfSeen rfl (by decide) (fun c48 => ?_) (fun c48 => ?_)
                    · refine fz_bipush ⟨by decide, by decide⟩ kX10_refusalOfSeen rfl ?_
                      exact fz_iret kX10_refusalOfSeen rfl rfl (fun _ => ⟨rfl, _, rfl, (by omega), (by omega)⟩)
                    · exfalso; omega
                · exfalso; omega
            · exfalso; omega
          · refine fz_if_ne (tgt := 29) kX10_refusalOfSeen rfl (by decide) (fun c49 => ?_) (fun c49 => ?_)
            · exfalso; omega
            · refine fz_iconst ⟨by decide, by decide⟩ kX10_refusalOfSeen rfl ?_
              exact fz_iret kX10_refusalOfSeen rfl rfl (fun _ => ⟨rfl, _, rfl, (by omega), (by omega)⟩)
      · refine fz_if_eq (tgt := 27) kX10_refusalOfSeen rfl (by decide) (fun c50 => ?_) (fun c50 => ?_)
        · refine fz_iconst ⟨by decide, by decide⟩ kX10_refusalOfSeen rfl ?_
          exact fz_iret kX10_refusalOfSeen rfl rfl (fun _ => ⟨rfl, _, rfl, (by omega), (by omega)⟩)
        · exfalso; omega
  · refine fz_if_eq (tgt := 27) kX10_refusalOfSeen rfl (by decide) (fun c51 => ?_) (fun c51 => ?_)
    · refine fz_iconst ⟨by decide, by decide⟩ kX10_refusalOfSeen rfl ?_
      exact fz_iret kX10_refusalOfSeen rfl rfl (fun _ => ⟨rfl, _, rfl, (by omega), (by omega)⟩)
    · exfalso; omega

abbrev qX10_firstUnlike (h : fz_H) (s : Int) : fz_H → Option fz_V → Prop := fun h' r0 => h' = h ∧ ∃ r : Int, r0 = some (fz_i r) ∧ ((-2) ≤ r ∧ r ≤ 4)
set_option maxHeartbeats 1000000 in
set_option maxRecDepth 100000 in
theorem sX10_firstUnlike (h : fz_H) (hI : fz_Iv h) (s : Int) (hp0 : 0 ≤ s ∧ s < 6) : fz_R 2 mX10_firstUnlike 0 [(0, fz_r 0), (1, fz_i s)] [] h (qX10_firstUnlike h s) := by
  refine fz_knowl (fun hk => ?_)
  have hr_s : -2147483648 ≤ s ∧ s < 2147483648 := hk _ (List.Mem.tail _ (List.Mem.head _))
  clear hk
  refine fz_iconst ⟨by decide, by decide⟩ kX10_firstUnlike rfl ?_
  refine fz_istore_n (ls' := [(2, fz_i 0), (0, fz_r 0), (1, fz_i s)]) kX10_firstUnlike rfl (by decide) rfl ?_
  have lp3 : ∀ (n2 : Nat) (x1 : Int), (0 ≤ x1 ∧ x1 ≤ 2147483647) → (5 - x1).toNat < n2 → fz_R 2 mX10_firstUnlike 2 [(2, fz_i x1), (0, fz_r 0), (1, fz_i s)] [] h (qX10_firstUnlike h s) := by
    intro n2
    induction n2 with
    | zero => intro x1 hv6 hm5; exact absurd hm5 (by omega)
    | succ n2 ih4 =>
      intro x1 hv6 hm5
      refine fz_iload_n kX10_firstUnlike rfl rfl ?_
      refine fz_iconst ⟨by decide, by decide⟩ kX10_firstUnlike rfl ?_
      refine fz_icmp_ge (tgt := 51) kX10_firstUnlike rfl (by decide) (fun c7 => ?_) (fun c7 => ?_)
      · refine fz_bipush ⟨by decide, by decide⟩ kX10_firstUnlike rfl ?_
        exact fz_iret kX10_firstUnlike rfl rfl (fun _ => ⟨rfl, _, rfl, (by omega)⟩)
      · refine fz_aload_n kX10_firstUnlike rfl rfl ?_
        refine fz_getR (t := 47) kX10_firstUnlike rfl rfl ?_
        refine fz_iload_n kX10_firstUnlike rfl rfl ?_
        refine fz_iload_n kX10_firstUnlike rfl rfl ?_
        refine fz_iconst ⟨by decide, by decide⟩ kX10_firstUnlike rfl ?_
        refine fz_callV (d' := 1) (M' := mX7_hasPlaces) (As := [fz_i s, fz_i x1, fz_i 1]) (st := []) kX10_firstUnlike rfl rfl vX7_hasPlaces rfl rfl rfl rfl (Nat.le_of_ble_eq_true rfl) (Nat.le_of_ble_eq_true rfl) (by decide) (sX7_hasPlaces h hI s x1 1 (by omega)) (fun H8 r9 q10 o11 => ?_)
        obtain ⟨e12, y13, rfl, p14⟩ := q10
        subst H8
        clear o11
        rcases p14 with ⟨rfl, c15⟩ | ⟨rfl, c15⟩
        · refine fz_if_eq (tgt := 51) kX10_firstUnlike rfl (by decide) (fun c16 => ?_) (fun c16 => ?_)
          · exfalso; omega
          · refine fz_aload_n kX10_firstUnlike rfl rfl ?_
            refine fz_getR (t := 47) kX10_firstUnlike rfl rfl ?_
            refine fz_iload_n kX10_firstUnlike rfl rfl ?_
            refine fz_iload_n kX10_firstUnlike rfl rfl ?_
            refine fz_callV (d' := 0) (M' := mX7_get) (As := [fz_i s, fz_i x1]) (st := []) kX10_firstUnlike rfl rfl vX7_get rfl rfl rfl rfl (Nat.le_of_ble_eq_true rfl) (Nat.le_of_ble_eq_true rfl) (by decide) (sX7_get h hI s x1 (by omega) (by omega)) (fun H17 r18 q19 o20 => ?_)
            obtain ⟨e21, y24, rfl, f22, f23⟩ := q19
            subst H17
            clear o20
            refine fz_aload_n kX10_firstUnlike rfl rfl ?_
            refine fz_getR (t := 27) kX10_firstUnlike rfl rfl ?_
            refine fz_getR (t := 29) kX10_firstUnlike rfl rfl ?_
            refine fz_iload_n kX10_firstUnlike rfl rfl ?_
            refine fz_ialdV (n := 5) (v := h 29 (x1.toNat)) kX10_firstUnlike rfl rfl (by omega) (by omega) rfl ?_
            have b25 : (-2147483648) ≤ h 29 (x1.toNat) ∧ h 29 (x1.toNat) ≤ 2147483647 := hI.1 29 _
            refine fz_i2l kX10_firstUnlike rfl ?_
            refine fz_lcmp kX10_firstUnlike rfl ?_
            have b26 := fz_cmp_c y24 (h 29 (x1.toNat))
            refine fz_if_eq (tgt := 45) kX10_firstUnlike rfl (by decide) (fun c27 => ?_) (fun c27 => ?_)
            · refine fz_iincN (ls' := [(2, fz_i (x1 + 1)), (0, fz_r 0), (1, fz_i s)]) kX10_firstUnlike rfl (by decide) rfl (by omega) rfl ?_
              refine fz_goto (tgt := 2) kX10_firstUnlike rfl (by decide) ?_
              exact ih4 (x1 + 1) (by omega) (by omega)
            · refine fz_iload_n kX10_firstUnlike rfl rfl ?_
              exact fz_iret kX10_firstUnlike rfl rfl (fun _ => ⟨rfl, _, rfl, (by omega)⟩)
        · refine fz_if_eq (tgt := 51) kX10_firstUnlike rfl (by decide) (fun c28 => ?_) (fun c28 => ?_)
          · refine fz_bipush ⟨by decide, by decide⟩ kX10_firstUnlike rfl ?_
            exact fz_iret kX10_firstUnlike rfl rfl (fun _ => ⟨rfl, _, rfl, (by omega)⟩)
          · exfalso; omega
  exact lp3 _ 0 (by omega) (Nat.lt_succ_self _)

abbrev qX10_isAsSeen (h : fz_H) (s se : Int) : fz_H → Option fz_V → Prop := fun h' r0 => fz_Iv h' ∧ fz_fr [(29, 99999)] h h' ∧ ∃ r : Int, r0 = some (fz_i r) ∧ (r = 0 ∨ r = 1)
set_option maxHeartbeats 1000000 in
set_option maxRecDepth 100000 in
theorem sX10_isAsSeen (h : fz_H) (hI : fz_Iv h) (s se : Int) (hp0 : 0 ≤ s ∧ s < 6) : fz_R 3 mX10_isAsSeen 0 [(0, fz_r 0), (1, fz_i s), (2, fz_i se)] [] h (qX10_isAsSeen h s se) := by
  refine fz_knowl (fun hk => ?_)
  have hr_s : -2147483648 ≤ s ∧ s < 2147483648 := hk _ (List.Mem.tail _ (List.Mem.head _))
  have hr_se : -2147483648 ≤ se ∧ se < 2147483648 := hk _ (List.Mem.tail _ (List.Mem.tail _ (List.Mem.head _)))
  clear hk
  have hf : fz_fr [(29, 99999)] h h := fz_fr_rf
  refine fz_aload_n kX10_isAsSeen rfl rfl ?_
  refine fz_getR (t := 27) kX10_isAsSeen rfl rfl ?_
  refine fz_iload_n kX10_isAsSeen rfl rfl ?_
  refine fz_callV (d' := 2) (M' := mX8_listenToSet) (As := [fz_i se]) (st := []) kX10_isAsSeen rfl rfl vX8_listenToSet rfl rfl rfl rfl (Nat.le_of_ble_eq_true rfl) (Nat.le_of_ble_eq_true rfl) (by decide) (sX8_listenToSet h hI se ) (fun H1 r2 q3 o4 => ?_)
  obtain ⟨hI5, hf6, rfl⟩ := q3
  clear o4
  have hf7 := fz_fr_tr hf hf6 (show fz_su [(29, 99999)] [(29, 99999)] = true from rfl)
  refine fz_aload_n kX10_isAsSeen rfl rfl ?_
  refine fz_iload_n kX10_isAsSeen rfl rfl ?_
  refine fz_callV (d' := 2) (M' := mX10_firstUnlike) (As := [fz_i s]) (st := []) kX10_isAsSeen rfl rfl vX10_firstUnlike rfl rfl rfl rfl (Nat.le_of_ble_eq_true rfl) (Nat.le_of_ble_eq_true rfl) (by decide) (sX10_firstUnlike H1 hI5 s (by omega)) (fun H8 r9 q10 o11 => ?_)
  obtain ⟨e12, y14, rfl, f13⟩ := q10
  subst H8
  clear o11
  refine fz_bipush ⟨by decide, by decide⟩ kX10_isAsSeen rfl ?_
  refine fz_icmp_ne (tgt := 22) kX10_isAsSeen rfl (by decide) (fun c15 => ?_) (fun c15 => ?_)
  · refine fz_iconst ⟨by decide, by decide⟩ kX10_isAsSeen rfl ?_
    exact fz_zret kX10_isAsSeen rfl rfl (by omega) ⟨hI5, hf7, _, rfl, (by omega)⟩
  · refine fz_iconst ⟨by decide, by decide⟩ kX10_isAsSeen rfl ?_
    refine fz_goto (tgt := 23) kX10_isAsSeen rfl (by decide) ?_
    exact fz_zret kX10_isAsSeen rfl rfl (by omega) ⟨hI5, hf7, _, rfl, (by omega)⟩

abbrev qX10_judge (h : fz_H) (s on th : Int) : fz_H → Option fz_V → Prop := fun h' r0 => fz_Iv h' ∧ fz_fr [(18, 99999), (19, 99999), (29, 99999)] h h' ∧ ∃ r : Int, r0 = some (fz_i r) ∧ ((-12) ≤ r ∧ r ≤ 4)
set_option maxHeartbeats 1000000 in
set_option maxRecDepth 100000 in
theorem sX10_judge (h : fz_H) (hI : fz_Iv h) (s on th : Int) : fz_R 5 mX10_judge 0 [(0, fz_r 0), (1, fz_i s), (2, fz_i on), (3, fz_i th)] [] h (qX10_judge h s on th) := by
  refine fz_knowl (fun hk => ?_)
  have hr_s : -2147483648 ≤ s ∧ s < 2147483648 := hk _ (List.Mem.tail _ (List.Mem.head _))
  have hr_on : -2147483648 ≤ on ∧ on < 2147483648 := hk _ (List.Mem.tail _ (List.Mem.tail _ (List.Mem.head _)))
  have hr_th : -2147483648 ≤ th ∧ th < 2147483648 := hk _ (List.Mem.tail _ (List.Mem.tail _ (List.Mem.tail _ (List.Mem.head _))))
  clear hk
  have hf : fz_fr [(18, 99999), (19, 99999), (29, 99999)] h h := fz_fr_rf
  refine fz_aload_n kX10_judge rfl rfl ?_
  refine fz_iload_n kX10_judge rfl rfl ?_
  refine fz_iload_n kX10_judge rfl rfl ?_
  refine fz_iload_n kX10_judge rfl rfl ?_
  refine fz_callV (d' := 2) (M' := mX10_refusalOfSeen) (As := [fz_i s, fz_i on, fz_i th]) (st := []) kX10_judge rfl rfl vX10_refusalOfSeen rfl rfl rfl rfl (Nat.le_of_ble_eq_true rfl) (Nat.le_of_ble_eq_true rfl) (by decide) (sX10_refusalOfSeen h hI s on th ) (fun H1 r2 q3 o4 => ?_)
  obtain ⟨e5, y8, rfl, f6, f7⟩ := q3
  subst H1
  clear o4
  refine fz_istore (ls' := [(4, fz_i y8), (0, fz_r 0), (1, fz_i s), (2, fz_i on), (3, fz_i th)]) kX10_judge rfl (by decide) rfl ?_
  refine fz_iload kX10_judge rfl rfl ?_
  refine fz_if_ge (tgt := 17) kX10_judge rfl (by decide) (fun c9 => ?_) (fun c9 => ?_)
  · refine fz_aload_n kX10_judge rfl rfl ?_
    refine fz_getR (t := 27) kX10_judge rfl rfl ?_
    refine fz_iload_n kX10_judge rfl rfl ?_
    refine fz_iload_n kX10_judge rfl rfl ?_
    refine fz_iload_n kX10_judge rfl rfl ?_
    refine fz_sipush ⟨by decide, by decide⟩ kX10_judge rfl ?_
    refine fz_idivT kX10_judge rfl (by decide) (by omega) (fun z10 r11 e12 e13 e14 e15 e16 e17 e18 => ?_)
    refine fz_iload_n kX10_judge rfl rfl ?_
    refine fz_sipush ⟨by decide, by decide⟩ kX10_judge rfl ?_
    refine fz_iremT kX10_judge rfl (by decide) (by decide) (fun z19 r20 e21 e22 e23 e24 e25 e26 => ?_)
    refine fz_callV (d' := 4) (M' := mX8_listen) (As := [fz_i on, fz_i on, fz_i z10, fz_i z19]) (st := []) kX10_judge rfl rfl vX8_listen rfl rfl rfl rfl (Nat.le_of_ble_eq_true rfl) (Nat.le_of_ble_eq_true rfl) (by decide) (sX8_listen h hI on on z10 z19 (by omega)) (fun H28 r29 q30 o31 => ?_)
    obtain ⟨hI32, hf33, rfl⟩ := q30
    clear o31
    have hf34 := fz_fr_tr hf hf33 (show fz_su [(18, 99999), (19, 99999), (29, 99999)] [(18, 99999), (19, 99999), (29, 99999)] = true from rfl)
    refine fz_aload_n kX10_judge rfl rfl ?_
    refine fz_iload_n kX10_judge rfl rfl ?_
    refine fz_callV (d' := 2) (M' := mX10_firstUnlike) (As := [fz_i s]) (st := []) kX10_judge rfl rfl vX10_firstUnlike rfl rfl rfl rfl (Nat.le_of_ble_eq_true rfl) (Nat.le_of_ble_eq_true rfl) (by decide) (sX10_firstUnlike H28 hI32 s (by omega)) (fun H35 r36 q37 o38 => ?_)
    obtain ⟨e39, y41, rfl, f40⟩ := q37
    subst H35
    clear o38
    exact fz_iret kX10_judge rfl rfl (fun _ => ⟨hI32, hf34, _, rfl, (by omega)⟩)
  · refine fz_iload kX10_judge rfl rfl ?_
    exact fz_iret kX10_judge rfl rfl (fun _ => ⟨hI, hf, _, rfl, (by omega)⟩)

abbrev qX10_which (h : fz_H) (s on th wh : Int) : fz_H → Option fz_V → Prop := fun h' r0 => fz_Iv h' ∧ fz_fr [(18, 99999), (19, 99999), (29, 99999), (31, 99999)] h h' ∧ ∃ r : Int, r0 = some (fz_i r) ∧ ((-2147483648) ≤ r ∧ r ≤ 2147483647)
set_option maxHeartbeats 1000000 in
set_option maxRecDepth 100000 in
theorem sX10_which (h : fz_H) (hI : fz_Iv h) (s on th wh : Int) : fz_R 5 mX10_which 0 [(0, fz_r 0), (1, fz_i s), (2, fz_i on), (3, fz_i th), (4, fz_i wh)] [] h (qX10_which h s on th wh) := by
  refine fz_knowl (fun hk => ?_)
  have hr_s : -2147483648 ≤ s ∧ s < 2147483648 := hk _ (List.Mem.tail _ (List.Mem.head _))
  have hr_on : -2147483648 ≤ on ∧ on < 2147483648 := hk _ (List.Mem.tail _ (List.Mem.tail _ (List.Mem.head _)))
  have hr_th : -2147483648 ≤ th ∧ th < 2147483648 := hk _ (List.Mem.tail _ (List.Mem.tail _ (List.Mem.tail _ (List.Mem.head _))))
  have hr_wh : -2147483648 ≤ wh ∧ wh < 2147483648 := hk _ (List.Mem.tail _ (List.Mem.tail _ (List.Mem.tail _ (List.Mem.tail _ (List.Mem.head _)))))
  clear hk
  have hf : fz_fr [(18, 99999), (19, 99999), (29, 99999), (31, 99999)] h h := fz_fr_rf
  refine fz_iload kX10_which rfl rfl ?_
  refine fz_if_lt (tgt := 11) kX10_which rfl (by decide) (fun c1 => ?_) (fun c1 => ?_)
  · refine fz_iconst ⟨by decide, by decide⟩ kX10_which rfl ?_
    exact fz_iret kX10_which rfl rfl (fun _ => ⟨hI, hf, _, rfl, (by omega)⟩)
  · refine fz_iload kX10_which rfl rfl ?_
    refine fz_iconst ⟨by decide, by decide⟩ kX10_which rfl ?_
    refine fz_icmp_le (tgt := 13) kX10_which rfl (by decide) (fun c2 => ?_) (fun c2 => ?_)
    · refine fz_aload_n kX10_which rfl rfl ?_
      refine fz_iload_n kX10_which rfl rfl ?_
      refine fz_iload_n kX10_which rfl rfl ?_
      refine fz_iload_n kX10_which rfl rfl ?_
      refine fz_callV (d' := 2) (M' := mX10_refusalOfSeen) (As := [fz_i s, fz_i on, fz_i th]) (st := []) kX10_which rfl rfl vX10_refusalOfSeen rfl rfl rfl rfl (Nat.le_of_ble_eq_true rfl) (Nat.le_of_ble_eq_true rfl) (by decide) (sX10_refusalOfSeen h hI s on th ) (fun H3 r4 q5 o6 => ?_)
      obtain ⟨e7, y10, rfl, f8, f9⟩ := q5
      subst H3
      clear o6
      refine fz_istore (ls' := [(5, fz_i y10), (0, fz_r 0), (1, fz_i s), (2, fz_i on), (3, fz_i th), (4, fz_i wh)]) kX10_which rfl (by decide) rfl ?_
      refine fz_iload kX10_which rfl rfl ?_
      refine fz_if_ge (tgt := 30) kX10_which rfl (by decide) (fun c11 => ?_) (fun c11 => ?_)
      · refine fz_aload_n kX10_which rfl rfl ?_
        refine fz_getR (t := 27) kX10_which rfl rfl ?_
        refine fz_iload_n kX10_which rfl rfl ?_
        refine fz_iload_n kX10_which rfl rfl ?_
        refine fz_sipush ⟨by decide, by decide⟩ kX10_which rfl ?_
        refine fz_idivT kX10_which rfl (by decide) (by omega) (fun z12 r13 e14 e15 e16 e17 e18 e19 e20 => ?_)
        refine fz_iload_n kX10_which rfl rfl ?_
        refine fz_sipush ⟨by decide, by decide⟩ kX10_which rfl ?_
        refine fz_iremT kX10_which rfl (by decide) (by decide) (fun z21 r22 e23 e24 e25 e26 e27 e28 => ?_)
        refine fz_callV (d' := 4) (M' := mX8_weigh) (As := [fz_i on, fz_i z12, fz_i z21]) (st := []) kX10_which rfl rfl vX8_weigh rfl rfl rfl rfl (Nat.le_of_ble_eq_true rfl) (Nat.le_of_ble_eq_true rfl) (by decide) (sX8_weigh h hI on z12 z21 (by omega)) (fun H30 r31 q32 o33 => ?_)
        obtain ⟨hI34, hf35, y37, rfl, f36⟩ := q32
        clear o33
        have hf38 := fz_fr_tr hf hf35 (show fz_su [(18, 99999), (19, 99999), (31, 99999)] [(18, 99999), (19, 99999), (29, 99999), (31, 99999)] = true from rfl)
        refine fz_istore (ls' := [(6, fz_i y37), (5, fz_i y10), (0, fz_r 0), (1, fz_i s), (2, fz_i on), (3, fz_i th), (4, fz_i wh)]) kX10_which rfl (by decide) rfl ?_
        refine fz_iconst ⟨by decide, by decide⟩ kX10_which rfl ?_
        refine fz_istore (ls' := [(7, fz_i 0), (6, fz_i y37), (5, fz_i y10), (0, fz_r 0), (1, fz_i s), (2, fz_i on), (3, fz_i th), (4, fz_i wh)]) kX10_which rfl (by decide) rfl ?_
        refine fz_bipush ⟨by decide, by decide⟩ kX10_which rfl ?_
        refine fz_istore (ls' := [(8, fz_i (-2)), (7, fz_i 0), (6, fz_i y37), (5, fz_i y10), (0, fz_r 0), (1, fz_i s), (2, fz_i on), (3, fz_i th), (4, fz_i wh)]) kX10_which rfl (by decide) rfl ?_
        refine fz_bipush ⟨by decide, by decide⟩ kX10_which rfl ?_
        refine fz_istore (ls' := [(9, fz_i (-2)), (8, fz_i (-2)), (7, fz_i 0), (6, fz_i y37), (5, fz_i y10), (0, fz_r 0), (1, fz_i s), (2, fz_i on), (3, fz_i th), (4, fz_i wh)]) kX10_which rfl (by decide) rfl ?_
        refine fz_iconst ⟨by decide, by decide⟩ kX10_which rfl ?_
        refine fz_istore (ls' := [(10, fz_i 0), (9, fz_i (-2)), (8, fz_i (-2)), (7, fz_i 0), (6, fz_i y37), (5, fz_i y10), (0, fz_r 0), (1, fz_i s), (2, fz_i on), (3, fz_i th), (4, fz_i wh)]) kX10_which rfl (by decide) rfl ?_
        have lp47 : ∀ (n46 : Nat) (x39 : Int) (x40 : Int) (x41 : Int) (x42 : Int) (H43 : fz_H), fz_Iv H43 → fz_fr [(18, 99999), (19, 99999), (29, 99999), (31, 99999)] h H43 → (0 ≤ x39 ∧ x39 ≤ 2147483647) → ((-2147483648) ≤ x40 ∧ x40 ≤ 2147483647) → ((-2147483648) ≤ x41 ∧ x41 ≤ 2147483647) → ((-2147483648) ≤ x42 ∧ x42 ≤ 2147483647) → ((fz_shl 1 (h 9 5)) - x39).toNat < n46 → fz_R 5 mX10_which 64 [(10, fz_i x39), (9, fz_i x40), (8, fz_i x41), (7, fz_i x42), (6, fz_i y37), (5, fz_i y10), (0, fz_r 0), (1, fz_i s), (2, fz_i on), (3, fz_i th), (4, fz_i wh)] [] H43 (qX10_which h s on th wh) := by
          intro n46
          induction n46 with
          | zero => intro x39 x40 x41 x42 H43 hI44 hf45 hv50 hv51 hv52 hv53 hm49; exact absurd hm49 (by omega)
          | succ n46 ih48 =>
            intro x39 x40 x41 x42 H43 hI44 hf45 hv50 hv51 hv52 hv53 hm49
            refine fz_iload kX10_which rfl rfl ?_
            refine fz_iconst ⟨by decide, by decide⟩ kX10_which rfl ?_
            refine fz_aload_n kX10_which rfl rfl ?_
            refine fz_getR (t := 9) kX10_which rfl rfl ?_
            refine fz_getV (v := h 9 5) kX10_which rfl rfl (hf45 9 5 rfl) ?_
            have b54 : 0 ≤ h 9 5 ∧ h 9 5 ≤ 10 := hI.1 9 _
            refine fz_ishl kX10_which rfl ?_
            have b55 : -2147483648 ≤ (fz_shl 1 (h 9 5)) ∧ (fz_shl 1 (h 9 5)) < 2147483648 := fz_b32 _
            refine fz_icmp_ge (tgt := 138) kX10_which rfl (by decide) (fun c56 => ?_) (fun c56 => ?_)
            · refine fz_iload kX10_which rfl rfl ?_
              refine fz_if_ne (tgt := 148) kX10_which rfl (by decide) (fun c57 => ?_) (fun c57 => ?_)
              · refine fz_iload kX10_which rfl rfl ?_
                refine fz_iconst ⟨by decide, by decide⟩ kX10_which rfl ?_
                refine fz_icmp_ne (tgt := 159) kX10_which rfl (by decide) (fun c58 => ?_) (fun c58 => ?_)
                · refine fz_iload kX10_which rfl rfl ?_
                  exact fz_iret kX10_which rfl rfl (fun _ => ⟨hI44, hf45, _, rfl, (by omega)⟩)
                · refine fz_iload kX10_which rfl rfl ?_
                  refine fz_goto (tgt := 161) kX10_which rfl (by decide) ?_
                  exact fz_iret kX10_which rfl rfl (fun _ => ⟨hI44, hf45, _, rfl, (by omega)⟩)
              · refine fz_iload kX10_which rfl rfl ?_
                refine fz_goto (tgt := 161) kX10_which rfl (by decide) ?_
                exact fz_iret kX10_which rfl rfl (fun _ => ⟨hI44, hf45, _, rfl, (by omega)⟩)
            · refine fz_iload kX10_which rfl rfl ?_
              refine fz_iload kX10_which rfl rfl ?_
              refine fz_iconst ⟨by decide, by decide⟩ kX10_which rfl ?_
              refine fz_ixor kX10_which rfl ?_
              have b59 : -2147483648 ≤ (fz_xor y37 (-1)) ∧ (fz_xor y37 (-1)) < 2147483648 := fz_b32 _
              refine fz_iand kX10_which rfl ?_
              have b60 : -2147483648 ≤ (fz_and x39 (fz_xor y37 (-1))) ∧ (fz_and x39 (fz_xor y37 (-1))) < 2147483648 := fz_b32 _
              refine fz_if_ne (tgt := 132) kX10_which rfl (by decide) (fun c61 => ?_) (fun c61 => ?_)
              · refine fz_iincN (ls' := [(10, fz_i (x39 + 1)), (9, fz_i x40), (8, fz_i x41), (7, fz_i x42), (6, fz_i y37), (5, fz_i y10), (0, fz_r 0), (1, fz_i s), (2, fz_i on), (3, fz_i th), (4, fz_i wh)]) kX10_which rfl (by decide) rfl (by omega) rfl ?_
                refine fz_goto (tgt := 64) kX10_which rfl (by decide) ?_
                exact ih48 (x39 + 1) x40 x41 x42 H43 hI44 hf45 (by omega) (by omega) (by omega) (by omega) (by omega)
              · refine fz_aload_n kX10_which rfl rfl ?_
                refine fz_iload_n kX10_which rfl rfl ?_
                refine fz_iload kX10_which rfl rfl ?_
                refine fz_callV (d' := 3) (M' := mX10_isAsSeen) (As := [fz_i s, fz_i x39]) (st := []) kX10_which rfl rfl vX10_isAsSeen rfl rfl rfl rfl (Nat.le_of_ble_eq_true rfl) (Nat.le_of_ble_eq_true rfl) (by decide) (sX10_isAsSeen H43 hI44 s x39 (by omega)) (fun H62 r63 q64 o65 => ?_)
                obtain ⟨hI66, hf67, y68, rfl, p69⟩ := q64
                clear o65
                have hf70 := fz_fr_tr hf45 hf67 (show fz_su [(29, 99999)] [(18, 99999), (19, 99999), (29, 99999), (31, 99999)] = true from rfl)
                refine fz_if_eq (tgt := 132) kX10_which rfl (by decide) (fun c71 => ?_) (fun c71 => ?_)
                · refine fz_iincN (ls' := [(10, fz_i (x39 + 1)), (9, fz_i x40), (8, fz_i x41), (7, fz_i x42), (6, fz_i y37), (5, fz_i y10), (0, fz_r 0), (1, fz_i s), (2, fz_i on), (3, fz_i th), (4, fz_i wh)]) kX10_which rfl (by decide) rfl (by omega) rfl ?_
                  refine fz_goto (tgt := 64) kX10_which rfl (by decide) ?_
                  exact ih48 (x39 + 1) x40 x41 x42 H62 hI66 hf70 (by omega) (by omega) (by omega) (by omega) (by omega)
                · refine fz_iload kX10_which rfl rfl ?_
                  refine fz_if_ne (tgt := 108) kX10_which rfl (by decide) (fun c72 => ?_) (fun c72 => ?_)
                  · refine fz_iload kX10_which rfl rfl ?_
                    refine fz_istore (ls' := [(8, fz_i x41), (10, fz_i x39), (9, fz_i x40), (7, fz_i x42), (6, fz_i y37), (5, fz_i y10), (0, fz_r 0), (1, fz_i s), (2, fz_i on), (3, fz_i th), (4, fz_i wh)]) kX10_which rfl (by decide) rfl ?_
                    refine fz_iload kX10_which rfl rfl ?_
                    refine fz_if_ne (tgt := 122) kX10_which rfl (by decide) (fun c73 => ?_) (fun c73 => ?_)
                    · refine fz_iload kX10_which rfl rfl ?_
                      refine fz_iload kX10_which rfl rfl ?_
                      refine fz_iand kX10_which rfl ?_
                      have b74 : -2147483648 ≤ (fz_and x40 x39) ∧ (fz_and x40 x39) < 2147483648 := fz_b32 _
                      refine fz_istore (ls' := [(9, fz_i (fz_and x40 x39)), (8, fz_i x41), (10, fz_i x39), (7, fz_i x42), (6, fz_i y37), (5, fz_i y10), (0, fz_r 0), (1, fz_i s), (2, fz_i on), (3, fz_i th), (4, fz_i wh)]) kX10_which rfl (by decide) rfl ?_
                      refine fz_iinc (ls' := [(7, fz_i (fz_w (x42 + 1))), (9, fz_i (fz_and x40 x39)), (8, fz_i x41), (10, fz_i x39), (6, fz_i y37), (5, fz_i y10), (0, fz_r 0), (1, fz_i s), (2, fz_i on), (3, fz_i th), (4, fz_i wh)]) kX10_which rfl (by decide) rfl rfl ?_
                      have e76 := fz_w_b (x42 + 1)
                      generalize fz_w (x42 + 1) = z75 at e76 ⊢
                      refine fz_iincN (ls' := [(10, fz_i (x39 + 1)), (7, fz_i z75), (9, fz_i (fz_and x40 x39)), (8, fz_i x41), (6, fz_i y37), (5, fz_i y10), (0, fz_r 0), (1, fz_i s), (2, fz_i on), (3, fz_i th), (4, fz_i wh)]) kX10_which rfl (by decide) rfl (by omega) rfl ?_
                      refine fz_goto (tgt := 64) kX10_which rfl (by decide) ?_
                      refine fz_sub (fz_pk_sub (ls' := [(10, fz_i (x39 + 1)), (9, fz_i (fz_and x40 x39)), (8, fz_i x41), (7, fz_i z75), (6, fz_i y37), (5, fz_i y10), (0, fz_r 0), (1, fz_i s), (2, fz_i on), (3, fz_i th), (4, fz_i wh)]) [0, 2, 3, 1, 4, 5, 6, 7, 8, 9, 10] rfl) ?_
                      exact ih48 (x39 + 1) (fz_and x40 x39) x41 z75 H62 hI66 hf70 (by omega) (by omega) (by omega) (by omega) (by omega)
                    · refine fz_iload kX10_which rfl rfl ?_
                      refine fz_goto (tgt := 127) kX10_which rfl (by decide) ?_
                      refine fz_istore (ls' := [(9, fz_i x39), (8, fz_i x41), (10, fz_i x39), (7, fz_i x42), (6, fz_i y37), (5, fz_i y10), (0, fz_r 0), (1, fz_i s), (2, fz_i on), (3, fz_i th), (4, fz_i wh)]) kX10_which rfl (by decide) rfl ?_
                      refine fz_iincN (ls' := [(7, fz_i (x42 + 1)), (9, fz_i x39), (8, fz_i x41), (10, fz_i x39), (6, fz_i y37), (5, fz_i y10), (0, fz_r 0), (1, fz_i s), (2, fz_i on), (3, fz_i th), (4, fz_i wh)]) kX10_which rfl (by decide) rfl (by omega) rfl ?_
                      refine fz_iincN (ls' := [(10, fz_i (x39 + 1)), (7, fz_i (x42 + 1)), (9, fz_i x39), (8, fz_i x41), (6, fz_i y37), (5, fz_i y10), (0, fz_r 0), (1, fz_i s), (2, fz_i on), (3, fz_i th), (4, fz_i wh)]) kX10_which rfl (by decide) rfl (by omega) rfl ?_
                      refine fz_goto (tgt := 64) kX10_which rfl (by decide) ?_
                      refine fz_sub (fz_pk_sub (ls' := [(10, fz_i (x39 + 1)), (9, fz_i x39), (8, fz_i x41), (7, fz_i (x42 + 1)), (6, fz_i y37), (5, fz_i y10), (0, fz_r 0), (1, fz_i s), (2, fz_i on), (3, fz_i th), (4, fz_i wh)]) [0, 2, 3, 1, 4, 5, 6, 7, 8, 9, 10] rfl) ?_
                      exact ih48 (x39 + 1) x39 x41 (x42 + 1) H62 hI66 hf70 (by omega) (by omega) (by omega) (by omega) (by omega)
                  · refine fz_iload kX10_which rfl rfl ?_
                    refine fz_goto (tgt := 110) kX10_which rfl (by decide) ?_
                    refine fz_istore (ls' := [(8, fz_i x39), (10, fz_i x39), (9, fz_i x40), (7, fz_i x42), (6, fz_i y37), (5, fz_i y10), (0, fz_r 0), (1, fz_i s), (2, fz_i on), (3, fz_i th), (4, fz_i wh)]) kX10_which rfl (by decide) rfl ?_
                    refine fz_iload kX10_which rfl rfl ?_
                    refine fz_if_ne (tgt := 122) kX10_which rfl (by decide) (fun c77 => ?_) (fun c77 => ?_)
                    · exfalso; omega
                    · refine fz_iload kX10_which rfl rfl ?_
                      refine fz_goto (tgt := 127) kX10_which rfl (by decide) ?_
                      refine fz_istore (ls' := [(9, fz_i x39), (8, fz_i x39), (10, fz_i x39), (7, fz_i x42), (6, fz_i y37), (5, fz_i y10), (0, fz_r 0), (1, fz_i s), (2, fz_i on), (3, fz_i th), (4, fz_i wh)]) kX10_which rfl (by decide) rfl ?_
                      refine fz_iincN (ls' := [(7, fz_i (x42 + 1)), (9, fz_i x39), (8, fz_i x39), (10, fz_i x39), (6, fz_i y37), (5, fz_i y10), (0, fz_r 0), (1, fz_i s), (2, fz_i on), (3, fz_i th), (4, fz_i wh)]) kX10_which rfl (by decide) rfl (by omega) rfl ?_
                      refine fz_iincN (ls' := [(10, fz_i (x39 + 1)), (7, fz_i (x42 + 1)), (9, fz_i x39), (8, fz_i x39), (6, fz_i y37), (5, fz_i y10), (0, fz_r 0), (1, fz_i s), (2, fz_i on), (3, fz_i th), (4, fz_i wh)]) kX10_which rfl (by decide) rfl (by omega) rfl ?_
                      refine fz_goto (tgt := 64) kX10_which rfl (by decide) ?_
                      refine fz_sub (fz_pk_sub (ls' := [(10, fz_i (x39 + 1)), (9, fz_i x39), (8, fz_i x39), (7, fz_i (x42 + 1)), (6, fz_i y37), (5, fz_i y10), (0, fz_r 0), (1, fz_i s), (2, fz_i on), (3, fz_i th), (4, fz_i wh)]) [0, 2, 3, 1, 4, 5, 6, 7, 8, 9, 10] rfl) ?_
                      exact ih48 (x39 + 1) x39 x39 (x42 + 1) H62 hI66 hf70 (by omega) (by omega) (by omega) (by omega) (by omega)
        exact lp47 _ 0 (-2) (-2) 0 H30 hI34 hf38 (by omega) (by omega) (by omega) (by omega) (Nat.lt_succ_self _)
      · refine fz_iload kX10_which rfl rfl ?_
        exact fz_iret kX10_which rfl rfl (fun _ => ⟨hI, hf, _, rfl, (by omega)⟩)
    · refine fz_iconst ⟨by decide, by decide⟩ kX10_which rfl ?_
      exact fz_iret kX10_which rfl rfl (fun _ => ⟨hI, hf, _, rfl, (by omega)⟩)

abbrev qX10_first (h : fz_H) (pm tx wh : Int) : fz_H → Option fz_V → Prop := fun h' r0 => fz_Iv h' ∧ fz_fr [(18, 99999), (19, 99999)] h h' ∧ ∃ r : Int, r0 = some (fz_i r) ∧ ((-2) ≤ r ∧ r ≤ 999)
set_option maxHeartbeats 1000000 in
set_option maxRecDepth 100000 in
theorem sX10_first (h : fz_H) (hI : fz_Iv h) (pm tx wh : Int) : fz_R 5 mX10_first 0 [(0, fz_r 0), (1, fz_i pm), (2, fz_i tx), (3, fz_i wh)] [] h (qX10_first h pm tx wh) := by
  refine fz_knowl (fun hk => ?_)
  have hr_pm : -2147483648 ≤ pm ∧ pm < 2147483648 := hk _ (List.Mem.tail _ (List.Mem.head _))
  have hr_tx : -2147483648 ≤ tx ∧ tx < 2147483648 := hk _ (List.Mem.tail _ (List.Mem.tail _ (List.Mem.head _)))
  have hr_wh : -2147483648 ≤ wh ∧ wh < 2147483648 := hk _ (List.Mem.tail _ (List.Mem.tail _ (List.Mem.tail _ (List.Mem.head _))))
  clear hk
  have hf : fz_fr [(18, 99999), (19, 99999)] h h := fz_fr_rf
  refine fz_iload_n kX10_first rfl rfl ?_
  refine fz_bipush ⟨by decide, by decide⟩ kX10_first rfl ?_
  refine fz_idivT kX10_first rfl (by decide) (by omega) (fun z1 r2 e3 e4 e5 e6 e7 e8 e9 => ?_)
  refine fz_istore (ls' := [(4, fz_i z1), (0, fz_r 0), (1, fz_i pm), (2, fz_i tx), (3, fz_i wh)]) kX10_first rfl (by decide) rfl ?_
  refine fz_iload_n kX10_first rfl rfl ?_
  refine fz_bipush ⟨by decide, by decide⟩ kX10_first rfl ?_
  refine fz_iremT kX10_first rfl (by decide) (by decide) (fun z10 r11 e12 e13 e14 e15 e16 e17 => ?_)
  refine fz_istore (ls' := [(5, fz_i z10), (4, fz_i z1), (0, fz_r 0), (1, fz_i pm), (2, fz_i tx), (3, fz_i wh)]) kX10_first rfl (by decide) rfl ?_
  refine fz_aload_n kX10_first rfl rfl ?_
  refine fz_iload_n kX10_first rfl rfl ?_
  refine fz_callV (d' := 1) (M' := mX10_isMarkOfOne) (As := [fz_i pm]) (st := []) kX10_first rfl rfl vX10_isMarkOfOne rfl rfl rfl rfl (Nat.le_of_ble_eq_true rfl) (Nat.le_of_ble_eq_true rfl) (by decide) (sX10_isMarkOfOne h hI pm ) (fun H19 r20 q21 o22 => ?_)
  obtain ⟨e23, y24, rfl, p25⟩ := q21
  subst H19
  clear o22
  rcases p25 with ⟨rfl, c26⟩ | ⟨rfl, c26⟩
  · refine fz_if_eq (tgt := 50) kX10_first rfl (by decide) (fun c27 => ?_) (fun c27 => ?_)
    · exfalso; omega
    · refine fz_aload_n kX10_first rfl rfl ?_
      refine fz_getR (t := 1) kX10_first rfl rfl ?_
      refine fz_iload kX10_first rfl rfl ?_
      have b28 : 0 ≤ h 1 7 ∧ h 1 7 ≤ 8 := hI.1 1 _
      refine fz_callV (d' := 0) (M' := mX2_isTown) (As := [fz_i z1]) (st := []) kX10_first rfl rfl vX2_isTown rfl rfl rfl rfl (Nat.le_of_ble_eq_true rfl) (Nat.le_of_ble_eq_true rfl) (by decide) (sX2_isTown h hI z1 ) (fun H29 r30 q31 o32 => ?_)
      obtain ⟨e33, y34, rfl, p35⟩ := q31
      subst H29
      clear o32
      rcases p35 with ⟨rfl, c36⟩ | ⟨rfl, c36⟩
      · refine fz_if_eq (tgt := 50) kX10_first rfl (by decide) (fun c37 => ?_) (fun c37 => ?_)
        · exfalso; omega
        · refine fz_aload_n kX10_first rfl rfl ?_
          refine fz_iload kX10_first rfl rfl ?_
          refine fz_callV (d' := 0) (M' := mX10_isVolume) (As := [fz_i z10]) (st := []) kX10_first rfl rfl vX10_isVolume rfl rfl rfl rfl (Nat.le_of_ble_eq_true rfl) (Nat.le_of_ble_eq_true rfl) (by decide) (sX10_isVolume h hI z10 ) (fun H38 r39 q40 o41 => ?_)
          obtain ⟨e42, y43, rfl, p44⟩ := q40
          subst H38
          clear o41
          rcases p44 with ⟨rfl, c45⟩ | ⟨rfl, c45⟩
          · refine fz_if_eq (tgt := 50) kX10_first rfl (by decide) (fun c46 => ?_) (fun c46 => ?_)
            · exfalso; omega
            · refine fz_iload_n kX10_first rfl rfl ?_
              refine fz_if_lt (tgt := 50) kX10_first rfl (by decide) (fun c47 => ?_) (fun c47 => ?_)
              · refine fz_iconst ⟨by decide, by decide⟩ kX10_first rfl ?_
                exact fz_iret kX10_first rfl rfl (fun _ => ⟨hI, hf, _, rfl, (by omega)⟩)
              · refine fz_iload_n kX10_first rfl rfl ?_
                refine fz_iconst ⟨by decide, by decide⟩ kX10_first rfl ?_
                refine fz_icmp_le (tgt := 52) kX10_first rfl (by decide) (fun c48 => ?_) (fun c48 => ?_)
                · refine fz_iconst ⟨by decide, by decide⟩ kX10_first rfl ?_
                  refine fz_istore (ls' := [(6, fz_i 0), (5, fz_i z10), (4, fz_i z1), (0, fz_r 0), (1, fz_i pm), (2, fz_i tx), (3, fz_i wh)]) kX10_first rfl (by decide) rfl ?_
                  have lp54 : ∀ (n53 : Nat) (x49 : Int) (H50 : fz_H), fz_Iv H50 → fz_fr [(18, 99999), (19, 99999)] h H50 → (0 ≤ x49 ∧ x49 ≤ 2147483647) → (999 + 1 - x49).toNat < n53 → fz_R 5 mX10_first 55 [(6, fz_i x49), (5, fz_i z10), (4, fz_i z1), (0, fz_r 0), (1, fz_i pm), (2, fz_i tx), (3, fz_i wh)] [] H50 (qX10_first h pm tx wh) := by
                    intro n53
                    induction n53 with
                    | zero => intro x49 H50 hI51 hf52 hv57 hm56; exact absurd hm56 (by omega)
                    | succ n53 ih55 =>
                      intro x49 H50 hI51 hf52 hv57 hm56
                      refine fz_iload kX10_first rfl rfl ?_
                      refine fz_sipush ⟨by decide, by decide⟩ kX10_first rfl ?_
                      refine fz_icmp_gt (tgt := 106) kX10_first rfl (by decide) (fun c58 => ?_) (fun c58 => ?_)
                      · refine fz_bipush ⟨by decide, by decide⟩ kX10_first rfl ?_
                        exact fz_iret kX10_first rfl rfl (fun _ => ⟨hI51, hf52, _, rfl, (by omega)⟩)
                      · refine fz_iload_n kX10_first rfl rfl ?_
                        refine fz_if_ne (tgt := 72) kX10_first rfl (by decide) (fun c59 => ?_) (fun c59 => ?_)
                        · refine fz_sipush ⟨by decide, by decide⟩ kX10_first rfl ?_
                          refine fz_iload kX10_first rfl rfl ?_
                          refine fz_isubN kX10_first rfl (by omega) ?_
                          refine fz_istore (ls' := [(7, fz_i (999 - x49)), (6, fz_i x49), (5, fz_i z10), (4, fz_i z1), (0, fz_r 0), (1, fz_i pm), (2, fz_i tx), (3, fz_i wh)]) kX10_first rfl (by decide) rfl ?_
                          refine fz_aload_n kX10_first rfl rfl ?_
                          refine fz_getR (t := 27) kX10_first rfl rfl ?_
                          refine fz_iload_n kX10_first rfl rfl ?_
                          refine fz_iload kX10_first rfl rfl ?_
                          refine fz_iload kX10_first rfl rfl ?_
                          refine fz_callV (d' := 4) (M' := mX8_loudestOf) (As := [fz_i pm, fz_i z1, fz_i (999 - x49)]) (st := []) kX10_first rfl rfl vX8_loudestOf rfl rfl rfl rfl (Nat.le_of_ble_eq_true rfl) (Nat.le_of_ble_eq_true rfl) (by decide) (sX8_loudestOf H50 hI51 pm z1 (999 - x49) (by omega)) (fun H60 r61 q62 o63 => ?_)
                          obtain ⟨hI64, hf65, y67, rfl, f66⟩ := q62
                          clear o63
                          have hf68 := fz_fr_tr hf52 hf65 (show fz_su [(18, 99999), (19, 99999)] [(18, 99999), (19, 99999)] = true from rfl)
                          refine fz_iload kX10_first rfl rfl ?_
                          refine fz_icmp_lt (tgt := 100) kX10_first rfl (by decide) (fun c69 => ?_) (fun c69 => ?_)
                          · refine fz_iincN (ls' := [(6, fz_i (x49 + 1)), (7, fz_i (999 - x49)), (5, fz_i z10), (4, fz_i z1), (0, fz_r 0), (1, fz_i pm), (2, fz_i tx), (3, fz_i wh)]) kX10_first rfl (by decide) rfl (by omega) rfl ?_
                            refine fz_goto (tgt := 55) kX10_first rfl (by decide) ?_
                            refine fz_sub (fz_pk_sub (ls' := [(6, fz_i (x49 + 1)), (5, fz_i z10), (4, fz_i z1), (0, fz_r 0), (1, fz_i pm), (2, fz_i tx), (3, fz_i wh)]) [0, 2, 3, 4, 5, 6, 7] rfl) ?_
                            exact ih55 (x49 + 1) H60 hI64 hf68 (by omega) (by omega)
                          · refine fz_iload kX10_first rfl rfl ?_
                            exact fz_iret kX10_first rfl rfl (fun _ => ⟨hI64, hf68, _, rfl, (by omega)⟩)
                        · refine fz_iload kX10_first rfl rfl ?_
                          refine fz_goto (tgt := 78) kX10_first rfl (by decide) ?_
                          refine fz_istore (ls' := [(7, fz_i x49), (6, fz_i x49), (5, fz_i z10), (4, fz_i z1), (0, fz_r 0), (1, fz_i pm), (2, fz_i tx), (3, fz_i wh)]) kX10_first rfl (by decide) rfl ?_
                          refine fz_aload_n kX10_first rfl rfl ?_
                          refine fz_getR (t := 27) kX10_first rfl rfl ?_
                          refine fz_iload_n kX10_first rfl rfl ?_
                          refine fz_iload kX10_first rfl rfl ?_
                          refine fz_iload kX10_first rfl rfl ?_
                          refine fz_callV (d' := 4) (M' := mX8_loudestOf) (As := [fz_i pm, fz_i z1, fz_i x49]) (st := []) kX10_first rfl rfl vX8_loudestOf rfl rfl rfl rfl (Nat.le_of_ble_eq_true rfl) (Nat.le_of_ble_eq_true rfl) (by decide) (sX8_loudestOf H50 hI51 pm z1 x49 (by omega)) (fun H70 r71 q72 o73 => ?_)
                          obtain ⟨hI74, hf75, y77, rfl, f76⟩ := q72
                          clear o73
                          have hf78 := fz_fr_tr hf52 hf75 (show fz_su [(18, 99999), (19, 99999)] [(18, 99999), (19, 99999)] = true from rfl)
                          refine fz_iload kX10_first rfl rfl ?_
                          refine fz_icmp_lt (tgt := 100) kX10_first rfl (by decide) (fun c79 => ?_) (fun c79 => ?_)
                          · refine fz_iincN (ls' := [(6, fz_i (x49 + 1)), (7, fz_i x49), (5, fz_i z10), (4, fz_i z1), (0, fz_r 0), (1, fz_i pm), (2, fz_i tx), (3, fz_i wh)]) kX10_first rfl (by decide) rfl (by omega) rfl ?_
                            refine fz_goto (tgt := 55) kX10_first rfl (by decide) ?_
                            refine fz_sub (fz_pk_sub (ls' := [(6, fz_i (x49 + 1)), (5, fz_i z10), (4, fz_i z1), (0, fz_r 0), (1, fz_i pm), (2, fz_i tx), (3, fz_i wh)]) [0, 2, 3, 4, 5, 6, 7] rfl) ?_
                            exact ih55 (x49 + 1) H70 hI74 hf78 (by omega) (by omega)
                          · refine fz_iload kX10_first rfl rfl ?_
                            exact fz_iret kX10_first rfl rfl (fun _ => ⟨hI74, hf78, _, rfl, (by omega)⟩)
                  exact lp54 _ 0 h hI hf (by omega) (Nat.lt_succ_self _)
                · refine fz_iconst ⟨by decide, by decide⟩ kX10_first rfl ?_
                  exact fz_iret kX10_first rfl rfl (fun _ => ⟨hI, hf, _, rfl, (by omega)⟩)
          · refine fz_if_eq (tgt := 50) kX10_first rfl (by decide) (fun c80 => ?_) (fun c80 => ?_)
            · refine fz_iconst ⟨by decide, by decide⟩ kX10_first rfl ?_
              exact fz_iret kX10_first rfl rfl (fun _ => ⟨hI, hf, _, rfl, (by omega)⟩)
            · exfalso; omega
      · refine fz_if_eq (tgt := 50) kX10_first rfl (by decide) (fun c81 => ?_) (fun c81 => ?_)
        · refine fz_iconst ⟨by decide, by decide⟩ kX10_first rfl ?_
          exact fz_iret kX10_first rfl rfl (fun _ => ⟨hI, hf, _, rfl, (by omega)⟩)
        · exfalso; omega
  · refine fz_if_eq (tgt := 50) kX10_first rfl (by decide) (fun c82 => ?_) (fun c82 => ?_)
    · refine fz_iconst ⟨by decide, by decide⟩ kX10_first rfl ?_
      exact fz_iret kX10_first rfl rfl (fun _ => ⟨hI, hf, _, rfl, (by omega)⟩)
    · exfalso; omega

abbrev qX10_news (h : fz_H) (d hr : Int) : fz_H → Option fz_V → Prop := fun h' r0 => h' = h ∧ ∃ r : Int, r0 = some (fz_i r) ∧ ((-2147483648) ≤ r ∧ r ≤ 2147483647)
set_option maxHeartbeats 1000000 in
set_option maxRecDepth 100000 in
theorem sX10_news (h : fz_H) (hI : fz_Iv h) (d hr : Int) : fz_R 2 mX10_news 0 [(0, fz_r 0), (1, fz_i d), (2, fz_i hr)] [] h (qX10_news h d hr) := by
  refine fz_knowl (fun hk => ?_)
  have hr_d : -2147483648 ≤ d ∧ d < 2147483648 := hk _ (List.Mem.tail _ (List.Mem.head _))
  have hr_hr : -2147483648 ≤ hr ∧ hr < 2147483648 := hk _ (List.Mem.tail _ (List.Mem.tail _ (List.Mem.head _)))
  clear hk
  refine fz_aload_n kX10_news rfl rfl ?_
  refine fz_getR (t := 9) kX10_news rfl rfl ?_
  refine fz_iload_n kX10_news rfl rfl ?_
  have b1 : 0 ≤ h 9 5 ∧ h 9 5 ≤ 10 := hI.1 9 _
  refine fz_callV (d' := 0) (M' := mX4_isDeed) (As := [fz_i d]) (st := []) kX10_news rfl rfl vX4_isDeed rfl rfl rfl rfl (Nat.le_of_ble_eq_true rfl) (Nat.le_of_ble_eq_true rfl) (by decide) (sX4_isDeed h hI d ) (fun H2 r3 q4 o5 => ?_)
  obtain ⟨e6, y7, rfl, p8⟩ := q4
  subst H2
  clear o5
  rcases p8 with ⟨rfl, c9⟩ | ⟨rfl, c9⟩
  · refine fz_if_eq (tgt := 17) kX10_news rfl (by decide) (fun c10 => ?_) (fun c10 => ?_)
    · exfalso; omega
    · refine fz_iload_n kX10_news rfl rfl ?_
      refine fz_bipush ⟨by decide, by decide⟩ kX10_news rfl ?_
      refine fz_icmp_ge (tgt := 19) kX10_news rfl (by decide) (fun c11 => ?_) (fun c11 => ?_)
      · refine fz_iload_n kX10_news rfl rfl ?_
        refine fz_if_ge (tgt := 28) kX10_news rfl (by decide) (fun c12 => ?_) (fun c12 => ?_)
        · refine fz_iconst ⟨by decide, by decide⟩ kX10_news rfl ?_
          refine fz_istore_n (ls' := [(3, fz_i 0), (0, fz_r 0), (1, fz_i d), (2, fz_i hr)]) kX10_news rfl (by decide) rfl ?_
          refine fz_iconst ⟨by decide, by decide⟩ kX10_news rfl ?_
          refine fz_istore (ls' := [(4, fz_i 0), (3, fz_i 0), (0, fz_r 0), (1, fz_i d), (2, fz_i hr)]) kX10_news rfl (by decide) rfl ?_
          refine fz_iconst ⟨by decide, by decide⟩ kX10_news rfl ?_
          refine fz_istore (ls' := [(5, fz_i 0), (4, fz_i 0), (3, fz_i 0), (0, fz_r 0), (1, fz_i d), (2, fz_i hr)]) kX10_news rfl (by decide) rfl ?_
          have lp17 : ∀ (n16 : Nat) (x13 : Int) (x14 : Int) (x15 : Int), (0 ≤ x13 ∧ x13 ≤ 2147483647) → ((-2147483648) ≤ x14 ∧ x14 ≤ 2147483647) → ((-2147483648) ≤ x15 ∧ x15 ≤ 2147483647) → ((h 1 7) - x13).toNat < n16 → fz_R 2 mX10_news 36 [(5, fz_i x13), (4, fz_i x14), (3, fz_i x15), (0, fz_r 0), (1, fz_i d), (2, fz_i hr)] [] h (qX10_news h d hr) := by
            intro n16
            induction n16 with
            | zero => intro x13 x14 x15 hv20 hv21 hv22 hm19; exact absurd hm19 (by omega)
            | succ n16 ih18 =>
              intro x13 x14 x15 hv20 hv21 hv22 hm19
              refine fz_iload kX10_news rfl rfl ?_
              refine fz_aload_n kX10_news rfl rfl ?_
              refine fz_getR (t := 1) kX10_news rfl rfl ?_
              refine fz_getV (v := h 1 7) kX10_news rfl rfl rfl ?_
              have b23 : 0 ≤ h 1 7 ∧ h 1 7 ≤ 8 := hI.1 1 _
              refine fz_icmp_ge (tgt := 132) kX10_news rfl (by decide) (fun c24 => ?_) (fun c24 => ?_)
              · refine fz_iload_n kX10_news rfl rfl ?_
                exact fz_iret kX10_news rfl rfl (fun _ => ⟨rfl, _, rfl, (by omega)⟩)
              · refine fz_aload_n kX10_news rfl rfl ?_
                refine fz_getR (t := 27) kX10_news rfl rfl ?_
                refine fz_iload_n kX10_news rfl rfl ?_
                refine fz_iload kX10_news rfl rfl ?_
                refine fz_callV (d' := 1) (M' := mX8_hourHeard) (As := [fz_i d, fz_i x13]) (st := []) kX10_news rfl rfl vX8_hourHeard rfl rfl rfl rfl (Nat.le_of_ble_eq_true rfl) (Nat.le_of_ble_eq_true rfl) (by decide) (sX8_hourHeard h hI d x13 (by omega) (by omega)) (fun H25 r26 q27 o28 => ?_)
                obtain ⟨e29, y31, rfl, f30⟩ := q27
                subst H25
                clear o28
                refine fz_istore (ls' := [(6, fz_i y31), (5, fz_i x13), (4, fz_i x14), (3, fz_i x15), (0, fz_r 0), (1, fz_i d), (2, fz_i hr)]) kX10_news rfl (by decide) rfl ?_
                refine fz_iload kX10_news rfl rfl ?_
                refine fz_if_lt (tgt := 86) kX10_news rfl (by decide) (fun c32 => ?_) (fun c32 => ?_)
                · refine fz_iload kX10_news rfl rfl ?_
                  refine fz_if_lt (tgt := 126) kX10_news rfl (by decide) (fun c33 => ?_) (fun c33 => ?_)
                  · refine fz_iincN (ls' := [(5, fz_i (x13 + 1)), (6, fz_i y31), (4, fz_i x14), (3, fz_i x15), (0, fz_r 0), (1, fz_i d), (2, fz_i hr)]) kX10_news rfl (by decide) rfl (by omega) rfl ?_
                    refine fz_goto (tgt := 36) kX10_news rfl (by decide) ?_
                    refine fz_sub (fz_pk_sub (ls' := [(5, fz_i (x13 + 1)), (4, fz_i x14), (3, fz_i x15), (0, fz_r 0), (1, fz_i d), (2, fz_i hr)]) [0, 2, 3, 4, 5, 6] rfl) ?_
                    exact ih18 (x13 + 1) x14 x15 (by omega) (by omega) (by omega) (by omega)
                  · exfalso; omega
                · refine fz_iload_n kX10_news rfl rfl ?_
                  refine fz_if_lt (tgt := 86) kX10_news rfl (by decide) (fun c34 => ?_) (fun c34 => ?_)
                  · exfalso; omega
                  · refine fz_iload_n kX10_news rfl rfl ?_
                    refine fz_iload kX10_news rfl rfl ?_
                    refine fz_iload_n kX10_news rfl rfl ?_
                    refine fz_icmp_gt (tgt := 80) kX10_news rfl (by decide) (fun c35 => ?_) (fun c35 => ?_)
                    · refine fz_iconst ⟨by decide, by decide⟩ kX10_news rfl ?_
                      refine fz_iaddN kX10_news rfl (by omega) ?_
                      refine fz_istore_n (ls' := [(3, fz_i (x15 + 0)), (6, fz_i y31), (5, fz_i x13), (4, fz_i x14), (0, fz_r 0), (1, fz_i d), (2, fz_i hr)]) kX10_news rfl (by decide) rfl ?_
                      refine fz_goto (tgt := 126) kX10_news rfl (by decide) ?_
                      refine fz_iincN (ls' := [(5, fz_i (x13 + 1)), (3, fz_i (x15 + 0)), (6, fz_i y31), (4, fz_i x14), (0, fz_r 0), (1, fz_i d), (2, fz_i hr)]) kX10_news rfl (by decide) rfl (by omega) rfl ?_
                      refine fz_goto (tgt := 36) kX10_news rfl (by decide) ?_
                      refine fz_sub (fz_pk_sub (ls' := [(5, fz_i (x13 + 1)), (4, fz_i x14), (3, fz_i (x15 + 0)), (0, fz_r 0), (1, fz_i d), (2, fz_i hr)]) [0, 3, 1, 4, 5, 6] rfl) ?_
                      exact ih18 (x13 + 1) x14 (x15 + 0) (by omega) (by omega) (by omega) (by omega)
                    · refine fz_iconst ⟨by decide, by decide⟩ kX10_news rfl ?_
                      refine fz_goto (tgt := 81) kX10_news rfl (by decide) ?_
                      refine fz_iadd kX10_news rfl ?_
                      refine fz_nmw (fun z36 e37 => ?_)
                      refine fz_istore_n (ls' := [(3, fz_i z36), (6, fz_i y31), (5, fz_i x13), (4, fz_i x14), (0, fz_r 0), (1, fz_i d), (2, fz_i hr)]) kX10_news rfl (by decide) rfl ?_
                      refine fz_goto (tgt := 126) kX10_news rfl (by decide) ?_
                      refine fz_iincN (ls' := [(5, fz_i (x13 + 1)), (3, fz_i z36), (6, fz_i y31), (4, fz_i x14), (0, fz_r 0), (1, fz_i d), (2, fz_i hr)]) kX10_news rfl (by decide) rfl (by omega) rfl ?_
                      refine fz_goto (tgt := 36) kX10_news rfl (by decide) ?_
                      refine fz_sub (fz_pk_sub (ls' := [(5, fz_i (x13 + 1)), (4, fz_i x14), (3, fz_i z36), (0, fz_r 0), (1, fz_i d), (2, fz_i hr)]) [0, 3, 1, 4, 5, 6] rfl) ?_
                      exact ih18 (x13 + 1) x14 z36 (by omega) (by omega) (by omega) (by omega)
          exact lp17 _ 0 0 0 (by omega) (by omega) (by omega) (Nat.lt_succ_self _)
        · refine fz_bipush ⟨by decide, by decide⟩ kX10_news rfl ?_
          refine fz_goto (tgt := 29) kX10_news rfl (by decide) ?_
          refine fz_istore_n (ls' := [(3, fz_i (-2)), (0, fz_r 0), (1, fz_i d), (2, fz_i hr)]) kX10_news rfl (by decide) rfl ?_
          refine fz_iconst ⟨by decide, by decide⟩ kX10_news rfl ?_
          refine fz_istore (ls' := [(4, fz_i 0), (3, fz_i (-2)), (0, fz_r 0), (1, fz_i d), (2, fz_i hr)]) kX10_news rfl (by decide) rfl ?_
          refine fz_iconst ⟨by decide, by decide⟩ kX10_news rfl ?_
          refine fz_istore (ls' := [(5, fz_i 0), (4, fz_i 0), (3, fz_i (-2)), (0, fz_r 0), (1, fz_i d), (2, fz_i hr)]) kX10_news rfl (by decide) rfl ?_
          have lp42 : ∀ (n41 : Nat) (x38 : Int) (x39 : Int) (x40 : Int), (0 ≤ x38 ∧ x38 ≤ 2147483647) → ((-2147483648) ≤ x39 ∧ x39 ≤ 2147483647) → ((-2147483648) ≤ x40 ∧ x40 ≤ 2147483647) → ((h 1 7) - x38).toNat < n41 → fz_R 2 mX10_news 36 [(5, fz_i x38), (4, fz_i x39), (3, fz_i x40), (0, fz_r 0), (1, fz_i d), (2, fz_i hr)] [] h (qX10_news h d hr) := by
            intro n41
            induction n41 with
            | zero => intro x38 x39 x40 hv45 hv46 hv47 hm44; exact absurd hm44 (by omega)
            | succ n41 ih43 =>
              intro x38 x39 x40 hv45 hv46 hv47 hm44
              refine fz_iload kX10_news rfl rfl ?_
              refine fz_aload_n kX10_news rfl rfl ?_
              refine fz_getR (t := 1) kX10_news rfl rfl ?_
              refine fz_getV (v := h 1 7) kX10_news rfl rfl rfl ?_
              have b48 : 0 ≤ h 1 7 ∧ h 1 7 ≤ 8 := hI.1 1 _
              refine fz_icmp_ge (tgt := 132) kX10_news rfl (by decide) (fun c49 => ?_) (fun c49 => ?_)
              · refine fz_iload_n kX10_news rfl rfl ?_
                exact fz_iret kX10_news rfl rfl (fun _ => ⟨rfl, _, rfl, (by omega)⟩)
              · refine fz_aload_n kX10_news rfl rfl ?_
                refine fz_getR (t := 27) kX10_news rfl rfl ?_
                refine fz_iload_n kX10_news rfl rfl ?_
                refine fz_iload kX10_news rfl rfl ?_
                refine fz_callV (d' := 1) (M' := mX8_hourHeard) (As := [fz_i d, fz_i x38]) (st := []) kX10_news rfl rfl vX8_hourHeard rfl rfl rfl rfl (Nat.le_of_ble_eq_true rfl) (Nat.le_of_ble_eq_true rfl) (by decide) (sX8_hourHeard h hI d x38 (by omega) (by omega)) (fun H50 r51 q52 o53 => ?_)
                obtain ⟨e54, y56, rfl, f55⟩ := q52
                subst H50
                clear o53
                refine fz_istore (ls' := [(6, fz_i y56), (5, fz_i x38), (4, fz_i x39), (3, fz_i x40), (0, fz_r 0), (1, fz_i d), (2, fz_i hr)]) kX10_news rfl (by decide) rfl ?_
                refine fz_iload kX10_news rfl rfl ?_
                refine fz_if_lt (tgt := 86) kX10_news rfl (by decide) (fun c57 => ?_) (fun c57 => ?_)
                · refine fz_iload kX10_news rfl rfl ?_
                  refine fz_if_lt (tgt := 126) kX10_news rfl (by decide) (fun c58 => ?_) (fun c58 => ?_)
                  · refine fz_iincN (ls' := [(5, fz_i (x38 + 1)), (6, fz_i y56), (4, fz_i x39), (3, fz_i x40), (0, fz_r 0), (1, fz_i d), (2, fz_i hr)]) kX10_news rfl (by decide) rfl (by omega) rfl ?_
                    refine fz_goto (tgt := 36) kX10_news rfl (by decide) ?_
                    refine fz_sub (fz_pk_sub (ls' := [(5, fz_i (x38 + 1)), (4, fz_i x39), (3, fz_i x40), (0, fz_r 0), (1, fz_i d), (2, fz_i hr)]) [0, 2, 3, 4, 5, 6] rfl) ?_
                    exact ih43 (x38 + 1) x39 x40 (by omega) (by omega) (by omega) (by omega)
                  · exfalso; omega
                · refine fz_iload_n kX10_news rfl rfl ?_
                  refine fz_if_lt (tgt := 86) kX10_news rfl (by decide) (fun c59 => ?_) (fun c59 => ?_)
                  · refine fz_iload kX10_news rfl rfl ?_
                    refine fz_if_lt (tgt := 126) kX10_news rfl (by decide) (fun c60 => ?_) (fun c60 => ?_)
                    · exfalso; omega
                    · refine fz_iload_n kX10_news rfl rfl ?_
                      refine fz_bipush ⟨by decide, by decide⟩ kX10_news rfl ?_
                      refine fz_icmp_eq (tgt := 119) kX10_news rfl (by decide) (fun c61 => ?_) (fun c61 => ?_)
                      · refine fz_iload kX10_news rfl rfl ?_
                        refine fz_istore_n (ls' := [(3, fz_i x38), (6, fz_i y56), (5, fz_i x38), (4, fz_i x39), (0, fz_r 0), (1, fz_i d), (2, fz_i hr)]) kX10_news rfl (by decide) rfl ?_
                        refine fz_iload kX10_news rfl rfl ?_
                        refine fz_istore (ls' := [(4, fz_i y56), (3, fz_i x38), (6, fz_i y56), (5, fz_i x38), (0, fz_r 0), (1, fz_i d), (2, fz_i hr)]) kX10_news rfl (by decide) rfl ?_
                        refine fz_iincN (ls' := [(5, fz_i (x38 + 1)), (4, fz_i y56), (3, fz_i x38), (6, fz_i y56), (0, fz_r 0), (1, fz_i d), (2, fz_i hr)]) kX10_news rfl (by decide) rfl (by omega) rfl ?_
                        refine fz_goto (tgt := 36) kX10_news rfl (by decide) ?_
                        refine fz_sub (fz_pk_sub (ls' := [(5, fz_i (x38 + 1)), (4, fz_i y56), (3, fz_i x38), (0, fz_r 0), (1, fz_i d), (2, fz_i hr)]) [0, 1, 2, 4, 5, 6] rfl) ?_
                        exact ih43 (x38 + 1) y56 x38 (by omega) (by omega) (by omega) (by omega)
                      · refine fz_iload_n kX10_news rfl rfl ?_
                        refine fz_iconst ⟨by decide, by decide⟩ kX10_news rfl ?_
                        refine fz_icmp_ne (tgt := 112) kX10_news rfl (by decide) (fun c62 => ?_) (fun c62 => ?_)
                        · refine fz_iload kX10_news rfl rfl ?_
                          refine fz_iload kX10_news rfl rfl ?_
                          refine fz_icmp_ge (tgt := 126) kX10_news rfl (by decide) (fun c63 => ?_) (fun c63 => ?_)
                          · refine fz_iincN (ls' := [(5, fz_i (x38 + 1)), (6, fz_i y56), (4, fz_i x39), (3, fz_i x40), (0, fz_r 0), (1, fz_i d), (2, fz_i hr)]) kX10_news rfl (by decide) rfl (by omega) rfl ?_
                            refine fz_goto (tgt := 36) kX10_news rfl (by decide) ?_
                            refine fz_sub (fz_pk_sub (ls' := [(5, fz_i (x38 + 1)), (4, fz_i x39), (3, fz_i x40), (0, fz_r 0), (1, fz_i d), (2, fz_i hr)]) [0, 2, 3, 4, 5, 6] rfl) ?_
                            exact ih43 (x38 + 1) x39 x40 (by omega) (by omega) (by omega) (by omega)
                          · refine fz_iload kX10_news rfl rfl ?_
                            refine fz_istore_n (ls' := [(3, fz_i x38), (6, fz_i y56), (5, fz_i x38), (4, fz_i x39), (0, fz_r 0), (1, fz_i d), (2, fz_i hr)]) kX10_news rfl (by decide) rfl ?_
                            refine fz_iload kX10_news rfl rfl ?_
                            refine fz_istore (ls' := [(4, fz_i y56), (3, fz_i x38), (6, fz_i y56), (5, fz_i x38), (0, fz_r 0), (1, fz_i d), (2, fz_i hr)]) kX10_news rfl (by decide) rfl ?_
                            refine fz_iincN (ls' := [(5, fz_i (x38 + 1)), (4, fz_i y56), (3, fz_i x38), (6, fz_i y56), (0, fz_r 0), (1, fz_i d), (2, fz_i hr)]) kX10_news rfl (by decide) rfl (by omega) rfl ?_
                            refine fz_goto (tgt := 36) kX10_news rfl (by decide) ?_
                            refine fz_sub (fz_pk_sub (ls' := [(5, fz_i (x38 + 1)), (4, fz_i y56), (3, fz_i x38), (0, fz_r 0), (1, fz_i d), (2, fz_i hr)]) [0, 1, 2, 4, 5, 6] rfl) ?_
                            exact ih43 (x38 + 1) y56 x38 (by omega) (by omega) (by omega) (by omega)
                        · refine fz_iload kX10_news rfl rfl ?_
                          refine fz_iload kX10_news rfl rfl ?_
                          refine fz_icmp_le (tgt := 126) kX10_news rfl (by decide) (fun c64 => ?_) (fun c64 => ?_)
                          · refine fz_iincN (ls' := [(5, fz_i (x38 + 1)), (6, fz_i y56), (4, fz_i x39), (3, fz_i x40), (0, fz_r 0), (1, fz_i d), (2, fz_i hr)]) kX10_news rfl (by decide) rfl (by omega) rfl ?_
                            refine fz_goto (tgt := 36) kX10_news rfl (by decide) ?_
                            refine fz_sub (fz_pk_sub (ls' := [(5, fz_i (x38 + 1)), (4, fz_i x39), (3, fz_i x40), (0, fz_r 0), (1, fz_i d), (2, fz_i hr)]) [0, 2, 3, 4, 5, 6] rfl) ?_
                            exact ih43 (x38 + 1) x39 x40 (by omega) (by omega) (by omega) (by omega)
                          · refine fz_goto (tgt := 119) kX10_news rfl (by decide) ?_
                            refine fz_iload kX10_news rfl rfl ?_
                            refine fz_istore_n (ls' := [(3, fz_i x38), (6, fz_i y56), (5, fz_i x38), (4, fz_i x39), (0, fz_r 0), (1, fz_i d), (2, fz_i hr)]) kX10_news rfl (by decide) rfl ?_
                            refine fz_iload kX10_news rfl rfl ?_
                            refine fz_istore (ls' := [(4, fz_i y56), (3, fz_i x38), (6, fz_i y56), (5, fz_i x38), (0, fz_r 0), (1, fz_i d), (2, fz_i hr)]) kX10_news rfl (by decide) rfl ?_
                            refine fz_iincN (ls' := [(5, fz_i (x38 + 1)), (4, fz_i y56), (3, fz_i x38), (6, fz_i y56), (0, fz_r 0), (1, fz_i d), (2, fz_i hr)]) kX10_news rfl (by decide) rfl (by omega) rfl ?_
                            refine fz_goto (tgt := 36) kX10_news rfl (by decide) ?_
                            refine fz_sub (fz_pk_sub (ls' := [(5, fz_i (x38 + 1)), (4, fz_i y56), (3, fz_i x38), (0, fz_r 0), (1, fz_i d), (2, fz_i hr)]) [0, 1, 2, 4, 5, 6] rfl) ?_
                            exact ih43 (x38 + 1) y56 x38 (by omega) (by omega) (by omega) (by omega)
                  · exfalso; omega
          exact lp42 _ 0 0 (-2) (by omega) (by omega) (by omega) (Nat.lt_succ_self _)
      · refine fz_iconst ⟨by decide, by decide⟩ kX10_news rfl ?_
        exact fz_iret kX10_news rfl rfl (fun _ => ⟨rfl, _, rfl, (by omega)⟩)
  · refine fz_if_eq (tgt := 17) kX10_news rfl (by decide) (fun c65 => ?_) (fun c65 => ?_)
    · refine fz_iconst ⟨by decide, by decide⟩ kX10_news rfl ?_
      exact fz_iret kX10_news rfl rfl (fun _ => ⟨rfl, _, rfl, (by omega)⟩)
    · exfalso; omega

abbrev qX10_commonDivisor (h : fz_H) (a b : Int) : fz_H → Option fz_V → Prop := fun h' r0 => h' = h ∧ ∃ r : Int, r0 = some (fz_l r) ∧ ((-9223372036854775808) ≤ r ∧ r ≤ 9223372036854775807)
set_option maxHeartbeats 1000000 in
set_option maxRecDepth 100000 in
theorem sX10_commonDivisor (h : fz_H) (hI : fz_Iv h) (a b : Int) : fz_R 0 mX10_commonDivisor 0 [(0, fz_l a), (2, fz_l b)] [] h (qX10_commonDivisor h a b) := by
  refine fz_knowl (fun hk => ?_)
  have hr_a : -9223372036854775808 ≤ a ∧ a < 9223372036854775808 := hk _ (List.Mem.head _)
  have hr_b : -9223372036854775808 ≤ b ∧ b < 9223372036854775808 := hk _ (List.Mem.tail _ (List.Mem.head _))
  clear hk
  refine fz_lload_n kX10_commonDivisor rfl rfl ?_
  refine fz_lstore (ls' := [(4, fz_l a), (0, fz_l a), (2, fz_l b)]) kX10_commonDivisor rfl (by decide) rfl ?_
  refine fz_lload_n kX10_commonDivisor rfl rfl ?_
  refine fz_lstore (ls' := [(6, fz_l b), (4, fz_l a), (0, fz_l a), (2, fz_l b)]) kX10_commonDivisor rfl (by decide) rfl ?_
  refine fz_iconst ⟨by decide, by decide⟩ kX10_commonDivisor rfl ?_
  refine fz_istore (ls' := [(8, fz_i 0), (6, fz_l b), (4, fz_l a), (0, fz_l a), (2, fz_l b)]) kX10_commonDivisor rfl (by decide) rfl ?_
  have lp5 : ∀ (n4 : Nat) (x1 : Int) (x2 : Int) (x3 : Int), (0 ≤ x1 ∧ x1 ≤ 2147483647) → ((-9223372036854775808) ≤ x2 ∧ x2 ≤ 9223372036854775807) → ((-9223372036854775808) ≤ x3 ∧ x3 ≤ 9223372036854775807) → (200 - x1).toNat < n4 → fz_R 0 mX10_commonDivisor 9 [(8, fz_i x1), (6, fz_l x2), (4, fz_l x3), (0, fz_l a), (2, fz_l b)] [] h (qX10_commonDivisor h a b) := by
    intro n4
    induction n4 with
    | zero => intro x1 x2 x3 hv8 hv9 hv10 hm7; exact absurd hm7 (by omega)
    | succ n4 ih6 =>
      intro x1 x2 x3 hv8 hv9 hv10 hm7
      refine fz_iload kX10_commonDivisor rfl rfl ?_
      refine fz_sipush ⟨by decide, by decide⟩ kX10_commonDivisor rfl ?_
      refine fz_icmp_ge (tgt := 45) kX10_commonDivisor rfl (by decide) (fun c11 => ?_) (fun c11 => ?_)
      · refine fz_lload kX10_commonDivisor rfl rfl ?_
        exact fz_lret kX10_commonDivisor rfl rfl (fun _ => ⟨rfl, _, rfl, (by omega)⟩)
      · refine fz_lload kX10_commonDivisor rfl rfl ?_
        refine fz_lconst (x := 0) ⟨by decide, by decide⟩ rfl kX10_commonDivisor rfl ?_
        refine fz_lcmp kX10_commonDivisor rfl ?_
        have b12 := fz_cmp_c x2 0
        refine fz_if_eq (tgt := 45) kX10_commonDivisor rfl (by decide) (fun c13 => ?_) (fun c13 => ?_)
        · refine fz_lload kX10_commonDivisor rfl rfl ?_
          exact fz_lret kX10_commonDivisor rfl rfl (fun _ => ⟨rfl, _, rfl, (by omega)⟩)
        · refine fz_lload kX10_commonDivisor rfl rfl ?_
          refine fz_lload kX10_commonDivisor rfl rfl ?_
          refine fz_lrem (by omega) kX10_commonDivisor rfl ?_
          refine fz_nmx (fun z14 e15 => ?_)
          refine fz_lstore (ls' := [(9, fz_l z14), (8, fz_i x1), (6, fz_l x2), (4, fz_l x3), (0, fz_l a), (2, fz_l b)]) kX10_commonDivisor rfl (by decide) rfl ?_
          refine fz_lload kX10_commonDivisor rfl rfl ?_
          refine fz_lstore (ls' := [(4, fz_l x2), (9, fz_l z14), (8, fz_i x1), (6, fz_l x2), (0, fz_l a), (2, fz_l b)]) kX10_commonDivisor rfl (by decide) rfl ?_
          refine fz_lload kX10_commonDivisor rfl rfl ?_
          refine fz_lstore (ls' := [(6, fz_l z14), (4, fz_l x2), (9, fz_l z14), (8, fz_i x1), (0, fz_l a), (2, fz_l b)]) kX10_commonDivisor rfl (by decide) rfl ?_
          refine fz_iincN (ls' := [(8, fz_i (x1 + 1)), (6, fz_l z14), (4, fz_l x2), (9, fz_l z14), (0, fz_l a), (2, fz_l b)]) kX10_commonDivisor rfl (by decide) rfl (by omega) rfl ?_
          refine fz_goto (tgt := 9) kX10_commonDivisor rfl (by decide) ?_
          refine fz_sub (fz_pk_sub (ls' := [(8, fz_i (x1 + 1)), (6, fz_l z14), (4, fz_l x2), (0, fz_l a), (2, fz_l b)]) [0, 1, 2, 4, 5] rfl) ?_
          exact ih6 (x1 + 1) z14 x2 (by omega) (by omega) (by omega) (by omega)
  exact lp5 _ 0 b a (by omega) (by omega) (by omega) (Nat.lt_succ_self _)

abbrev qX10_garbled (h : fz_H) (d t pt : Int) : fz_H → Option fz_V → Prop := fun h' r0 => fz_Iv h' ∧ fz_fr [(32, 99999)] h h' ∧ ∃ r : Int, r0 = some (fz_l r) ∧ ((-9223372036854775808) ≤ r ∧ r ≤ 9223372036854775807)
set_option maxHeartbeats 1000000 in
set_option maxRecDepth 100000 in
theorem sX10_garbled (h : fz_H) (hI : fz_Iv h) (d t pt : Int) : fz_R 2 mX10_garbled 0 [(0, fz_r 0), (1, fz_i d), (2, fz_i t), (3, fz_i pt)] [] h (qX10_garbled h d t pt) := by
  refine fz_knowl (fun hk => ?_)
  have hr_d : -2147483648 ≤ d ∧ d < 2147483648 := hk _ (List.Mem.tail _ (List.Mem.head _))
  have hr_t : -2147483648 ≤ t ∧ t < 2147483648 := hk _ (List.Mem.tail _ (List.Mem.tail _ (List.Mem.head _)))
  have hr_pt : -2147483648 ≤ pt ∧ pt < 2147483648 := hk _ (List.Mem.tail _ (List.Mem.tail _ (List.Mem.tail _ (List.Mem.head _))))
  clear hk
  have hf : fz_fr [(32, 99999)] h h := fz_fr_rf
  refine fz_aload_n kX10_garbled rfl rfl ?_
  refine fz_getR (t := 9) kX10_garbled rfl rfl ?_
  refine fz_iload_n kX10_garbled rfl rfl ?_
  have b1 : 0 ≤ h 9 5 ∧ h 9 5 ≤ 10 := hI.1 9 _
  refine fz_callV (d' := 0) (M' := mX4_isDeed) (As := [fz_i d]) (st := []) kX10_garbled rfl rfl vX4_isDeed rfl rfl rfl rfl (Nat.le_of_ble_eq_true rfl) (Nat.le_of_ble_eq_true rfl) (by decide) (sX4_isDeed h hI d ) (fun H2 r3 q4 o5 => ?_)
  obtain ⟨e6, y7, rfl, p8⟩ := q4
  subst H2
  clear o5
  rcases p8 with ⟨rfl, c9⟩ | ⟨rfl, c9⟩
  · refine fz_if_eq (tgt := 31) kX10_garbled rfl (by decide) (fun c10 => ?_) (fun c10 => ?_)
    · exfalso; omega
    · refine fz_aload_n kX10_garbled rfl rfl ?_
      refine fz_getR (t := 1) kX10_garbled rfl rfl ?_
      refine fz_iload_n kX10_garbled rfl rfl ?_
      have b11 : 0 ≤ h 1 7 ∧ h 1 7 ≤ 8 := hI.1 1 _
      refine fz_callV (d' := 0) (M' := mX2_isTown) (As := [fz_i t]) (st := []) kX10_garbled rfl rfl vX2_isTown rfl rfl rfl rfl (Nat.le_of_ble_eq_true rfl) (Nat.le_of_ble_eq_true rfl) (by decide) (sX2_isTown h hI t ) (fun H12 r13 q14 o15 => ?_)
      obtain ⟨e16, y17, rfl, p18⟩ := q14
      subst H12
      clear o15
      rcases p18 with ⟨rfl, c19⟩ | ⟨rfl, c19⟩
      · refine fz_if_eq (tgt := 31) kX10_garbled rfl (by decide) (fun c20 => ?_) (fun c20 => ?_)
        · exfalso; omega
        · refine fz_iload_n kX10_garbled rfl rfl ?_
          refine fz_if_lt (tgt := 31) kX10_garbled rfl (by decide) (fun c21 => ?_) (fun c21 => ?_)
          · refine fz_ldc2 (x := (-9223372036854775808)) kX10_garbled rfl rfl rfl ?_
            exact fz_lret kX10_garbled rfl rfl (fun _ => ⟨hI, hf, _, rfl, (by omega)⟩)
          · refine fz_iload_n kX10_garbled rfl rfl ?_
            refine fz_iconst ⟨by decide, by decide⟩ kX10_garbled rfl ?_
            refine fz_icmp_le (tgt := 35) kX10_garbled rfl (by decide) (fun c22 => ?_) (fun c22 => ?_)
            · refine fz_aload_n kX10_garbled rfl rfl ?_
              refine fz_getR (t := 1) kX10_garbled rfl rfl ?_
              refine fz_aload_n kX10_garbled rfl rfl ?_
              refine fz_getR (t := 9) kX10_garbled rfl rfl ?_
              refine fz_getR (t := 11) kX10_garbled rfl rfl ?_
              refine fz_iload_n kX10_garbled rfl rfl ?_
              refine fz_ialdV (n := 11) (v := h 11 (d.toNat)) kX10_garbled rfl rfl (by omega) (by omega) rfl ?_
              have b23 : 0 ≤ h 11 (d.toNat) ∧ h 11 (d.toNat) ≤ 7 := hI.1 11 _
              refine fz_iload_n kX10_garbled rfl rfl ?_
              refine fz_callV (d' := 0) (M' := mX2_roadsByCarters) (As := [fz_i (h 11 (d.toNat)), fz_i t]) (st := []) kX10_garbled rfl rfl vX2_roadsByCarters rfl rfl rfl rfl (Nat.le_of_ble_eq_true rfl) (Nat.le_of_ble_eq_true rfl) (by decide) (sX2_roadsByCarters h hI (h 11 (d.toNat)) t (by omega) (by omega)) (fun H24 r25 q26 o27 => ?_)
              obtain ⟨e28, y30, rfl, f29⟩ := q26
              subst H24
              clear o27
              refine fz_istore (ls' := [(4, fz_i y30), (0, fz_r 0), (1, fz_i d), (2, fz_i t), (3, fz_i pt)]) kX10_garbled rfl (by decide) rfl ?_
              refine fz_iload kX10_garbled rfl rfl ?_
              refine fz_if_ge (tgt := 62) kX10_garbled rfl (by decide) (fun c31 => ?_) (fun c31 => ?_)
              · refine fz_aload_n kX10_garbled rfl rfl ?_
                refine fz_getR (t := 27) kX10_garbled rfl rfl ?_
                refine fz_iload kX10_garbled rfl rfl ?_
                refine fz_callV (d' := 1) (M' := mX8_chancesUnchanged) (As := [fz_i y30]) (st := []) kX10_garbled rfl rfl vX8_chancesUnchanged rfl rfl rfl rfl (Nat.le_of_ble_eq_true rfl) (Nat.le_of_ble_eq_true rfl) (by decide) (sX8_chancesUnchanged h hI y30 ) (fun H32 r33 q34 o35 => ?_)
                obtain ⟨hI36, hf37, y39, rfl, f38⟩ := q34
                clear o35
                have hf40 := fz_fr_tr hf hf37 (show fz_su [(32, 99999)] [(32, 99999)] = true from rfl)
                refine fz_lstore (ls' := [(5, fz_l y39), (4, fz_i y30), (0, fz_r 0), (1, fz_i d), (2, fz_i t), (3, fz_i pt)]) kX10_garbled rfl (by decide) rfl ?_
                refine fz_lconst (x := 1) ⟨by decide, by decide⟩ rfl kX10_garbled rfl ?_
                refine fz_lstore (ls' := [(7, fz_l 1), (5, fz_l y39), (4, fz_i y30), (0, fz_r 0), (1, fz_i d), (2, fz_i t), (3, fz_i pt)]) kX10_garbled rfl (by decide) rfl ?_
                refine fz_iconst ⟨by decide, by decide⟩ kX10_garbled rfl ?_
                refine fz_istore (ls' := [(9, fz_i 0), (7, fz_l 1), (5, fz_l y39), (4, fz_i y30), (0, fz_r 0), (1, fz_i d), (2, fz_i t), (3, fz_i pt)]) kX10_garbled rfl (by decide) rfl ?_
                have lp44 : ∀ (n43 : Nat) (x41 : Int) (x42 : Int), (0 ≤ x41 ∧ x41 ≤ 2147483647) → ((-9223372036854775808) ≤ x42 ∧ x42 ≤ 9223372036854775807) → (y30 - x41).toNat < n43 → fz_R 2 mX10_garbled 79 [(9, fz_i x41), (7, fz_l x42), (5, fz_l y39), (4, fz_i y30), (0, fz_r 0), (1, fz_i d), (2, fz_i t), (3, fz_i pt)] [] H32 (qX10_garbled h d t pt) := by
                  intro n43
                  induction n43 with
                  | zero => intro x41 x42 hv47 hv48 hm46; exact absurd hm46 (by omega)
                  | succ n43 ih45 =>
                    intro x41 x42 hv47 hv48 hm46
                    refine fz_iload kX10_garbled rfl rfl ?_
                    refine fz_iload kX10_garbled rfl rfl ?_
                    refine fz_icmp_ge (tgt := 100) kX10_garbled rfl (by decide) (fun c49 => ?_) (fun c49 => ?_)
                    · refine fz_lload kX10_garbled rfl rfl ?_
                      refine fz_lload kX10_garbled rfl rfl ?_
                      refine fz_callS (d' := 0) (M' := mX10_commonDivisor) (As := [fz_l x42, fz_l y39]) (st := []) kX10_garbled rfl rfl vX10_commonDivisor rfl rfl (Nat.le_of_ble_eq_true rfl) (Nat.le_of_ble_eq_true rfl) (by decide) (sX10_commonDivisor H32 hI36 x42 y39 ) (fun H50 r51 q52 o53 => ?_)
                      obtain ⟨e54, y56, rfl, f55⟩ := q52
                      subst H50
                      clear o53
                      refine fz_lstore (ls' := [(9, fz_l y56), (7, fz_l x42), (5, fz_l y39), (4, fz_i y30), (0, fz_r 0), (1, fz_i d), (2, fz_i t), (3, fz_i pt)]) kX10_garbled rfl (by decide) rfl ?_
                      refine fz_lload kX10_garbled rfl rfl ?_
                      refine fz_lconst (x := 0) ⟨by decide, by decide⟩ rfl kX10_garbled rfl ?_
                      refine fz_lcmp kX10_garbled rfl ?_
                      have b57 := fz_cmp_c y56 0
                      refine fz_if_gt (tgt := 119) kX10_garbled rfl (by decide) (fun c58 => ?_) (fun c58 => ?_)
                      · refine fz_iload_n kX10_garbled rfl rfl ?_
                        refine fz_if_ne (tgt := 128) kX10_garbled rfl (by decide) (fun c59 => ?_) (fun c59 => ?_)
                        · refine fz_lload kX10_garbled rfl rfl ?_
                          refine fz_lload kX10_garbled rfl rfl ?_
                          refine fz_ldiv (by omega) kX10_garbled rfl ?_
                          refine fz_nmx (fun z60 e61 => ?_)
                          exact fz_lret kX10_garbled rfl rfl (fun _ => ⟨hI36, hf40, _, rfl, (by omega)⟩)
                        · refine fz_lload kX10_garbled rfl rfl ?_
                          refine fz_goto (tgt := 130) kX10_garbled rfl (by decide) ?_
                          refine fz_lload kX10_garbled rfl rfl ?_
                          refine fz_ldiv (by omega) kX10_garbled rfl ?_
                          refine fz_nmx (fun z62 e63 => ?_)
                          exact fz_lret kX10_garbled rfl rfl (fun _ => ⟨hI36, hf40, _, rfl, (by omega)⟩)
                      · refine fz_iload_n kX10_garbled rfl rfl ?_
                        refine fz_i2l kX10_garbled rfl ?_
                        exact fz_lret kX10_garbled rfl rfl (fun _ => ⟨hI36, hf40, _, rfl, (by omega)⟩)
                    · refine fz_lload kX10_garbled rfl rfl ?_
                      refine fz_ldc2 (x := 12) kX10_garbled rfl rfl rfl ?_
                      refine fz_lmul kX10_garbled rfl ?_
                      refine fz_nmx (fun z64 e65 => ?_)
                      refine fz_lstore (ls' := [(7, fz_l z64), (9, fz_i x41), (5, fz_l y39), (4, fz_i y30), (0, fz_r 0), (1, fz_i d), (2, fz_i t), (3, fz_i pt)]) kX10_garbled rfl (by decide) rfl ?_
                      refine fz_iincN (ls' := [(9, fz_i (x41 + 1)), (7, fz_l z64), (5, fz_l y39), (4, fz_i y30), (0, fz_r 0), (1, fz_i d), (2, fz_i t), (3, fz_i pt)]) kX10_garbled rfl (by decide) rfl (by omega) rfl ?_
                      refine fz_goto (tgt := 79) kX10_garbled rfl (by decide) ?_
                      exact ih45 (x41 + 1) z64 (by omega) (by omega) (by omega)
                exact lp44 _ 0 1 (by omega) (by omega) (Nat.lt_succ_self _)
              · refine fz_iload_n kX10_garbled rfl rfl ?_
                refine fz_i2l kX10_garbled rfl ?_
                exact fz_lret kX10_garbled rfl rfl (fun _ => ⟨hI, hf, _, rfl, (by omega)⟩)
            · refine fz_ldc2 (x := (-9223372036854775808)) kX10_garbled rfl rfl rfl ?_
              exact fz_lret kX10_garbled rfl rfl (fun _ => ⟨hI, hf, _, rfl, (by omega)⟩)
      · refine fz_if_eq (tgt := 31) kX10_garbled rfl (by decide) (fun c66 => ?_) (fun c66 => ?_)
        · refine fz_ldc2 (x := (-9223372036854775808)) kX10_garbled rfl rfl rfl ?_
          exact fz_lret kX10_garbled rfl rfl (fun _ => ⟨hI, hf, _, rfl, (by omega)⟩)
        · exfalso; omega
  · refine fz_if_eq (tgt := 31) kX10_garbled rfl (by decide) (fun c67 => ?_) (fun c67 => ?_)
    · refine fz_ldc2 (x := (-9223372036854775808)) kX10_garbled rfl rfl rfl ?_
      exact fz_lret kX10_garbled rfl rfl (fun _ => ⟨hI, hf, _, rfl, (by omega)⟩)
    · exfalso; omega

abbrev qX10_drawn (h : fz_H) (d t se nw : Int) : fz_H → Option fz_V → Prop := fun h' r0 => h' = h ∧ ∃ r : Int, r0 = some (fz_i r) ∧ ((-2147483648) ≤ r ∧ r ≤ 2147483647)
set_option maxHeartbeats 1000000 in
set_option maxRecDepth 100000 in
theorem sX10_drawn (h : fz_H) (hI : fz_Iv h) (d t se nw : Int) : fz_R 1 mX10_drawn 0 [(0, fz_r 0), (1, fz_i d), (2, fz_i t), (3, fz_i se), (4, fz_i nw)] [] h (qX10_drawn h d t se nw) := by
  refine fz_knowl (fun hk => ?_)
  have hr_d : -2147483648 ≤ d ∧ d < 2147483648 := hk _ (List.Mem.tail _ (List.Mem.head _))
  have hr_t : -2147483648 ≤ t ∧ t < 2147483648 := hk _ (List.Mem.tail _ (List.Mem.tail _ (List.Mem.head _)))
  have hr_se : -2147483648 ≤ se ∧ se < 2147483648 := hk _ (List.Mem.tail _ (List.Mem.tail _ (List.Mem.tail _ (List.Mem.head _))))
  have hr_nw : -2147483648 ≤ nw ∧ nw < 2147483648 := hk _ (List.Mem.tail _ (List.Mem.tail _ (List.Mem.tail _ (List.Mem.tail _ (List.Mem.head _)))))
  clear hk
  refine fz_iload kX10_drawn rfl rfl ?_
  refine fz_bipush ⟨by decide, by decide⟩ kX10_drawn rfl ?_
  refine fz_idivT kX10_drawn rfl (by decide) (by omega) (fun z1 r2 e3 e4 e5 e6 e7 e8 e9 => ?_)
  refine fz_istore (ls' := [(5, fz_i z1), (0, fz_r 0), (1, fz_i d), (2, fz_i t), (3, fz_i se), (4, fz_i nw)]) kX10_drawn rfl (by decide) rfl ?_
  refine fz_iload kX10_drawn rfl rfl ?_
  refine fz_bipush ⟨by decide, by decide⟩ kX10_drawn rfl ?_
  refine fz_iremT kX10_drawn rfl (by decide) (by decide) (fun z10 r11 e12 e13 e14 e15 e16 e17 => ?_)
  refine fz_istore (ls' := [(6, fz_i z10), (5, fz_i z1), (0, fz_r 0), (1, fz_i d), (2, fz_i t), (3, fz_i se), (4, fz_i nw)]) kX10_drawn rfl (by decide) rfl ?_
  refine fz_aload_n kX10_drawn rfl rfl ?_
  refine fz_getR (t := 9) kX10_drawn rfl rfl ?_
  refine fz_iload_n kX10_drawn rfl rfl ?_
  have b19 : 0 ≤ h 9 5 ∧ h 9 5 ≤ 10 := hI.1 9 _
  refine fz_callV (d' := 0) (M' := mX4_isDeed) (As := [fz_i d]) (st := []) kX10_drawn rfl rfl vX4_isDeed rfl rfl rfl rfl (Nat.le_of_ble_eq_true rfl) (Nat.le_of_ble_eq_true rfl) (by decide) (sX4_isDeed h hI d ) (fun H20 r21 q22 o23 => ?_)
  obtain ⟨e24, y25, rfl, p26⟩ := q22
  subst H20
  clear o23
  rcases p26 with ⟨rfl, c27⟩ | ⟨rfl, c27⟩
  · refine fz_if_eq (tgt := 60) kX10_drawn rfl (by decide) (fun c28 => ?_) (fun c28 => ?_)
    · exfalso; omega
    · refine fz_aload_n kX10_drawn rfl rfl ?_
      refine fz_getR (t := 1) kX10_drawn rfl rfl ?_
      refine fz_iload_n kX10_drawn rfl rfl ?_
      have b29 : 0 ≤ h 1 7 ∧ h 1 7 ≤ 8 := hI.1 1 _
      refine fz_callV (d' := 0) (M' := mX2_isTown) (As := [fz_i t]) (st := []) kX10_drawn rfl rfl vX2_isTown rfl rfl rfl rfl (Nat.le_of_ble_eq_true rfl) (Nat.le_of_ble_eq_true rfl) (by decide) (sX2_isTown h hI t ) (fun H30 r31 q32 o33 => ?_)
      obtain ⟨e34, y35, rfl, p36⟩ := q32
      subst H30
      clear o33
      rcases p36 with ⟨rfl, c37⟩ | ⟨rfl, c37⟩
      · refine fz_if_eq (tgt := 60) kX10_drawn rfl (by decide) (fun c38 => ?_) (fun c38 => ?_)
        · exfalso; omega
        · refine fz_iload kX10_drawn rfl rfl ?_
          refine fz_iconst ⟨by decide, by decide⟩ kX10_drawn rfl ?_
          refine fz_icmp_lt (tgt := 60) kX10_drawn rfl (by decide) (fun c39 => ?_) (fun c39 => ?_)
          · refine fz_iconst ⟨by decide, by decide⟩ kX10_drawn rfl ?_
            exact fz_iret kX10_drawn rfl rfl (fun _ => ⟨rfl, _, rfl, (by omega)⟩)
          · refine fz_iload kX10_drawn rfl rfl ?_
            refine fz_bipush ⟨by decide, by decide⟩ kX10_drawn rfl ?_
            refine fz_icmp_gt (tgt := 60) kX10_drawn rfl (by decide) (fun c40 => ?_) (fun c40 => ?_)
            · refine fz_iconst ⟨by decide, by decide⟩ kX10_drawn rfl ?_
              exact fz_iret kX10_drawn rfl rfl (fun _ => ⟨rfl, _, rfl, (by omega)⟩)
            · refine fz_iload kX10_drawn rfl rfl ?_
              refine fz_if_lt (tgt := 60) kX10_drawn rfl (by decide) (fun c41 => ?_) (fun c41 => ?_)
              · refine fz_iconst ⟨by decide, by decide⟩ kX10_drawn rfl ?_
                exact fz_iret kX10_drawn rfl rfl (fun _ => ⟨rfl, _, rfl, (by omega)⟩)
              · refine fz_iload kX10_drawn rfl rfl ?_
                refine fz_iconst ⟨by decide, by decide⟩ kX10_drawn rfl ?_
                refine fz_icmp_le (tgt := 62) kX10_drawn rfl (by decide) (fun c42 => ?_) (fun c42 => ?_)
                · refine fz_aload_n kX10_drawn rfl rfl ?_
                  refine fz_getR (t := 1) kX10_drawn rfl rfl ?_
                  refine fz_aload_n kX10_drawn rfl rfl ?_
                  refine fz_getR (t := 9) kX10_drawn rfl rfl ?_
                  refine fz_getR (t := 11) kX10_drawn rfl rfl ?_
                  refine fz_iload_n kX10_drawn rfl rfl ?_
                  refine fz_ialdV (n := 11) (v := h 11 (d.toNat)) kX10_drawn rfl rfl (by omega) (by omega) rfl ?_
                  have b43 : 0 ≤ h 11 (d.toNat) ∧ h 11 (d.toNat) ≤ 7 := hI.1 11 _
                  refine fz_iload_n kX10_drawn rfl rfl ?_
                  refine fz_callV (d' := 0) (M' := mX2_roadsByCarters) (As := [fz_i (h 11 (d.toNat)), fz_i t]) (st := []) kX10_drawn rfl rfl vX2_roadsByCarters rfl rfl rfl rfl (Nat.le_of_ble_eq_true rfl) (Nat.le_of_ble_eq_true rfl) (by decide) (sX2_roadsByCarters h hI (h 11 (d.toNat)) t (by omega) (by omega)) (fun H44 r45 q46 o47 => ?_)
                  obtain ⟨e48, y50, rfl, f49⟩ := q46
                  subst H44
                  clear o47
                  refine fz_istore (ls' := [(7, fz_i y50), (6, fz_i z10), (5, fz_i z1), (0, fz_r 0), (1, fz_i d), (2, fz_i t), (3, fz_i se), (4, fz_i nw)]) kX10_drawn rfl (by decide) rfl ?_
                  refine fz_iload kX10_drawn rfl rfl ?_
                  refine fz_if_ge (tgt := 88) kX10_drawn rfl (by decide) (fun c51 => ?_) (fun c51 => ?_)
                  · refine fz_iload_n kX10_drawn rfl rfl ?_
                    refine fz_istore (ls' := [(8, fz_i se), (7, fz_i y50), (6, fz_i z10), (5, fz_i z1), (0, fz_r 0), (1, fz_i d), (2, fz_i t), (3, fz_i se), (4, fz_i nw)]) kX10_drawn rfl (by decide) rfl ?_
                    refine fz_iconst ⟨by decide, by decide⟩ kX10_drawn rfl ?_
                    refine fz_istore (ls' := [(9, fz_i 0), (8, fz_i se), (7, fz_i y50), (6, fz_i z10), (5, fz_i z1), (0, fz_r 0), (1, fz_i d), (2, fz_i t), (3, fz_i se), (4, fz_i nw)]) kX10_drawn rfl (by decide) rfl ?_
                    refine fz_iconst ⟨by decide, by decide⟩ kX10_drawn rfl ?_
                    refine fz_istore (ls' := [(10, fz_i 0), (9, fz_i 0), (8, fz_i se), (7, fz_i y50), (6, fz_i z10), (5, fz_i z1), (0, fz_r 0), (1, fz_i d), (2, fz_i t), (3, fz_i se), (4, fz_i nw)]) kX10_drawn rfl (by decide) rfl ?_
                    refine fz_iconst ⟨by decide, by decide⟩ kX10_drawn rfl ?_
                    refine fz_istore (ls' := [(11, fz_i 0), (10, fz_i 0), (9, fz_i 0), (8, fz_i se), (7, fz_i y50), (6, fz_i z10), (5, fz_i z1), (0, fz_r 0), (1, fz_i d), (2, fz_i t), (3, fz_i se), (4, fz_i nw)]) kX10_drawn rfl (by decide) rfl ?_
                    have lp57 : ∀ (n56 : Nat) (x52 : Int) (x53 : Int) (x54 : Int) (x55 : Int), (0 ≤ x52 ∧ x52 ≤ 2147483647) → ((-2147483648) ≤ x53 ∧ x53 ≤ 2147483647) → ((-2147483648) ≤ x54 ∧ x54 ≤ 2147483647) → ((-2147483648) ≤ x55 ∧ x55 ≤ 2147483647) → (z1 - x52).toNat < n56 → fz_R 1 mX10_drawn 100 [(11, fz_i x52), (10, fz_i x53), (9, fz_i x54), (8, fz_i x55), (7, fz_i y50), (6, fz_i z10), (5, fz_i z1), (0, fz_r 0), (1, fz_i d), (2, fz_i t), (3, fz_i se), (4, fz_i nw)] [] h (qX10_drawn h d t se nw) := by
                      intro n56
                      induction n56 with
                      | zero => intro x52 x53 x54 x55 hv60 hv61 hv62 hv63 hm59; exact absurd hm59 (by omega)
                      | succ n56 ih58 =>
                        intro x52 x53 x54 x55 hv60 hv61 hv62 hv63 hm59
                        refine fz_iload kX10_drawn rfl rfl ?_
                        refine fz_iload kX10_drawn rfl rfl ?_
                        refine fz_icmp_ge (tgt := 209) kX10_drawn rfl (by decide) (fun c64 => ?_) (fun c64 => ?_)
                        · refine fz_iload kX10_drawn rfl rfl ?_
                          refine fz_if_ne (tgt := 219) kX10_drawn rfl (by decide) (fun c65 => ?_) (fun c65 => ?_)
                          · refine fz_iload kX10_drawn rfl rfl ?_
                            exact fz_iret kX10_drawn rfl rfl (fun _ => ⟨rfl, _, rfl, (by omega)⟩)
                          · refine fz_iload kX10_drawn rfl rfl ?_
                            refine fz_goto (tgt := 221) kX10_drawn rfl (by decide) ?_
                            exact fz_iret kX10_drawn rfl rfl (fun _ => ⟨rfl, _, rfl, (by omega)⟩)
                        · refine fz_aload_n kX10_drawn rfl rfl ?_
                          refine fz_getR (t := 9) kX10_drawn rfl rfl ?_
                          refine fz_getR (t := 13) kX10_drawn rfl rfl ?_
                          refine fz_iload_n kX10_drawn rfl rfl ?_
                          refine fz_ialdV (n := 11) (v := h 13 (d.toNat)) kX10_drawn rfl rfl (by omega) (by omega) rfl ?_
                          have b66 : 0 ≤ h 13 (d.toNat) ∧ h 13 (d.toNat) ≤ 4 := hI.1 13 _
                          refine fz_istore (ls' := [(12, fz_i (h 13 (d.toNat))), (11, fz_i x52), (10, fz_i x53), (9, fz_i x54), (8, fz_i x55), (7, fz_i y50), (6, fz_i z10), (5, fz_i z1), (0, fz_r 0), (1, fz_i d), (2, fz_i t), (3, fz_i se), (4, fz_i nw)]) kX10_drawn rfl (by decide) rfl ?_
                          refine fz_iconst ⟨by decide, by decide⟩ kX10_drawn rfl ?_
                          refine fz_istore (ls' := [(13, fz_i 0), (12, fz_i (h 13 (d.toNat))), (11, fz_i x52), (10, fz_i x53), (9, fz_i x54), (8, fz_i x55), (7, fz_i y50), (6, fz_i z10), (5, fz_i z1), (0, fz_r 0), (1, fz_i d), (2, fz_i t), (3, fz_i se), (4, fz_i nw)]) kX10_drawn rfl (by decide) rfl ?_
                          have lp71 : ∀ (n70 : Nat) (x67 : Int) (x68 : Int) (x69 : Int), (0 ≤ x67 ∧ x67 ≤ 2147483647) → ((-2147483648) ≤ x68 ∧ x68 ≤ 2147483647) → ((-2147483648) ≤ x69 ∧ x69 ≤ 2147483647) → (y50 - x67).toNat < n70 → fz_R 1 mX10_drawn 121 [(13, fz_i x67), (12, fz_i x68), (11, fz_i x52), (10, fz_i x53), (9, fz_i x54), (8, fz_i x69), (7, fz_i y50), (6, fz_i z10), (5, fz_i z1), (0, fz_r 0), (1, fz_i d), (2, fz_i t), (3, fz_i se), (4, fz_i nw)] [] h (qX10_drawn h d t se nw) := by
                            intro n70
                            induction n70 with
                            | zero => intro x67 x68 x69 hv74 hv75 hv76 hm73; exact absurd hm73 (by omega)
                            | succ n70 ih72 =>
                              intro x67 x68 x69 hv74 hv75 hv76 hm73
                              refine fz_iload kX10_drawn rfl rfl ?_
                              refine fz_iload kX10_drawn rfl rfl ?_
                              refine fz_icmp_ge (tgt := 172) kX10_drawn rfl (by decide) (fun c77 => ?_) (fun c77 => ?_)
                              · refine fz_iload kX10_drawn rfl rfl ?_
                                refine fz_iload kX10_drawn rfl rfl ?_
                                refine fz_aload_n kX10_drawn rfl rfl ?_
                                refine fz_getR (t := 9) kX10_drawn rfl rfl ?_
                                refine fz_getR (t := 13) kX10_drawn rfl rfl ?_
                                refine fz_iload_n kX10_drawn rfl rfl ?_
                                refine fz_ialdV (n := 11) (v := h 13 (d.toNat)) kX10_drawn rfl rfl (by omega) (by omega) rfl ?_
                                refine fz_icmp_ne (tgt := 192) kX10_drawn rfl (by decide) (fun c78 => ?_) (fun c78 => ?_)
                                · refine fz_iconst ⟨by decide, by decide⟩ kX10_drawn rfl ?_
                                  refine fz_iaddN kX10_drawn rfl (by omega) ?_
                                  refine fz_istore (ls' := [(9, fz_i (x54 + 0)), (13, fz_i x67), (12, fz_i x68), (11, fz_i x52), (10, fz_i x53), (8, fz_i x69), (7, fz_i y50), (6, fz_i z10), (5, fz_i z1), (0, fz_r 0), (1, fz_i d), (2, fz_i t), (3, fz_i se), (4, fz_i nw)]) kX10_drawn rfl (by decide) rfl ?_
                                  refine fz_iload kX10_drawn rfl rfl ?_
                                  refine fz_iload kX10_drawn rfl rfl ?_
                                  refine fz_iadd kX10_drawn rfl ?_
                                  refine fz_nmw (fun z79 e80 => ?_)
                                  refine fz_istore (ls' := [(10, fz_i z79), (9, fz_i (x54 + 0)), (13, fz_i x67), (12, fz_i x68), (11, fz_i x52), (8, fz_i x69), (7, fz_i y50), (6, fz_i z10), (5, fz_i z1), (0, fz_r 0), (1, fz_i d), (2, fz_i t), (3, fz_i se), (4, fz_i nw)]) kX10_drawn rfl (by decide) rfl ?_
                                  refine fz_iincN (ls' := [(11, fz_i (x52 + 1)), (10, fz_i z79), (9, fz_i (x54 + 0)), (13, fz_i x67), (12, fz_i x68), (8, fz_i x69), (7, fz_i y50), (6, fz_i z10), (5, fz_i z1), (0, fz_r 0), (1, fz_i d), (2, fz_i t), (3, fz_i se), (4, fz_i nw)]) kX10_drawn rfl (by decide) rfl (by omega) rfl ?_
                                  refine fz_goto (tgt := 100) kX10_drawn rfl (by decide) ?_
                                  refine fz_sub (fz_pk_sub (ls' := [(11, fz_i (x52 + 1)), (10, fz_i z79), (9, fz_i (x54 + 0)), (8, fz_i x69), (7, fz_i y50), (6, fz_i z10), (5, fz_i z1), (0, fz_r 0), (1, fz_i d), (2, fz_i t), (3, fz_i se), (4, fz_i nw)]) [0, 1, 2, 5, 6, 7, 8, 9, 10, 11, 12, 13] rfl) ?_
                                  exact ih58 (x52 + 1) z79 (x54 + 0) x69 (by omega) (by omega) (by omega) (by omega) (by omega)
                                · refine fz_iconst ⟨by decide, by decide⟩ kX10_drawn rfl ?_
                                  refine fz_goto (tgt := 193) kX10_drawn rfl (by decide) ?_
                                  refine fz_iadd kX10_drawn rfl ?_
                                  refine fz_nmw (fun z81 e82 => ?_)
                                  refine fz_istore (ls' := [(9, fz_i z81), (13, fz_i x67), (12, fz_i x68), (11, fz_i x52), (10, fz_i x53), (8, fz_i x69), (7, fz_i y50), (6, fz_i z10), (5, fz_i z1), (0, fz_r 0), (1, fz_i d), (2, fz_i t), (3, fz_i se), (4, fz_i nw)]) kX10_drawn rfl (by decide) rfl ?_
                                  refine fz_iload kX10_drawn rfl rfl ?_
                                  refine fz_iload kX10_drawn rfl rfl ?_
                                  refine fz_iadd kX10_drawn rfl ?_
                                  refine fz_nmw (fun z83 e84 => ?_)
                                  refine fz_istore (ls' := [(10, fz_i z83), (9, fz_i z81), (13, fz_i x67), (12, fz_i x68), (11, fz_i x52), (8, fz_i x69), (7, fz_i y50), (6, fz_i z10), (5, fz_i z1), (0, fz_r 0), (1, fz_i d), (2, fz_i t), (3, fz_i se), (4, fz_i nw)]) kX10_drawn rfl (by decide) rfl ?_
                                  refine fz_iincN (ls' := [(11, fz_i (x52 + 1)), (10, fz_i z83), (9, fz_i z81), (13, fz_i x67), (12, fz_i x68), (8, fz_i x69), (7, fz_i y50), (6, fz_i z10), (5, fz_i z1), (0, fz_r 0), (1, fz_i d), (2, fz_i t), (3, fz_i se), (4, fz_i nw)]) kX10_drawn rfl (by decide) rfl (by omega) rfl ?_
                                  refine fz_goto (tgt := 100) kX10_drawn rfl (by decide) ?_
                                  refine fz_sub (fz_pk_sub (ls' := [(11, fz_i (x52 + 1)), (10, fz_i z83), (9, fz_i z81), (8, fz_i x69), (7, fz_i y50), (6, fz_i z10), (5, fz_i z1), (0, fz_r 0), (1, fz_i d), (2, fz_i t), (3, fz_i se), (4, fz_i nw)]) [0, 1, 2, 5, 6, 7, 8, 9, 10, 11, 12, 13] rfl) ?_
                                  exact ih58 (x52 + 1) z83 z81 x69 (by omega) (by omega) (by omega) (by omega) (by omega)
                              · refine fz_iload kX10_drawn rfl rfl ?_
                                refine fz_ldcw (x := 1103515245) kX10_drawn rfl rfl rfl ?_
                                refine fz_imul kX10_drawn rfl ?_
                                refine fz_nmw (fun z85 e86 => ?_)
                                refine fz_sipush ⟨by decide, by decide⟩ kX10_drawn rfl ?_
                                refine fz_iadd kX10_drawn rfl ?_
                                refine fz_nmw (fun z87 e88 => ?_)
                                refine fz_istore (ls' := [(8, fz_i z87), (13, fz_i x67), (12, fz_i x68), (11, fz_i x52), (10, fz_i x53), (9, fz_i x54), (7, fz_i y50), (6, fz_i z10), (5, fz_i z1), (0, fz_r 0), (1, fz_i d), (2, fz_i t), (3, fz_i se), (4, fz_i nw)]) kX10_drawn rfl (by decide) rfl ?_
                                refine fz_iload kX10_drawn rfl rfl ?_
                                refine fz_bipush ⟨by decide, by decide⟩ kX10_drawn rfl ?_
                                refine fz_iushr kX10_drawn rfl ?_
                                have b89 : -2147483648 ≤ (fz_ush z87 8) ∧ (fz_ush z87 8) < 2147483648 := fz_b32 _
                                refine fz_bipush ⟨by decide, by decide⟩ kX10_drawn rfl ?_
                                refine fz_iremT kX10_drawn rfl (by decide) (by decide) (fun z90 r91 e92 e93 e94 e95 e96 e97 => ?_)
                                refine fz_aload_n kX10_drawn rfl rfl ?_
                                refine fz_getR (t := 27) kX10_drawn rfl rfl ?_
                                refine fz_getV (v := h 27 9) kX10_drawn rfl rfl rfl ?_
                                have b99 : 0 ≤ h 27 9 ∧ h 27 9 ≤ 12 := hI.1 27 _
                                refine fz_icmp_ge (tgt := 166) kX10_drawn rfl (by decide) (fun c100 => ?_) (fun c100 => ?_)
                                · refine fz_iincN (ls' := [(13, fz_i (x67 + 1)), (8, fz_i z87), (12, fz_i x68), (11, fz_i x52), (10, fz_i x53), (9, fz_i x54), (7, fz_i y50), (6, fz_i z10), (5, fz_i z1), (0, fz_r 0), (1, fz_i d), (2, fz_i t), (3, fz_i se), (4, fz_i nw)]) kX10_drawn rfl (by decide) rfl (by omega) rfl ?_
                                  refine fz_goto (tgt := 121) kX10_drawn rfl (by decide) ?_
                                  refine fz_sub (fz_pk_sub (ls' := [(13, fz_i (x67 + 1)), (12, fz_i x68), (11, fz_i x52), (10, fz_i x53), (9, fz_i x54), (8, fz_i z87), (7, fz_i y50), (6, fz_i z10), (5, fz_i z1), (0, fz_r 0), (1, fz_i d), (2, fz_i t), (3, fz_i se), (4, fz_i nw)]) [0, 2, 3, 4, 5, 1, 6, 7, 8, 9, 10, 11, 12, 13] rfl) ?_
                                  exact ih72 (x67 + 1) x68 z87 (by omega) (by omega) (by omega) (by omega)
                                · refine fz_iload kX10_drawn rfl rfl ?_
                                  refine fz_iconst ⟨by decide, by decide⟩ kX10_drawn rfl ?_
                                  refine fz_iadd kX10_drawn rfl ?_
                                  refine fz_nmw (fun z101 e102 => ?_)
                                  refine fz_iconst ⟨by decide, by decide⟩ kX10_drawn rfl ?_
                                  refine fz_iremT kX10_drawn rfl (by decide) (by decide) (fun z103 r104 e105 e106 e107 e108 e109 e110 => ?_)
                                  refine fz_istore (ls' := [(12, fz_i z103), (8, fz_i z87), (13, fz_i x67), (11, fz_i x52), (10, fz_i x53), (9, fz_i x54), (7, fz_i y50), (6, fz_i z10), (5, fz_i z1), (0, fz_r 0), (1, fz_i d), (2, fz_i t), (3, fz_i se), (4, fz_i nw)]) kX10_drawn rfl (by decide) rfl ?_
                                  refine fz_iincN (ls' := [(13, fz_i (x67 + 1)), (12, fz_i z103), (8, fz_i z87), (11, fz_i x52), (10, fz_i x53), (9, fz_i x54), (7, fz_i y50), (6, fz_i z10), (5, fz_i z1), (0, fz_r 0), (1, fz_i d), (2, fz_i t), (3, fz_i se), (4, fz_i nw)]) kX10_drawn rfl (by decide) rfl (by omega) rfl ?_
                                  refine fz_goto (tgt := 121) kX10_drawn rfl (by decide) ?_
                                  refine fz_sub (fz_pk_sub (ls' := [(13, fz_i (x67 + 1)), (12, fz_i z103), (11, fz_i x52), (10, fz_i x53), (9, fz_i x54), (8, fz_i z87), (7, fz_i y50), (6, fz_i z10), (5, fz_i z1), (0, fz_r 0), (1, fz_i d), (2, fz_i t), (3, fz_i se), (4, fz_i nw)]) [0, 1, 3, 4, 5, 2, 6, 7, 8, 9, 10, 11, 12, 13] rfl) ?_
                                  exact ih72 (x67 + 1) z103 z87 (by omega) (by omega) (by omega) (by omega)
                          exact lp71 _ 0 (h 13 (d.toNat)) x55 (by omega) (by omega) (by omega) (Nat.lt_succ_self _)
                    exact lp57 _ 0 0 0 se (by omega) (by omega) (by omega) (by omega) (Nat.lt_succ_self _)
                  · refine fz_iconst ⟨by decide, by decide⟩ kX10_drawn rfl ?_
                    exact fz_iret kX10_drawn rfl rfl (fun _ => ⟨rfl, _, rfl, (by omega)⟩)
                · refine fz_iconst ⟨by decide, by decide⟩ kX10_drawn rfl ?_
                  exact fz_iret kX10_drawn rfl rfl (fun _ => ⟨rfl, _, rfl, (by omega)⟩)
      · refine fz_if_eq (tgt := 60) kX10_drawn rfl (by decide) (fun c112 => ?_) (fun c112 => ?_)
        · refine fz_iconst ⟨by decide, by decide⟩ kX10_drawn rfl ?_
          exact fz_iret kX10_drawn rfl rfl (fun _ => ⟨rfl, _, rfl, (by omega)⟩)
        · exfalso; omega
  · refine fz_if_eq (tgt := 60) kX10_drawn rfl (by decide) (fun c113 => ?_) (fun c113 => ?_)
    · refine fz_iconst ⟨by decide, by decide⟩ kX10_drawn rfl ?_
      exact fz_iret kX10_drawn rfl rfl (fun _ => ⟨rfl, _, rfl, (by omega)⟩)
    · exfalso; omega
