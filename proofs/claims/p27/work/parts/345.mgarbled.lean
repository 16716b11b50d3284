/-! ===== what the methods keep ===== -/
abbrev qX11_garbled (h : fz_H) (d t pt : Int) : fz_H → Option fz_V → Prop := fun h' r0 => fz_Iv h' ∧ fz_fr [(86, 99999), (87, 99999)] h h' ∧ fz_RM h' ∧ ∃ r : Int, r0 = some (fz_l r) ∧ ((-9223372036854775808) ≤ r ∧ r ≤ 9223372036854775807) ∧ (fl_gbM h h' d t pt r)
set_option maxHeartbeats 1000000 in
set_option maxRecDepth 100000 in
theorem sX11_garbled (h : fz_H) (hI : fz_Iv h) (d t pt : Int) (hRM : fz_RM h) : fz_R 3 mX11_garbled 0 [(0, fz_r 53), (1, fz_i d), (2, fz_i t), (3, fz_i pt)] [] h (qX11_garbled h d t pt) := by
  refine fz_knowl (fun hk => ?_)
  have hr_d : -2147483648 ≤ d ∧ d < 2147483648 := hk _ (List.Mem.tail _ (List.Mem.head _))
  have hr_t : -2147483648 ≤ t ∧ t < 2147483648 := hk _ (List.Mem.tail _ (List.Mem.tail _ (List.Mem.head _)))
  have hr_pt : -2147483648 ≤ pt ∧ pt < 2147483648 := hk _ (List.Mem.tail _ (List.Mem.tail _ (List.Mem.tail _ (List.Mem.head _))))
  clear hk
  have hf : fz_fr [(86, 99999), (87, 99999)] h h := fz_fr_rf
  have k1 : 0 ≤ h 53 9 ∧ h 53 9 ≤ 12 := hI.1 53 _
  refine fz_aload_n kX11_garbled rfl rfl ?_
  refine fz_iload_n kX11_garbled rfl rfl ?_
  have b2 : 0 ≤ h 53 10 ∧ h 53 10 ≤ 11 := hI.1 53 _
  refine fz_callV (d' := 1) (M' := mX11_isDeed) (As := [fz_i d]) (st := []) kX11_garbled rfl rfl vX11_isDeed rfl rfl rfl rfl (Nat.le_of_ble_eq_true rfl) (Nat.le_of_ble_eq_true rfl) (by decide) (sX11_isDeed h hI d ) (fun H3 r4 q5 o6 => ?_)
  obtain ⟨e7, y8, rfl, p9⟩ := q5
  subst H3
  clear o6
  rcases p9 with ⟨rfl, c10⟩ | ⟨rfl, c10⟩
  · refine fz_if_eq (tgt := 25) kX11_garbled rfl (by decide) (fun c11 => ?_) (fun c11 => ?_)
    · exfalso; omega
    · refine fz_aload_n kX11_garbled rfl rfl ?_
      refine fz_iload_n kX11_garbled rfl rfl ?_
      have b12 : 0 ≤ h 53 0 ∧ h 53 0 ≤ 8 := hI.1 53 _
      refine fz_callV (d' := 1) (M' := mX11_isTown) (As := [fz_i t]) (st := []) kX11_garbled rfl rfl vX11_isTown rfl rfl rfl rfl (Nat.le_of_ble_eq_true rfl) (Nat.le_of_ble_eq_true rfl) (by decide) (sX11_isTown h hI t ) (fun H13 r14 q15 o16 => ?_)
      obtain ⟨e17, y18, rfl, p19⟩ := q15
      subst H13
      clear o16
      rcases p19 with ⟨rfl, c20⟩ | ⟨rfl, c20⟩
      · refine fz_if_eq (tgt := 25) kX11_garbled rfl (by decide) (fun c21 => ?_) (fun c21 => ?_)
        · exfalso; omega
        · refine fz_iload_n kX11_garbled rfl rfl ?_
          refine fz_iconst ⟨by decide, by decide⟩ kX11_garbled rfl ?_
          refine fz_iconst ⟨by decide, by decide⟩ kX11_garbled rfl ?_
          refine fz_callS (d' := 0) (M' := mX11_within) (As := [fz_i pt, fz_i 0, fz_i 1]) (st := []) kX11_garbled rfl rfl vX11_within rfl rfl (Nat.le_of_ble_eq_true rfl) (Nat.le_of_ble_eq_true rfl) (by decide) (sX11_within h hI pt 0 1 ) (fun H22 r23 q24 o25 => ?_)
          obtain ⟨e26, y27, rfl, p28⟩ := q24
          subst H22
          clear o25
          rcases p28 with ⟨rfl, c29⟩ | ⟨rfl, c29⟩
          · refine fz_if_ne (tgt := 29) kX11_garbled rfl (by decide) (fun c30 => ?_) (fun c30 => ?_)
            · refine fz_aload_n kX11_garbled rfl rfl ?_
              refine fz_iload_n kX11_garbled rfl rfl ?_
              refine fz_iload_n kX11_garbled rfl rfl ?_
              refine fz_callV (d' := 2) (M' := mX11_roadsTo) (As := [fz_i d, fz_i t]) (st := []) kX11_garbled rfl rfl vX11_roadsTo rfl rfl rfl rfl (Nat.le_of_ble_eq_true rfl) (Nat.le_of_ble_eq_true rfl) (by decide) (sX11_roadsTo_k h hI d t hRM (by omega) (by omega)) (fun H31 r32 q33 o34 => ?_)
              obtain ⟨hI35, hf36, hRM37, y41, rfl, f38, f39, f40⟩ := q33
              clear o34
              have hf42 := fz_fr_tr hf hf36 (show fz_su [(86, 99999), (87, 99999)] [(86, 99999), (87, 99999)] = true from rfl)
              refine fz_istore (ls' := [(4, fz_i y41), (0, fz_r 53), (1, fz_i d), (2, fz_i t), (3, fz_i pt)]) kX11_garbled rfl (by decide) rfl ?_
              refine fz_iload kX11_garbled rfl rfl ?_
              refine fz_bipush ⟨by decide, by decide⟩ kX11_garbled rfl ?_
              refine fz_icmp_ne (tgt := 47) kX11_garbled rfl (by decide) (fun c43 => ?_) (fun c43 => ?_)
              · refine fz_lconst (x := 0) ⟨by decide, by decide⟩ rfl kX11_garbled rfl ?_
                refine fz_lstore (ls' := [(5, fz_l 0), (4, fz_i y41), (0, fz_r 53), (1, fz_i d), (2, fz_i t), (3, fz_i pt)]) kX11_garbled rfl (by decide) rfl ?_
                refine fz_lconst (x := 1) ⟨by decide, by decide⟩ rfl kX11_garbled rfl ?_
                refine fz_lstore (ls' := [(7, fz_l 1), (5, fz_l 0), (4, fz_i y41), (0, fz_r 53), (1, fz_i d), (2, fz_i t), (3, fz_i pt)]) kX11_garbled rfl (by decide) rfl ?_
                refine fz_iconst ⟨by decide, by decide⟩ kX11_garbled rfl ?_
                refine fz_istore (ls' := [(9, fz_i 0), (7, fz_l 1), (5, fz_l 0), (4, fz_i y41), (0, fz_r 53), (1, fz_i d), (2, fz_i t), (3, fz_i pt)]) kX11_garbled rfl (by decide) rfl ?_
                have lp47 : ∀ (n46 : Nat) (x44 : Int) (x45 : Int), (0 ≤ x44 ∧ x44 ≤ 7) → (1 ≤ x45 ∧ x45 ≤ 35831808) → (x44 ≤ y41) → (((x44 = 0 ∧ x45 = 1) ∨ (x44 = 1 ∧ x45 = 12) ∨ (x44 = 2 ∧ x45 = 144) ∨ (x44 = 3 ∧ x45 = 1728) ∨ (x44 = 4 ∧ x45 = 20736) ∨ (x44 = 5 ∧ x45 = 248832) ∨ (x44 = 6 ∧ x45 = 2985984) ∨ (x44 = 7 ∧ x45 = 35831808))) → (x45 = fl_p12 (x44).toNat) → (y41 - x44).toNat < n46 → fz_R 3 mX11_garbled 56 [(9, fz_i x44), (7, fz_l x45), (5, fz_l 0), (4, fz_i y41), (0, fz_r 53), (1, fz_i d), (2, fz_i t), (3, fz_i pt)] [] H31 (qX11_garbled h d t pt) := by
                  intro n46
                  induction n46 with
                  | zero => intro x44 x45 hv50 hv51 hv52 hv53 hv54 hm49; exact absurd hm49 (by omega)
                  | succ n46 ih48 =>
                    intro x44 x45 hv50 hv51 hv52 hv53 hv54 hm49
                    refine fz_iload kX11_garbled rfl rfl ?_
                    refine fz_iload kX11_garbled rfl rfl ?_
                    refine fz_icmp_ge (tgt := 77) kX11_garbled rfl (by decide) (fun c55 => ?_) (fun c55 => ?_)
                    · clear hv53
                      have k57 : x45 = fl_p12 (y41).toNat := hv54.trans (congrArg (fun z : Int => fl_p12 z.toNat) (by omega))
                      refine fz_iconst ⟨by decide, by decide⟩ kX11_garbled rfl ?_
                      refine fz_istore (ls' := [(9, fz_i 0), (7, fz_l x45), (5, fz_l 0), (4, fz_i y41), (0, fz_r 53), (1, fz_i d), (2, fz_i t), (3, fz_i pt)]) kX11_garbled rfl (by decide) rfl ?_
                      have lp62 : ∀ (n61 : Nat) (x59 : Int) (x60 : Int), (0 ≤ x59 ∧ x59 ≤ 12) → ((-9223372036854775808) ≤ x60 ∧ x60 ≤ 9223372036854775807) → (x59 % 5 = 0) → (x59 ≤ y41 + 5) → (x60 = fl_av (h 53 9) y41 (x59 / 5).toNat) → (y41 + 1 - x59).toNat < n61 → fz_R 3 mX11_garbled 80 [(9, fz_i x59), (7, fz_l x45), (5, fz_l x60), (4, fz_i y41), (0, fz_r 53), (1, fz_i d), (2, fz_i t), (3, fz_i pt)] [] H31 (qX11_garbled h d t pt) := by
                        intro n61
                        induction n61 with
                        | zero => intro x59 x60 hv65 hv66 hv67 hv68 hv69 hm64; exact absurd hm64 (by omega)
                        | succ n61 ih63 =>
                          intro x59 x60 hv65 hv66 hv67 hv68 hv69 hm64
                          refine fz_iload kX11_garbled rfl rfl ?_
                          refine fz_iload kX11_garbled rfl rfl ?_
                          refine fz_icmp_gt (tgt := 180) kX11_garbled rfl (by decide) (fun c70 => ?_) (fun c70 => ?_)
                          · have k71 := fl_av_e hv69 ⟨by omega, by omega, by omega, by omega⟩
                            refine fz_lload kX11_garbled rfl rfl ?_
                            refine fz_lstore (ls' := [(9, fz_l x60), (7, fz_l x45), (5, fz_l x60), (4, fz_i y41), (0, fz_r 53), (1, fz_i d), (2, fz_i t), (3, fz_i pt)]) kX11_garbled rfl (by decide) rfl ?_
                            refine fz_lload kX11_garbled rfl rfl ?_
                            refine fz_lstore (ls' := [(11, fz_l x45), (9, fz_l x60), (7, fz_l x45), (5, fz_l x60), (4, fz_i y41), (0, fz_r 53), (1, fz_i d), (2, fz_i t), (3, fz_i pt)]) kX11_garbled rfl (by decide) rfl ?_
                            have lp76 : ∀ (n75 : Nat) (x73 : Int) (x74 : Int), ((-9223372036854775808) ≤ x73 ∧ x73 ≤ 9223372036854775807) → ((-9223372036854775808) ≤ x74 ∧ x74 ≤ 9223372036854775807) → (x74 ≠ 0 ∨ x73 ≠ 0) → (∃ m : Nat, fl_gr m x74 x73 (fl_gq 200 (fl_p12 (y41).toNat) (fl_ch5 (h 53 9) (y41).toNat 0))) → (max x73 (-x73)).toNat < n75 → fz_R 3 mX11_garbled 188 [(11, fz_l x73), (9, fz_l x74), (7, fz_l x45), (5, fz_l x60), (4, fz_i y41), (0, fz_r 53), (1, fz_i d), (2, fz_i t), (3, fz_i pt)] [] H31 (qX11_garbled h d t pt) := by
                              intro n75
                              induction n75 with
                              | zero => intro x73 x74 hv79 hv80 hv81 hv82 hm78; exact absurd hm78 (by omega)
                              | succ n75 ih77 =>
                                intro x73 x74 hv79 hv80 hv81 hv82 hm78
                                refine fz_lload kX11_garbled rfl rfl ?_
                                refine fz_lconst (x := 0) ⟨by decide, by decide⟩ rfl kX11_garbled rfl ?_
                                refine fz_lcmp kX11_garbled rfl ?_
                                have b83 := fz_cmp_c x73 0
                                refine fz_if_eq (tgt := 213) kX11_garbled rfl (by decide) (fun c84 => ?_) (fun c84 => ?_)
                                · refine fz_iload_n kX11_garbled rfl rfl ?_
                                  refine fz_if_ne (tgt := 225) kX11_garbled rfl (by decide) (fun c85 => ?_) (fun c85 => ?_)
                                  · refine fz_lload kX11_garbled rfl rfl ?_
                                    refine fz_lload kX11_garbled rfl rfl ?_
                                    refine fz_ldiv (by omega) kX11_garbled rfl ?_
                                    have b86 := fz_wl_b (Int.tdiv x45 x74)
                                    exact fz_lret kX11_garbled rfl rfl (fun _ => ⟨hI35, hf42, hRM37, _, rfl, (by omega), (by first | exact Or.inl ⟨(by unfold fl_oG; omega), rfl⟩ | exact Or.inr ⟨(by unfold fl_oG; omega), _, _, f39, Or.inr (Or.inl ⟨(by unfold fl_oG; omega), by omega, rfl⟩)⟩ | exact Or.inr ⟨(by unfold fl_oG; omega), _, _, f39, Or.inr (Or.inr ⟨(by unfold fl_oG; omega), by omega, fl_ga_M ⟨by omega, by omega⟩ ⟨by omega, by omega⟩ k71 k57 (fl_gr_en hv82 (by omega)) (Or.inl ⟨by omega, rfl⟩) rfl⟩)⟩ | exact Or.inr ⟨(by unfold fl_oG; omega), _, _, f39, Or.inr (Or.inr ⟨(by unfold fl_oG; omega), by omega, fl_ga_M ⟨by omega, by omega⟩ ⟨by omega, by omega⟩ k71 k57 (fl_gr_en hv82 (by omega)) (Or.inr ⟨by omega, rfl⟩) rfl⟩)⟩)⟩)
                                  · refine fz_lload kX11_garbled rfl rfl ?_
                                    refine fz_lload kX11_garbled rfl rfl ?_
                                    refine fz_ldiv (by omega) kX11_garbled rfl ?_
                                    have b88 := fz_wl_b (Int.tdiv x60 x74)
                                    refine fz_goto (tgt := 230) kX11_garbled rfl (by decide) ?_
                                    exact fz_lret kX11_garbled rfl rfl (fun _ => ⟨hI35, hf42, hRM37, _, rfl, (by omega), (by first | exact Or.inl ⟨(by unfold fl_oG; omega), rfl⟩ | exact Or.inr ⟨(by unfold fl_oG; omega), _, _, f39, Or.inr (Or.inl ⟨(by unfold fl_oG; omega), by omega, rfl⟩)⟩ | exact Or.inr ⟨(by unfold fl_oG; omega), _, _, f39, Or.inr (Or.inr ⟨(by unfold fl_oG; omega), by omega, fl_ga_M ⟨by omega, by omega⟩ ⟨by omega, by omega⟩ k71 k57 (fl_gr_en hv82 (by omega)) (Or.inl ⟨by omega, rfl⟩) rfl⟩)⟩ | exact Or.inr ⟨(by unfold fl_oG; omega), _, _, f39, Or.inr (Or.inr ⟨(by unfold fl_oG; omega), by omega, fl_ga_M ⟨by omega, by omega⟩ ⟨by omega, by omega⟩ k71 k57 (fl_gr_en hv82 (by omega)) (Or.inr ⟨by omega, rfl⟩) rfl⟩)⟩)⟩)
                                · refine fz_lload kX11_garbled rfl rfl ?_
                                  refine fz_lload kX11_garbled rfl rfl ?_
                                  refine fz_lrem (by omega) kX11_garbled rfl ?_
                                  have b90 := fz_wl_b (Int.tmod x74 x73)
                                  have b91 := fl_tmod_b (x := x74) (y := x73) (by omega) (by omega) (by omega)
                                  refine fz_lstore (ls' := [(13, fz_l (fz_wl (Int.tmod x74 x73))), (11, fz_l x73), (9, fz_l x74), (7, fz_l x45), (5, fz_l x60), (4, fz_i y41), (0, fz_r 53), (1, fz_i d), (2, fz_i t), (3, fz_i pt)]) kX11_garbled rfl (by decide) rfl ?_
                                  refine fz_lload kX11_garbled rfl rfl ?_
                                  refine fz_lstore (ls' := [(9, fz_l x73), (13, fz_l (fz_wl (Int.tmod x74 x73))), (11, fz_l x73), (7, fz_l x45), (5, fz_l x60), (4, fz_i y41), (0, fz_r 53), (1, fz_i d), (2, fz_i t), (3, fz_i pt)]) kX11_garbled rfl (by decide) rfl ?_
                                  refine fz_lload kX11_garbled rfl rfl ?_
                                  refine fz_lstore (ls' := [(11, fz_l (fz_wl (Int.tmod x74 x73))), (9, fz_l x73), (13, fz_l (fz_wl (Int.tmod x74 x73))), (7, fz_l x45), (5, fz_l x60), (4, fz_i y41), (0, fz_r 53), (1, fz_i d), (2, fz_i t), (3, fz_i pt)]) kX11_garbled rfl (by decide) rfl ?_
                                  refine fz_goto (tgt := 188) kX11_garbled rfl (by decide) ?_
                                  refine fz_sub (fz_pk_sub (ls' := [(11, fz_l (fz_wl (Int.tmod x74 x73))), (9, fz_l x73), (7, fz_l x45), (5, fz_l x60), (4, fz_i y41), (0, fz_r 53), (1, fz_i d), (2, fz_i t), (3, fz_i pt)]) [0, 1, 3, 4, 5, 6, 7, 8, 9] rfl) ?_
                                  exact ih77 (fz_wl (Int.tmod x74 x73)) x73 (by omega) (by omega) (by omega) (fl_gr_st hv82 (by omega)) (by omega)
                            exact lp76 _ x45 x60 (by omega) (by omega) (by omega) (fl_gr_0 ⟨by omega, by omega⟩ ⟨by omega, by omega⟩ k71 k57) (Nat.lt_succ_self _)
                          · refine fz_lconst (x := 1) ⟨by decide, by decide⟩ rfl kX11_garbled rfl ?_
                            refine fz_lstore (ls' := [(10, fz_l 1), (9, fz_i x59), (7, fz_l x45), (5, fz_l x60), (4, fz_i y41), (0, fz_r 53), (1, fz_i d), (2, fz_i t), (3, fz_i pt)]) kX11_garbled rfl (by decide) rfl ?_
                            refine fz_iconst ⟨by decide, by decide⟩ kX11_garbled rfl ?_
                            refine fz_istore (ls' := [(12, fz_i 0), (10, fz_l 1), (9, fz_i x59), (7, fz_l x45), (5, fz_l x60), (4, fz_i y41), (0, fz_r 53), (1, fz_i d), (2, fz_i t), (3, fz_i pt)]) kX11_garbled rfl (by decide) rfl ?_
                            have lp97 : ∀ (n96 : Nat) (x94 : Int) (x95 : Int), (0 ≤ x94 ∧ x94 ≤ 12) → ((-9223372036854775808) ≤ x95 ∧ x95 ≤ 9223372036854775807) → (x94 ≤ x59) → (x95 = fl_w1 y41 (x94).toNat) → (x59 - x94).toNat < n96 → fz_R 3 mX11_garbled 93 [(12, fz_i x94), (10, fz_l x95), (9, fz_i x59), (7, fz_l x45), (5, fz_l x60), (4, fz_i y41), (0, fz_r 53), (1, fz_i d), (2, fz_i t), (3, fz_i pt)] [] H31 (qX11_garbled h d t pt) := by
                              intro n96
                              induction n96 with
                              | zero => intro x94 x95 hv100 hv101 hv102 hv103 hm99; exact absurd hm99 (by omega)
                              | succ n96 ih98 =>
                                intro x94 x95 hv100 hv101 hv102 hv103 hm99
                                refine fz_iload kX11_garbled rfl rfl ?_
                                refine fz_iload kX11_garbled rfl rfl ?_
                                refine fz_icmp_ge (tgt := 123) kX11_garbled rfl (by decide) (fun c104 => ?_) (fun c104 => ?_)
                                · obtain ⟨k105, k106⟩ : ∃ z, z = x95 := ⟨_, rfl⟩
                                  refine fz_iconst ⟨by decide, by decide⟩ kX11_garbled rfl ?_
                                  refine fz_istore (ls' := [(12, fz_i 0), (10, fz_l x95), (9, fz_i x59), (7, fz_l x45), (5, fz_l x60), (4, fz_i y41), (0, fz_r 53), (1, fz_i d), (2, fz_i t), (3, fz_i pt)]) kX11_garbled rfl (by decide) rfl ?_
                                  have lp111 : ∀ (n110 : Nat) (x108 : Int) (x109 : Int), (0 ≤ x108 ∧ x108 ≤ 7) → ((-9223372036854775808) ≤ x109 ∧ x109 ≤ 9223372036854775807) → (x108 ≤ y41) → (x109 = fl_w2 (h 53 9) x59 k105 (x108).toNat) → (y41 - x108).toNat < n110 → fz_R 3 mX11_garbled 126 [(12, fz_i x108), (10, fz_l x109), (9, fz_i x59), (7, fz_l x45), (5, fz_l x60), (4, fz_i y41), (0, fz_r 53), (1, fz_i d), (2, fz_i t), (3, fz_i pt)] [] H31 (qX11_garbled h d t pt) := by
                                    intro n110
                                    induction n110 with
                                    | zero => intro x108 x109 hv114 hv115 hv116 hv117 hm113; exact absurd hm113 (by omega)
                                    | succ n110 ih112 =>
                                      intro x108 x109 hv114 hv115 hv116 hv117 hm113
                                      refine fz_iload kX11_garbled rfl rfl ?_
                                      refine fz_iload kX11_garbled rfl rfl ?_
                                      refine fz_icmp_ge (tgt := 167) kX11_garbled rfl (by decide) (fun c118 => ?_) (fun c118 => ?_)
                                      · refine fz_lload kX11_garbled rfl rfl ?_
                                        refine fz_lload kX11_garbled rfl rfl ?_
                                        refine fz_ladd kX11_garbled rfl ?_
                                        have b119 := fz_wl_b (x60 + x109)
                                        refine fz_lstore (ls' := [(5, fz_l (fz_wl (x60 + x109))), (12, fz_i x108), (10, fz_l x109), (9, fz_i x59), (7, fz_l x45), (4, fz_i y41), (0, fz_r 53), (1, fz_i d), (2, fz_i t), (3, fz_i pt)]) kX11_garbled rfl (by decide) rfl ?_
                                        refine fz_iincN (ls' := [(9, fz_i (x59 + 5)), (5, fz_l (fz_wl (x60 + x109))), (12, fz_i x108), (10, fz_l x109), (7, fz_l x45), (4, fz_i y41), (0, fz_r 53), (1, fz_i d), (2, fz_i t), (3, fz_i pt)]) kX11_garbled rfl (by decide) rfl (by omega) rfl ?_
                                        refine fz_goto (tgt := 80) kX11_garbled rfl (by decide) ?_
                                        refine fz_sub (fz_pk_sub (ls' := [(9, fz_i (x59 + 5)), (7, fz_l x45), (5, fz_l (fz_wl (x60 + x109))), (4, fz_i y41), (0, fz_r 53), (1, fz_i d), (2, fz_i t), (3, fz_i pt)]) [0, 4, 1, 5, 6, 7, 8, 9] rfl) ?_
                                        exact ih63 (x59 + 5) (fz_wl (x60 + x109)) (by omega) (by omega) (by omega) (by omega) (fl_av_s hv69 ⟨by omega, by omega⟩ (k106.trans hv103) (by omega) hv117 (by omega)) (by omega)
                                      · refine fz_lload kX11_garbled rfl rfl ?_
                                        refine fz_iload kX11_garbled rfl rfl ?_
                                        refine fz_iload kX11_garbled rfl rfl ?_
                                        refine fz_icmp_ge (tgt := 150) kX11_garbled rfl (by decide) (fun c121 => ?_) (fun c121 => ?_)
                                        · refine fz_bipush ⟨by decide, by decide⟩ kX11_garbled rfl ?_
                                          refine fz_aload_n kX11_garbled rfl rfl ?_
                                          refine fz_getV (v := h 53 9) kX11_garbled rfl rfl (hf42 53 9 rfl) ?_
                                          have b122 : 0 ≤ h 53 9 ∧ h 53 9 ≤ 12 := hI.1 53 _
                                          refine fz_isubN kX11_garbled rfl (by omega) ?_
                                          refine fz_i2l kX11_garbled rfl ?_
                                          refine fz_lmul kX11_garbled rfl ?_
                                          have b123 := fz_wl_b (x109 * (12 - (h 53 9)))
                                          refine fz_lstore (ls' := [(10, fz_l (fz_wl (x109 * (12 - (h 53 9))))), (12, fz_i x108), (9, fz_i x59), (7, fz_l x45), (5, fz_l x60), (4, fz_i y41), (0, fz_r 53), (1, fz_i d), (2, fz_i t), (3, fz_i pt)]) kX11_garbled rfl (by decide) rfl ?_
                                          refine fz_iincN (ls' := [(12, fz_i (x108 + 1)), (10, fz_l (fz_wl (x109 * (12 - (h 53 9))))), (9, fz_i x59), (7, fz_l x45), (5, fz_l x60), (4, fz_i y41), (0, fz_r 53), (1, fz_i d), (2, fz_i t), (3, fz_i pt)]) kX11_garbled rfl (by decide) rfl (by omega) rfl ?_
                                          refine fz_goto (tgt := 126) kX11_garbled rfl (by decide) ?_
                                          exact ih112 (x108 + 1) (fz_wl (x109 * (12 - (h 53 9)))) (by omega) (by omega) (by omega) (fl_w2_s hv117 (by omega) (by first | exact Or.inl ⟨by omega, rfl⟩ | exact Or.inr ⟨by omega, rfl⟩)) (by omega)
                                        · refine fz_aload_n kX11_garbled rfl rfl ?_
                                          refine fz_getV (v := h 53 9) kX11_garbled rfl rfl (hf42 53 9 rfl) ?_
                                          have b125 : 0 ≤ h 53 9 ∧ h 53 9 ≤ 12 := hI.1 53 _
                                          refine fz_i2l kX11_garbled rfl ?_
                                          refine fz_goto (tgt := 158) kX11_garbled rfl (by decide) ?_
                                          refine fz_lmul kX11_garbled rfl ?_
                                          have b126 := fz_wl_b (x109 * (h 53 9))
                                          refine fz_lstore (ls' := [(10, fz_l (fz_wl (x109 * (h 53 9)))), (12, fz_i x108), (9, fz_i x59), (7, fz_l x45), (5, fz_l x60), (4, fz_i y41), (0, fz_r 53), (1, fz_i d), (2, fz_i t), (3, fz_i pt)]) kX11_garbled rfl (by decide) rfl ?_
                                          refine fz_iincN (ls' := [(12, fz_i (x108 + 1)), (10, fz_l (fz_wl (x109 * (h 53 9)))), (9, fz_i x59), (7, fz_l x45), (5, fz_l x60), (4, fz_i y41), (0, fz_r 53), (1, fz_i d), (2, fz_i t), (3, fz_i pt)]) kX11_garbled rfl (by decide) rfl (by omega) rfl ?_
                                          refine fz_goto (tgt := 126) kX11_garbled rfl (by decide) ?_
                                          exact ih112 (x108 + 1) (fz_wl (x109 * (h 53 9))) (by omega) (by omega) (by omega) (fl_w2_s hv117 (by omega) (by first | exact Or.inl ⟨by omega, rfl⟩ | exact Or.inr ⟨by omega, rfl⟩)) (by omega)
                                  exact lp111 _ 0 x95 (by omega) (by omega) (by omega) (k106.symm) (Nat.lt_succ_self _)
                                · refine fz_lload kX11_garbled rfl rfl ?_
                                  refine fz_iload kX11_garbled rfl rfl ?_
                                  refine fz_iload kX11_garbled rfl rfl ?_
                                  refine fz_isubN kX11_garbled rfl (by omega) ?_
                                  refine fz_i2l kX11_garbled rfl ?_
                                  refine fz_lmul kX11_garbled rfl ?_
                                  have b129 := fz_wl_b (x95 * (y41 - x94))
                                  refine fz_iload kX11_garbled rfl rfl ?_
                                  refine fz_iconst ⟨by decide, by decide⟩ kX11_garbled rfl ?_
                                  refine fz_iaddN kX11_garbled rfl (by omega) ?_
                                  refine fz_i2l kX11_garbled rfl ?_
                                  refine fz_ldiv (by omega) kX11_garbled rfl ?_
                                  have b130 := fz_wl_b (Int.tdiv (fz_wl (x95 * (y41 - x94))) (x94 + 1))
                                  refine fz_lstore (ls' := [(10, fz_l (fz_wl (Int.tdiv (fz_wl (x95 * (y41 - x94))) (x94 + 1)))), (12, fz_i x94), (9, fz_i x59), (7, fz_l x45), (5, fz_l x60), (4, fz_i y41), (0, fz_r 53), (1, fz_i d), (2, fz_i t), (3, fz_i pt)]) kX11_garbled rfl (by decide) rfl ?_
                                  refine fz_iincN (ls' := [(12, fz_i (x94 + 1)), (10, fz_l (fz_wl (Int.tdiv (fz_wl (x95 * (y41 - x94))) (x94 + 1)))), (9, fz_i x59), (7, fz_l x45), (5, fz_l x60), (4, fz_i y41), (0, fz_r 53), (1, fz_i d), (2, fz_i t), (3, fz_i pt)]) kX11_garbled rfl (by decide) rfl (by omega) rfl ?_
                                  refine fz_goto (tgt := 93) kX11_garbled rfl (by decide) ?_
                                  exact ih98 (x94 + 1) (fz_wl (Int.tdiv (fz_wl (x95 * (y41 - x94))) (x94 + 1))) (by omega) (by omega) (by omega) (fl_w1_s hv103 (by omega)) (by omega)
                            exact lp97 _ 0 1 (by omega) (by omega) (by omega) (rfl) (Nat.lt_succ_self _)
                      exact lp62 _ 0 0 (by omega) (by omega) (by omega) (by omega) (rfl) (Nat.lt_succ_self _)
                    · refine fz_lload kX11_garbled rfl rfl ?_
                      refine fz_ldc2 (x := 12) kX11_garbled rfl rfl rfl ?_
                      refine fz_lmulN kX11_garbled rfl (by omega) ?_
                      refine fz_lstore (ls' := [(7, fz_l (x45 * 12)), (9, fz_i x44), (5, fz_l 0), (4, fz_i y41), (0, fz_r 53), (1, fz_i d), (2, fz_i t), (3, fz_i pt)]) kX11_garbled rfl (by decide) rfl ?_
                      refine fz_iincN (ls' := [(9, fz_i (x44 + 1)), (7, fz_l (x45 * 12)), (5, fz_l 0), (4, fz_i y41), (0, fz_r 53), (1, fz_i d), (2, fz_i t), (3, fz_i pt)]) kX11_garbled rfl (by decide) rfl (by omega) rfl ?_
                      refine fz_goto (tgt := 56) kX11_garbled rfl (by decide) ?_
                      exact ih48 (x44 + 1) (x45 * 12) (by omega) (by omega) (by omega) (fz_p12_n hv53 (by omega)) (fl_p12_sM hv54 (by omega) ⟨by omega, by omega⟩) (by omega)
                exact lp47 _ 0 1 (by omega) (by omega) (by omega) (fz_p12_0) (rfl) (Nat.lt_succ_self _)
              · refine fz_iload_n kX11_garbled rfl rfl ?_
                refine fz_i2l kX11_garbled rfl ?_
                exact fz_lret kX11_garbled rfl rfl (fun _ => ⟨hI35, hf42, hRM37, _, rfl, (by omega), (by first | exact Or.inl ⟨(by unfold fl_oG; omega), rfl⟩ | exact Or.inr ⟨(by unfold fl_oG; omega), _, _, f39, Or.inr (Or.inl ⟨(by unfold fl_oG; omega), by omega, rfl⟩)⟩ | exact Or.inr ⟨(by unfold fl_oG; omega), _, _, f39, Or.inr (Or.inr ⟨(by unfold fl_oG; omega), by omega, fl_ga_M ⟨by omega, by omega⟩ ⟨by omega, by omega⟩ lost lost (fl_gr_en lost (by omega)) (Or.inl ⟨by omega, rfl⟩) rfl⟩)⟩ | exact Or.inr ⟨(by unfold fl_oG; omega), _, _, f39, Or.inr (Or.inr ⟨(by unfold fl_oG; omega), by omega, fl_ga_M ⟨by omega, by omega⟩ ⟨by omega, by omega⟩ lost lost (fl_gr_en lost (by omega)) (Or.inr ⟨by omega, rfl⟩) rfl⟩)⟩)⟩)
            · exfalso; omega
          · refine fz_if_ne (tgt := 29) kX11_garbled rfl (by decide) (fun c139 => ?_) (fun c139 => ?_)
            · exfalso; omega
            · refine fz_ldc2 (x := (-9223372036854775808)) kX11_garbled rfl rfl rfl ?_
              exact fz_lret kX11_garbled rfl rfl (fun _ => ⟨hI, hf, hRM, _, rfl, (by omega), (by first | exact Or.inl ⟨(by unfold fl_oG; omega), rfl⟩ | exact Or.inr ⟨(by unfold fl_oG; omega), _, _, lost, Or.inr (Or.inl ⟨(by unfold fl_oG; omega), by omega, rfl⟩)⟩ | exact Or.inr ⟨(by unfold fl_oG; omega), _, _, lost, Or.inr (Or.inr ⟨(by unfold fl_oG; omega), by omega, fl_ga_M ⟨by omega, by omega⟩ ⟨by omega, by omega⟩ lost lost (fl_gr_en lost (by omega)) (Or.inl ⟨by omega, rfl⟩) rfl⟩)⟩ | exact Or.inr ⟨(by unfold fl_oG; omega), _, _, lost, Or.inr (Or.inr ⟨(by unfold fl_oG; omega), by omega, fl_ga_M ⟨by omega, by omega⟩ ⟨by omega, by omega⟩ lost lost (fl_gr_en lost (by omega)) (Or.inr ⟨by omega, rfl⟩) rfl⟩)⟩)⟩)
      · refine fz_if_eq (tgt := 25) kX11_garbled rfl (by decide) (fun c141 => ?_) (fun c141 => ?_)
        · refine fz_ldc2 (x := (-9223372036854775808)) kX11_garbled rfl rfl rfl ?_
          exact fz_lret kX11_garbled rfl rfl (fun _ => ⟨hI, hf, hRM, _, rfl, (by omega), (by first | exact Or.inl ⟨(by unfold fl_oG; omega), rfl⟩ | exact Or.inr ⟨(by unfold fl_oG; omega), _, _, lost, Or.inr (Or.inl ⟨(by unfold fl_oG; omega), by omega, rfl⟩)⟩ | exact Or.inr ⟨(by unfold fl_oG; omega), _, _, lost, Or.inr (Or.inr ⟨(by unfold fl_oG; omega), by omega, fl_ga_M ⟨by omega, by omega⟩ ⟨by omega, by omega⟩ lost lost (fl_gr_en lost (by omega)) (Or.inl ⟨by omega, rfl⟩) rfl⟩)⟩ | exact Or.inr ⟨(by unfold fl_oG; omega), _, _, lost, Or.inr (Or.inr ⟨(by unfold fl_oG; omega), by omega, fl_ga_M ⟨by omega, by omega⟩ ⟨by omega, by omega⟩ lost lost (fl_gr_en lost (by omega)) (Or.inr ⟨by omega, rfl⟩) rfl⟩)⟩)⟩)
        · exfalso; omega
  · refine fz_if_eq (tgt := 25) kX11_garbled rfl (by decide) (fun c143 => ?_) (fun c143 => ?_)
    · refine fz_ldc2 (x := (-9223372036854775808)) kX11_garbled rfl rfl rfl ?_
      exact fz_lret kX11_garbled rfl rfl (fun _ => ⟨hI, hf, hRM, _, rfl, (by omega), (by first | exact Or.inl ⟨(by unfold fl_oG; omega), rfl⟩ | exact Or.inr ⟨(by unfold fl_oG; omega), _, _, lost, Or.inr (Or.inl ⟨(by unfold fl_oG; omega), by omega, rfl⟩)⟩ | exact Or.inr ⟨(by unfold fl_oG; omega), _, _, lost, Or.inr (Or.inr ⟨(by unfold fl_oG; omega), by omega, fl_ga_M ⟨by omega, by omega⟩ ⟨by omega, by omega⟩ lost lost (fl_gr_en lost (by omega)) (Or.inl ⟨by omega, rfl⟩) rfl⟩)⟩ | exact Or.inr ⟨(by unfold fl_oG; omega), _, _, lost, Or.inr (Or.inr ⟨(by unfold fl_oG; omega), by omega, fl_ga_M ⟨by omega, by omega⟩ ⟨by omega, by omega⟩ lost lost (fl_gr_en lost (by omega)) (Or.inr ⟨by omega, rfl⟩) rfl⟩)⟩)⟩)
    · exfalso; omega
