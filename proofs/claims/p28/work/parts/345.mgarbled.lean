/-! ===== what the methods keep ===== -/
abbrev qX11_garbled (h : fz_H) (d t pt : Int) : fz_H → Option fz_V → Prop := fun h' r0 => fz_Iv h' ∧ fz_fr [(86, 99999), (87, 99999)] h h' ∧ fz_RM h' ∧ ∃ r : Int, r0 = some (fz_l r) ∧ ((-9223372036854775808) ≤ r ∧ r ≤ 9223372036854775807)
set_option maxHeartbeats 1000000 in
set_option maxRecDepth 100000 in
theorem sX11_garbled (h : fz_H) (hI : fz_Iv h) (d t pt : Int) (hRM : fz_RM h) : fz_R 3 mX11_garbled 0 [(0, fz_r 53), (1, fz_i d), (2, fz_i t), (3, fz_i pt)] [] h (qX11_garbled h d t pt) := by
  refine fz_knowl (fun hk => ?_)
  have hr_d : -2147483648 ≤ d ∧ d < 2147483648 := hk _ (List.Mem.tail _ (List.Mem.head _))
  have hr_t : -2147483648 ≤ t ∧ t < 2147483648 := hk _ (List.Mem.tail _ (List.Mem.tail _ (List.Mem.head _)))
  have hr_pt : -2147483648 ≤ pt ∧ pt < 2147483648 := hk _ (List.Mem.tail _ (List.Mem.tail _ (List.Mem.tail _ (List.Mem.head _))))
  clear hk
  have hf : fz_fr [(86, 99999), (87, 99999)] h h := fz_fr_rf
  refine fz_aload_n kX11_garbled rfl rfl ?_
  refine fz_iload_n kX11_garbled rfl rfl ?_
  have b1 : 0 ≤ h 53 10 ∧ h 53 10 ≤ 11 := hI.1 53 _
  refine fz_callV (d' := 1) (M' := mX11_isDeed) (As := [fz_i d]) (st := []) kX11_garbled rfl rfl vX11_isDeed rfl rfl rfl rfl (Nat.le_of_ble_eq_true rfl) (Nat.le_of_ble_eq_true rfl) (by decide) (sX11_isDeed h hI d ) (fun H2 r3 q4 o5 => ?_)
  obtain ⟨e6, y7, rfl, p8⟩ := q4
  subst H2
  clear o5
  rcases p8 with ⟨rfl, c9⟩ | ⟨rfl, c9⟩
  · refine fz_if_eq (tgt := 25) kX11_garbled rfl (by decide) (fun c10 => ?_) (fun c10 => ?_)
    · exfalso; omega
    · refine fz_aload_n kX11_garbled rfl rfl ?_
      refine fz_iload_n kX11_garbled rfl rfl ?_
      have b11 : 0 ≤ h 53 0 ∧ h 53 0 ≤ 8 := hI.1 53 _
      refine fz_callV (d' := 1) (M' := mX11_isTown) (As := [fz_i t]) (st := []) kX11_garbled rfl rfl vX11_isTown rfl rfl rfl rfl (Nat.le_of_ble_eq_true rfl) (Nat.le_of_ble_eq_true rfl) (by decide) (sX11_isTown h hI t ) (fun H12 r13 q14 o15 => ?_)
      obtain ⟨e16, y17, rfl, p18⟩ := q14
      subst H12
      clear o15
      rcases p18 with ⟨rfl, c19⟩ | ⟨rfl, c19⟩
      · refine fz_if_eq (tgt := 25) kX11_garbled rfl (by decide) (fun c20 => ?_) (fun c20 => ?_)
        · exfalso; omega
        · refine fz_iload_n kX11_garbled rfl rfl ?_
          refine fz_iconst ⟨by decide, by decide⟩ kX11_garbled rfl ?_
          refine fz_iconst ⟨by decide, by decide⟩ kX11_garbled rfl ?_
          refine fz_callS (d' := 0) (M' := mX11_within) (As := [fz_i pt, fz_i 0, fz_i 1]) (st := []) kX11_garbled rfl rfl vX11_within rfl rfl (Nat.le_of_ble_eq_true rfl) (Nat.le_of_ble_eq_true rfl) (by decide) (sX11_within h hI pt 0 1 ) (fun H21 r22 q23 o24 => ?_)
          obtain ⟨e25, y26, rfl, p27⟩ := q23
          subst H21
          clear o24
          rcases p27 with ⟨rfl, c28⟩ | ⟨rfl, c28⟩
          · refine fz_if_ne (tgt := 29) kX11_garbled rfl (by decide) (fun c29 => ?_) (fun c29 => ?_)
            · refine fz_aload_n kX11_garbled rfl rfl ?_
              refine fz_iload_n kX11_garbled rfl rfl ?_
              refine fz_iload_n kX11_garbled rfl rfl ?_
              refine fz_callV (d' := 2) (M' := mX11_roadsTo) (As := [fz_i d, fz_i t]) (st := []) kX11_garbled rfl rfl vX11_roadsTo rfl rfl rfl rfl (Nat.le_of_ble_eq_true rfl) (Nat.le_of_ble_eq_true rfl) (by decide) (sX11_roadsTo_k h hI d t hRM (by omega) (by omega)) (fun H30 r31 q32 o33 => ?_)
              obtain ⟨hI34, hf35, hRM36, y40, rfl, f37, f38, f39⟩ := q32
              clear o33
              have hf41 := fz_fr_tr hf hf35 (show fz_su [(86, 99999), (87, 99999)] [(86, 99999), (87, 99999)] = true from rfl)
              refine fz_istore (ls' := [(4, fz_i y40), (0, fz_r 53), (1, fz_i d), (2, fz_i t), (3, fz_i pt)]) kX11_garbled rfl (by decide) rfl ?_
              refine fz_iload kX11_garbled rfl rfl ?_
              refine fz_bipush ⟨by decide, by decide⟩ kX11_garbled rfl ?_
              refine fz_icmp_ne (tgt := 47) kX11_garbled rfl (by decide) (fun c42 => ?_) (fun c42 => ?_)
              · refine fz_lconst (x := 0) ⟨by decide, by decide⟩ rfl kX11_garbled rfl ?_
                refine fz_lstore (ls' := [(5, fz_l 0), (4, fz_i y40), (0, fz_r 53), (1, fz_i d), (2, fz_i t), (3, fz_i pt)]) kX11_garbled rfl (by decide) rfl ?_
                refine fz_lconst (x := 1) ⟨by decide, by decide⟩ rfl kX11_garbled rfl ?_
                refine fz_lstore (ls' := [(7, fz_l 1), (5, fz_l 0), (4, fz_i y40), (0, fz_r 53), (1, fz_i d), (2, fz_i t), (3, fz_i pt)]) kX11_garbled rfl (by decide) rfl ?_
                refine fz_iconst ⟨by decide, by decide⟩ kX11_garbled rfl ?_
                refine fz_istore (ls' := [(9, fz_i 0), (7, fz_l 1), (5, fz_l 0), (4, fz_i y40), (0, fz_r 53), (1, fz_i d), (2, fz_i t), (3, fz_i pt)]) kX11_garbled rfl (by decide) rfl ?_
                have lp46 : ∀ (n45 : Nat) (x43 : Int) (x44 : Int), (0 ≤ x43 ∧ x43 ≤ 7) → (1 ≤ x44 ∧ x44 ≤ 35831808) → (((x43 = 0 ∧ x44 = 1) ∨ (x43 = 1 ∧ x44 = 12) ∨ (x43 = 2 ∧ x44 = 144) ∨ (x43 = 3 ∧ x44 = 1728) ∨ (x43 = 4 ∧ x44 = 20736) ∨ (x43 = 5 ∧ x44 = 248832) ∨ (x43 = 6 ∧ x44 = 2985984) ∨ (x43 = 7 ∧ x44 = 35831808))) → (y40 - x43).toNat < n45 → fz_R 3 mX11_garbled 56 [(9, fz_i x43), (7, fz_l x44), (5, fz_l 0), (4, fz_i y40), (0, fz_r 53), (1, fz_i d), (2, fz_i t), (3, fz_i pt)] [] H30 (qX11_garbled h d t pt) := by
                  intro n45
                  induction n45 with
                  | zero => intro x43 x44 hv49 hv50 hv51 hm48; exact absurd hm48 (by omega)
                  | succ n45 ih47 =>
                    intro x43 x44 hv49 hv50 hv51 hm48
                    refine fz_iload kX11_garbled rfl rfl ?_
                    refine fz_iload kX11_garbled rfl rfl ?_
                    refine fz_icmp_ge (tgt := 77) kX11_garbled rfl (by decide) (fun c52 => ?_) (fun c52 => ?_)
                    · clear hv51
                      refine fz_iconst ⟨by decide, by decide⟩ kX11_garbled rfl ?_
                      refine fz_istore (ls' := [(9, fz_i 0), (7, fz_l x44), (5, fz_l 0), (4, fz_i y40), (0, fz_r 53), (1, fz_i d), (2, fz_i t), (3, fz_i pt)]) kX11_garbled rfl (by decide) rfl ?_
                      have lp57 : ∀ (n56 : Nat) (x54 : Int) (x55 : Int), (0 ≤ x54 ∧ x54 ≤ 12) → ((-9223372036854775808) ≤ x55 ∧ x55 ≤ 9223372036854775807) → (y40 + 1 - x54).toNat < n56 → fz_R 3 mX11_garbled 80 [(9, fz_i x54), (7, fz_l x44), (5, fz_l x55), (4, fz_i y40), (0, fz_r 53), (1, fz_i d), (2, fz_i t), (3, fz_i pt)] [] H30 (qX11_garbled h d t pt) := by
                        intro n56
                        induction n56 with
                        | zero => intro x54 x55 hv60 hv61 hm59; exact absurd hm59 (by omega)
                        | succ n56 ih58 =>
                          intro x54 x55 hv60 hv61 hm59
                          refine fz_iload kX11_garbled rfl rfl ?_
                          refine fz_iload kX11_garbled rfl rfl ?_
                          refine fz_icmp_gt (tgt := 180) kX11_garbled rfl (by decide) (fun c62 => ?_) (fun c62 => ?_)
                          · refine fz_lload kX11_garbled rfl rfl ?_
                            refine fz_lstore (ls' := [(9, fz_l x55), (7, fz_l x44), (5, fz_l x55), (4, fz_i y40), (0, fz_r 53), (1, fz_i d), (2, fz_i t), (3, fz_i pt)]) kX11_garbled rfl (by decide) rfl ?_
                            refine fz_lload kX11_garbled rfl rfl ?_
                            refine fz_lstore (ls' := [(11, fz_l x44), (9, fz_l x55), (7, fz_l x44), (5, fz_l x55), (4, fz_i y40), (0, fz_r 53), (1, fz_i d), (2, fz_i t), (3, fz_i pt)]) kX11_garbled rfl (by decide) rfl ?_
                            have lp66 : ∀ (n65 : Nat) (x63 : Int) (x64 : Int), ((-9223372036854775808) ≤ x63 ∧ x63 ≤ 9223372036854775807) → ((-9223372036854775808) ≤ x64 ∧ x64 ≤ 9223372036854775807) → (x64 ≠ 0 ∨ x63 ≠ 0) → (max x63 (-x63)).toNat < n65 → fz_R 3 mX11_garbled 188 [(11, fz_l x63), (9, fz_l x64), (7, fz_l x44), (5, fz_l x55), (4, fz_i y40), (0, fz_r 53), (1, fz_i d), (2, fz_i t), (3, fz_i pt)] [] H30 (qX11_garbled h d t pt) := by
                              intro n65
                              induction n65 with
                              | zero => intro x63 x64 hv69 hv70 hv71 hm68; exact absurd hm68 (by omega)
                              | succ n65 ih67 =>
                                intro x63 x64 hv69 hv70 hv71 hm68
                                refine fz_lload kX11_garbled rfl rfl ?_
                                refine fz_lconst (x := 0) ⟨by decide, by decide⟩ rfl kX11_garbled rfl ?_
                                refine fz_lcmp kX11_garbled rfl ?_
                                have b72 := fz_cmp_c x63 0
                                refine fz_if_eq (tgt := 213) kX11_garbled rfl (by decide) (fun c73 => ?_) (fun c73 => ?_)
                                · refine fz_iload_n kX11_garbled rfl rfl ?_
                                  refine fz_if_ne (tgt := 225) kX11_garbled rfl (by decide) (fun c74 => ?_) (fun c74 => ?_)
                                  · refine fz_lload kX11_garbled rfl rfl ?_
                                    refine fz_lload kX11_garbled rfl rfl ?_
                                    refine fz_ldiv (by omega) kX11_garbled rfl ?_
                                    refine fz_nmx (fun z75 e76 => ?_)
                                    exact fz_lret kX11_garbled rfl rfl (fun _ => ⟨hI34, hf41, hRM36, _, rfl, (by omega)⟩)
                                  · refine fz_lload kX11_garbled rfl rfl ?_
                                    refine fz_lload kX11_garbled rfl rfl ?_
                                    refine fz_ldiv (by omega) kX11_garbled rfl ?_
                                    refine fz_nmx (fun z77 e78 => ?_)
                                    refine fz_goto (tgt := 230) kX11_garbled rfl (by decide) ?_
                                    exact fz_lret kX11_garbled rfl rfl (fun _ => ⟨hI34, hf41, hRM36, _, rfl, (by omega)⟩)
                                · refine fz_lload kX11_garbled rfl rfl ?_
                                  refine fz_lload kX11_garbled rfl rfl ?_
                                  refine fz_lremT (by omega) kX11_garbled rfl (fun z79 e80 e81 => ?_)
                                  refine fz_lstore (ls' := [(13, fz_l z79), (11, fz_l x63), (9, fz_l x64), (7, fz_l x44), (5, fz_l x55), (4, fz_i y40), (0, fz_r 53), (1, fz_i d), (2, fz_i t), (3, fz_i pt)]) kX11_garbled rfl (by decide) rfl ?_
                                  refine fz_lload kX11_garbled rfl rfl ?_
                                  refine fz_lstore (ls' := [(9, fz_l x63), (13, fz_l z79), (11, fz_l x63), (7, fz_l x44), (5, fz_l x55), (4, fz_i y40), (0, fz_r 53), (1, fz_i d), (2, fz_i t), (3, fz_i pt)]) kX11_garbled rfl (by decide) rfl ?_
                                  refine fz_lload kX11_garbled rfl rfl ?_
                                  refine fz_lstore (ls' := [(11, fz_l z79), (9, fz_l x63), (13, fz_l z79), (7, fz_l x44), (5, fz_l x55), (4, fz_i y40), (0, fz_r 53), (1, fz_i d), (2, fz_i t), (3, fz_i pt)]) kX11_garbled rfl (by decide) rfl ?_
                                  refine fz_goto (tgt := 188) kX11_garbled rfl (by decide) ?_
                                  refine fz_sub (fz_pk_sub (ls' := [(11, fz_l z79), (9, fz_l x63), (7, fz_l x44), (5, fz_l x55), (4, fz_i y40), (0, fz_r 53), (1, fz_i d), (2, fz_i t), (3, fz_i pt)]) [0, 1, 3, 4, 5, 6, 7, 8, 9] rfl) ?_
                                  exact ih67 z79 x63 (by omega) (by omega) (by omega) (by omega)
                            exact lp66 _ x44 x55 (by omega) (by omega) (by omega) (Nat.lt_succ_self _)
                          · refine fz_lconst (x := 1) ⟨by decide, by decide⟩ rfl kX11_garbled rfl ?_
                            refine fz_lstore (ls' := [(10, fz_l 1), (9, fz_i x54), (7, fz_l x44), (5, fz_l x55), (4, fz_i y40), (0, fz_r 53), (1, fz_i d), (2, fz_i t), (3, fz_i pt)]) kX11_garbled rfl (by decide) rfl ?_
                            refine fz_iconst ⟨by decide, by decide⟩ kX11_garbled rfl ?_
                            refine fz_istore (ls' := [(12, fz_i 0), (10, fz_l 1), (9, fz_i x54), (7, fz_l x44), (5, fz_l x55), (4, fz_i y40), (0, fz_r 53), (1, fz_i d), (2, fz_i t), (3, fz_i pt)]) kX11_garbled rfl (by decide) rfl ?_
                            have lp85 : ∀ (n84 : Nat) (x82 : Int) (x83 : Int), (0 ≤ x82 ∧ x82 ≤ 12) → ((-9223372036854775808) ≤ x83 ∧ x83 ≤ 9223372036854775807) → (x82 ≤ x54) → (x54 - x82).toNat < n84 → fz_R 3 mX11_garbled 93 [(12, fz_i x82), (10, fz_l x83), (9, fz_i x54), (7, fz_l x44), (5, fz_l x55), (4, fz_i y40), (0, fz_r 53), (1, fz_i d), (2, fz_i t), (3, fz_i pt)] [] H30 (qX11_garbled h d t pt) := by
                              intro n84
                              induction n84 with
                              | zero => intro x82 x83 hv88 hv89 hv90 hm87; exact absurd hm87 (by omega)
                              | succ n84 ih86 =>
                                intro x82 x83 hv88 hv89 hv90 hm87
                                refine fz_iload kX11_garbled rfl rfl ?_
                                refine fz_iload kX11_garbled rfl rfl ?_
                                refine fz_icmp_ge (tgt := 123) kX11_garbled rfl (by decide) (fun c91 => ?_) (fun c91 => ?_)
                                · refine fz_iconst ⟨by decide, by decide⟩ kX11_garbled rfl ?_
                                  refine fz_istore (ls' := [(12, fz_i 0), (10, fz_l x83), (9, fz_i x54), (7, fz_l x44), (5, fz_l x55), (4, fz_i y40), (0, fz_r 53), (1, fz_i d), (2, fz_i t), (3, fz_i pt)]) kX11_garbled rfl (by decide) rfl ?_
                                  have lp95 : ∀ (n94 : Nat) (x92 : Int) (x93 : Int), (0 ≤ x92 ∧ x92 ≤ 7) → ((-9223372036854775808) ≤ x93 ∧ x93 ≤ 9223372036854775807) → (y40 - x92).toNat < n94 → fz_R 3 mX11_garbled 126 [(12, fz_i x92), (10, fz_l x93), (9, fz_i x54), (7, fz_l x44), (5, fz_l x55), (4, fz_i y40), (0, fz_r 53), (1, fz_i d), (2, fz_i t), (3, fz_i pt)] [] H30 (qX11_garbled h d t pt) := by
                                    intro n94
                                    induction n94 with
                                    | zero => intro x92 x93 hv98 hv99 hm97; exact absurd hm97 (by omega)
                                    | succ n94 ih96 =>
                                      intro x92 x93 hv98 hv99 hm97
                                      refine fz_iload kX11_garbled rfl rfl ?_
                                      refine fz_iload kX11_garbled rfl rfl ?_
                                      refine fz_icmp_ge (tgt := 167) kX11_garbled rfl (by decide) (fun c100 => ?_) (fun c100 => ?_)
                                      · refine fz_lload kX11_garbled rfl rfl ?_
                                        refine fz_lload kX11_garbled rfl rfl ?_
                                        refine fz_ladd kX11_garbled rfl ?_
                                        refine fz_nmx (fun z101 e102 => ?_)
                                        refine fz_lstore (ls' := [(5, fz_l z101), (12, fz_i x92), (10, fz_l x93), (9, fz_i x54), (7, fz_l x44), (4, fz_i y40), (0, fz_r 53), (1, fz_i d), (2, fz_i t), (3, fz_i pt)]) kX11_garbled rfl (by decide) rfl ?_
                                        refine fz_iincN (ls' := [(9, fz_i (x54 + 5)), (5, fz_l z101), (12, fz_i x92), (10, fz_l x93), (7, fz_l x44), (4, fz_i y40), (0, fz_r 53), (1, fz_i d), (2, fz_i t), (3, fz_i pt)]) kX11_garbled rfl (by decide) rfl (by omega) rfl ?_
                                        refine fz_goto (tgt := 80) kX11_garbled rfl (by decide) ?_
                                        refine fz_sub (fz_pk_sub (ls' := [(9, fz_i (x54 + 5)), (7, fz_l x44), (5, fz_l z101), (4, fz_i y40), (0, fz_r 53), (1, fz_i d), (2, fz_i t), (3, fz_i pt)]) [0, 4, 1, 5, 6, 7, 8, 9] rfl) ?_
                                        exact ih58 (x54 + 5) z101 (by omega) (by omega) (by omega)
                                      · refine fz_lload kX11_garbled rfl rfl ?_
                                        refine fz_iload kX11_garbled rfl rfl ?_
                                        refine fz_iload kX11_garbled rfl rfl ?_
                                        refine fz_icmp_ge (tgt := 150) kX11_garbled rfl (by decide) (fun c103 => ?_) (fun c103 => ?_)
                                        · refine fz_bipush ⟨by decide, by decide⟩ kX11_garbled rfl ?_
                                          refine fz_aload_n kX11_garbled rfl rfl ?_
                                          refine fz_getV (v := h 53 9) kX11_garbled rfl rfl (hf41 53 9 rfl) ?_
                                          have b104 : 0 ≤ h 53 9 ∧ h 53 9 ≤ 12 := hI.1 53 _
                                          refine fz_isubN kX11_garbled rfl (by omega) ?_
                                          refine fz_i2l kX11_garbled rfl ?_
                                          refine fz_lmul kX11_garbled rfl ?_
                                          refine fz_nmx (fun z105 e106 => ?_)
                                          refine fz_lstore (ls' := [(10, fz_l z105), (12, fz_i x92), (9, fz_i x54), (7, fz_l x44), (5, fz_l x55), (4, fz_i y40), (0, fz_r 53), (1, fz_i d), (2, fz_i t), (3, fz_i pt)]) kX11_garbled rfl (by decide) rfl ?_
                                          refine fz_iincN (ls' := [(12, fz_i (x92 + 1)), (10, fz_l z105), (9, fz_i x54), (7, fz_l x44), (5, fz_l x55), (4, fz_i y40), (0, fz_r 53), (1, fz_i d), (2, fz_i t), (3, fz_i pt)]) kX11_garbled rfl (by decide) rfl (by omega) rfl ?_
                                          refine fz_goto (tgt := 126) kX11_garbled rfl (by decide) ?_
                                          exact ih96 (x92 + 1) z105 (by omega) (by omega) (by omega)
                                        · refine fz_aload_n kX11_garbled rfl rfl ?_
                                          refine fz_getV (v := h 53 9) kX11_garbled rfl rfl (hf41 53 9 rfl) ?_
                                          have b107 : 0 ≤ h 53 9 ∧ h 53 9 ≤ 12 := hI.1 53 _
                                          refine fz_i2l kX11_garbled rfl ?_
                                          refine fz_goto (tgt := 158) kX11_garbled rfl (by decide) ?_
                                          refine fz_lmul kX11_garbled rfl ?_
                                          refine fz_nmx (fun z108 e109 => ?_)
                                          refine fz_lstore (ls' := [(10, fz_l z108), (12, fz_i x92), (9, fz_i x54), (7, fz_l x44), (5, fz_l x55), (4, fz_i y40), (0, fz_r 53), (1, fz_i d), (2, fz_i t), (3, fz_i pt)]) kX11_garbled rfl (by decide) rfl ?_
                                          refine fz_iincN (ls' := [(12, fz_i (x92 + 1)), (10, fz_l z108), (9, fz_i x54), (7, fz_l x44), (5, fz_l x55), (4, fz_i y40), (0, fz_r 53), (1, fz_i d), (2, fz_i t), (3, fz_i pt)]) kX11_garbled rfl (by decide) rfl (by omega) rfl ?_
                                          refine fz_goto (tgt := 126) kX11_garbled rfl (by decide) ?_
                                          exact ih96 (x92 + 1) z108 (by omega) (by omega) (by omega)
                                  exact lp95 _ 0 x83 (by omega) (by omega) (Nat.lt_succ_self _)
                                · refine fz_lload kX11_garbled rfl rfl ?_
                                  refine fz_iload kX11_garbled rfl rfl ?_
                                  refine fz_iload kX11_garbled rfl rfl ?_
                                  refine fz_isubN kX11_garbled rfl (by omega) ?_
                                  refine fz_i2l kX11_garbled rfl ?_
                                  refine fz_lmul kX11_garbled rfl ?_
                                  refine fz_nmx (fun z110 e111 => ?_)
                                  refine fz_iload kX11_garbled rfl rfl ?_
                                  refine fz_iconst ⟨by decide, by decide⟩ kX11_garbled rfl ?_
                                  refine fz_iaddN kX11_garbled rfl (by omega) ?_
                                  refine fz_i2l kX11_garbled rfl ?_
                                  refine fz_ldiv (by omega) kX11_garbled rfl ?_
                                  refine fz_nmx (fun z112 e113 => ?_)
                                  refine fz_lstore (ls' := [(10, fz_l z112), (12, fz_i x82), (9, fz_i x54), (7, fz_l x44), (5, fz_l x55), (4, fz_i y40), (0, fz_r 53), (1, fz_i d), (2, fz_i t), (3, fz_i pt)]) kX11_garbled rfl (by decide) rfl ?_
                                  refine fz_iincN (ls' := [(12, fz_i (x82 + 1)), (10, fz_l z112), (9, fz_i x54), (7, fz_l x44), (5, fz_l x55), (4, fz_i y40), (0, fz_r 53), (1, fz_i d), (2, fz_i t), (3, fz_i pt)]) kX11_garbled rfl (by decide) rfl (by omega) rfl ?_
                                  refine fz_goto (tgt := 93) kX11_garbled rfl (by decide) ?_
                                  exact ih86 (x82 + 1) z112 (by omega) (by omega) (by omega) (by omega)
                            exact lp85 _ 0 1 (by omega) (by omega) (by omega) (Nat.lt_succ_self _)
                      exact lp57 _ 0 0 (by omega) (by omega) (Nat.lt_succ_self _)
                    · refine fz_lload kX11_garbled rfl rfl ?_
                      refine fz_ldc2 (x := 12) kX11_garbled rfl rfl rfl ?_
                      refine fz_lmulN kX11_garbled rfl (by omega) ?_
                      refine fz_lstore (ls' := [(7, fz_l (x44 * 12)), (9, fz_i x43), (5, fz_l 0), (4, fz_i y40), (0, fz_r 53), (1, fz_i d), (2, fz_i t), (3, fz_i pt)]) kX11_garbled rfl (by decide) rfl ?_
                      refine fz_iincN (ls' := [(9, fz_i (x43 + 1)), (7, fz_l (x44 * 12)), (5, fz_l 0), (4, fz_i y40), (0, fz_r 53), (1, fz_i d), (2, fz_i t), (3, fz_i pt)]) kX11_garbled rfl (by decide) rfl (by omega) rfl ?_
                      refine fz_goto (tgt := 56) kX11_garbled rfl (by decide) ?_
                      exact ih47 (x43 + 1) (x44 * 12) (by omega) (by omega) (fz_p12_n hv51 (by omega)) (by omega)
                exact lp46 _ 0 1 (by omega) (by omega) (fz_p12_0) (Nat.lt_succ_self _)
              · refine fz_iload_n kX11_garbled rfl rfl ?_
                refine fz_i2l kX11_garbled rfl ?_
                exact fz_lret kX11_garbled rfl rfl (fun _ => ⟨hI34, hf41, hRM36, _, rfl, (by omega)⟩)
            · exfalso; omega
          · refine fz_if_ne (tgt := 29) kX11_garbled rfl (by decide) (fun c116 => ?_) (fun c116 => ?_)
            · exfalso; omega
            · refine fz_ldc2 (x := (-9223372036854775808)) kX11_garbled rfl rfl rfl ?_
              exact fz_lret kX11_garbled rfl rfl (fun _ => ⟨hI, hf, hRM, _, rfl, (by omega)⟩)
      · refine fz_if_eq (tgt := 25) kX11_garbled rfl (by decide) (fun c117 => ?_) (fun c117 => ?_)
        · refine fz_ldc2 (x := (-9223372036854775808)) kX11_garbled rfl rfl rfl ?_
          exact fz_lret kX11_garbled rfl rfl (fun _ => ⟨hI, hf, hRM, _, rfl, (by omega)⟩)
        · exfalso; omega
  · refine fz_if_eq (tgt := 25) kX11_garbled rfl (by decide) (fun c118 => ?_) (fun c118 => ?_)
    · refine fz_ldc2 (x := (-9223372036854775808)) kX11_garbled rfl rfl rfl ?_
      exact fz_lret kX11_garbled rfl rfl (fun _ => ⟨hI, hf, hRM, _, rfl, (by omega)⟩)
    · exfalso; omega
