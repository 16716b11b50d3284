/-! ===== what the methods keep ===== -/
abbrev qX5_readO_0 (h : fz_H) : fz_H → Option fz_V → Prop := fun h' r0 => fz_Iv h' ∧ fz_fr [(20, 3), (20, 4), (21, 4), (22, 99999), (23, 99999)] h h' ∧ r0 = none ∧ (h 20 4 = 0 ∨ (h' 20 4 = 1 ∧ h' 20 3 = h 20 3)) ∧ (h' 20 4 = 1 ∨ (h' 21 4 - h 21 4 ≤ h' 20 3 - h 20 3 ∧ h 20 3 + 1 ≤ h' 20 3)) ∧ fl_rdC h h' (fl_pO (fl_gC h) 6 (h 20 3))
set_option maxHeartbeats 1000000 in
set_option maxRecDepth 100000 in
theorem sX5_readO_0 (h : fz_H) (hI : fz_Iv h) (hp0 : h 20 4 = 1 ∨ h 21 4 ≤ h 20 3) : fz_R 38 mX5_readO 0 [(0, fz_r 20), (1, fz_i 0)] [] h (qX5_readO_0 h) := by
  have hf : fz_fr [(20, 3), (20, 4), (21, 4), (22, 99999), (23, 99999)] h h := fz_fr_rf
  have b1 : 0 ≤ h 20 4 ∧ h 20 4 ≤ 1 := hI.1 20 _
  have b2 : 0 ≤ h 21 4 ∧ h 21 4 ≤ 128 := hI.1 21 _
  have b3 : 0 ≤ h 20 3 ∧ h 20 3 ≤ 120 := hI.1 20 _
  refine fz_aload_n kX5_readO rfl rfl ?_
  have b4 : 0 ≤ h 20 2 ∧ h 20 2 ≤ 120 := hI.1 20 _
  refine fz_callV (d' := 0) (M' := mX5_letterHere) (As := []) (st := []) kX5_readO rfl rfl vX5_letterHere rfl rfl rfl rfl (Nat.le_of_ble_eq_true rfl) (Nat.le_of_ble_eq_true rfl) (by decide) (sX5_letterHere h hI  ) (fun H5 r6 q7 o8 => ?_)
  obtain ⟨e9, y13, rfl, f10, f11, f12⟩ := q7
  subst H5
  clear o8
  refine fz_istore_n (ls' := [(2, fz_i y13), (0, fz_r 20), (1, fz_i 0)]) kX5_readO rfl (by decide) rfl ?_
  have k14 : 0 ≤ fl_lh h → h 20 4 = 0 := fl_lh_0
  have k15 : 0 ≤ fl_lh h → h 20 3 < h 20 2 := fl_lh_lt
  have k16 : 0 ≤ h 20 4 ∧ h 20 4 ≤ 1 := hI.1 20 _
  refine fz_iload_n kX5_readO rfl rfl ?_
  refine fz_callS (d' := 0) (M' := mX5_nameOf) (As := [fz_i y13]) (st := []) kX5_readO rfl rfl vX5_nameOf rfl rfl (Nat.le_of_ble_eq_true rfl) (Nat.le_of_ble_eq_true rfl) (by decide) (sX5_nameOf h hI y13 ) (fun H17 r18 q19 o20 => ?_)
  obtain ⟨e21, y25, rfl, f22, f23, f24⟩ := q19
  subst H17
  clear o20
  refine fz_istore_n (ls' := [(3, fz_i y25), (2, fz_i y13), (0, fz_r 20), (1, fz_i 0)]) kX5_readO rfl (by decide) rfl ?_
  refine fz_iload_n kX5_readO rfl rfl ?_
  refine fz_bipush ⟨by decide, by decide⟩ kX5_readO rfl ?_
  refine fz_icmp_lt (tgt := 29) kX5_readO rfl (by decide) (fun c26 => ?_) (fun c26 => ?_)
  · refine fz_iload_n kX5_readO rfl rfl ?_
    refine fz_if_lt (tgt := 57) kX5_readO rfl (by decide) (fun c27 => ?_) (fun c27 => ?_)
    · refine fz_iload_n kX5_readO rfl rfl ?_
      refine fz_bipush ⟨by decide, by decide⟩ kX5_readO rfl ?_
      refine fz_icmp_lt (tgt := 71) kX5_readO rfl (by decide) (fun c28 => ?_) (fun c28 => ?_)
      · refine fz_aload_n kX5_readO rfl rfl ?_
        refine fz_bipush ⟨by decide, by decide⟩ kX5_readO rfl ?_
        refine fz_callV (d' := 1) (M' := mX5_goesOnWith) (As := [fz_i 40]) (st := []) kX5_readO rfl rfl vX5_goesOnWith rfl rfl rfl rfl (Nat.le_of_ble_eq_true rfl) (Nat.le_of_ble_eq_true rfl) (by decide) (sX5_goesOnWith h hI 40 (by omega)) (fun H29 r30 q31 o32 => ?_)
        obtain ⟨hI33, hf34, y36, rfl, p37, f35⟩ := q31
        clear o32
        have hf38 := fz_fr_tr hf hf34 (show fz_su [(20, 3)] [(20, 3), (20, 4), (21, 4), (22, 99999), (23, 99999)] = true from rfl)
        have k39 : H29 20 4 = (h 20 4) := (hf34 20 4 rfl).trans rfl
        have k40 : H29 21 4 = (h 21 4) := (hf34 21 4 rfl).trans rfl
        have t41 : H29 20 4 = h 20 4 := hf34 20 4 rfl
        have t42 : H29 21 4 = h 21 4 := hf34 21 4 rfl
        refine fz_if_eq (tgt := 115) kX5_readO rfl (by decide) (fun c43 => ?_) (fun c43 => ?_)
        · refine fz_aload_n kX5_readO rfl rfl ?_
          refine fz_bipush ⟨by decide, by decide⟩ kX5_readO rfl ?_
          have b44 : 0 ≤ H29 20 3 ∧ H29 20 3 ≤ 120 := hI33.1 20 _
          have e45 : H29 20 2 = h 20 2 := hf38 20 2 rfl
          refine fz_callV (d' := 1) (M' := mX5_goesOnWith) (As := [fz_i 33]) (st := []) kX5_readO rfl rfl vX5_goesOnWith rfl rfl rfl rfl (Nat.le_of_ble_eq_true rfl) (Nat.le_of_ble_eq_true rfl) (by decide) (sX5_goesOnWith H29 hI33 33 (by omega)) (fun H46 r47 q48 o49 => ?_)
          obtain ⟨hI50, hf51, y53, rfl, p54, f52⟩ := q48
          clear o49
          have hf55 := fz_fr_tr hf38 hf51 (show fz_su [(20, 3)] [(20, 3), (20, 4), (21, 4), (22, 99999), (23, 99999)] = true from rfl)
          have k56 : H46 20 4 = (h 20 4) := (hf51 20 4 rfl).trans k39
          have k57 : H46 21 4 = (h 21 4) := (hf51 21 4 rfl).trans k40
          have t58 : H46 20 4 = H29 20 4 := hf51 20 4 rfl
          have t59 : H46 21 4 = H29 21 4 := hf51 21 4 rfl
          refine fz_if_eq (tgt := 145) kX5_readO rfl (by decide) (fun c60 => ?_) (fun c60 => ?_)
          · refine fz_aload_n kX5_readO rfl rfl ?_
            refine fz_bipush ⟨by decide, by decide⟩ kX5_readO rfl ?_
            have b61 : 0 ≤ H46 20 3 ∧ H46 20 3 ≤ 120 := hI50.1 20 _
            have e62 : H46 20 2 = h 20 2 := hf55 20 2 rfl
            refine fz_callV (d' := 1) (M' := mX5_goesOnWith) (As := [fz_i 45]) (st := []) kX5_readO rfl rfl vX5_goesOnWith rfl rfl rfl rfl (Nat.le_of_ble_eq_true rfl) (Nat.le_of_ble_eq_true rfl) (by decide) (sX5_goesOnWith H46 hI50 45 (by omega)) (fun H63 r64 q65 o66 => ?_)
            obtain ⟨hI67, hf68, y70, rfl, p71, f69⟩ := q65
            clear o66
            have hf72 := fz_fr_tr hf55 hf68 (show fz_su [(20, 3)] [(20, 3), (20, 4), (21, 4), (22, 99999), (23, 99999)] = true from rfl)
            have k73 : H63 20 4 = (h 20 4) := (hf68 20 4 rfl).trans k56
            have k74 : H63 21 4 = (h 21 4) := (hf68 21 4 rfl).trans k57
            have t75 : H63 20 4 = H46 20 4 := hf68 20 4 rfl
            have t76 : H63 21 4 = H46 21 4 := hf68 21 4 rfl
            refine fz_if_eq (tgt := 175) kX5_readO rfl (by decide) (fun c77 => ?_) (fun c77 => ?_)
            · refine fz_aload_n kX5_readO rfl rfl ?_
              refine fz_iconst ⟨by decide, by decide⟩ kX5_readO rfl ?_
              refine fz_putZ kX5_readO rfl rfl rfl (by omega) ?_
              refine fz_nmu (S := [(20, 3), (20, 4), (21, 4), (22, 99999), (23, 99999)]) (h0 := h) (fz_Iv_up hI67 (by decide) (show (0 : Int) ≤ 1 by decide) (show (1 : Int) ≤ 1 by decide)) (fz_fr_up hf72 rfl) (fun H78 hI79 hf80 e81 => ?_)
              have k82 : H78 21 4 = (h 21 4) := by rw [e81]; exact (fz_up_o (by decide)).trans k74
              have k83 : H78 20 4 = 1 := by rw [e81]; exact fz_up_e
              have t84 : H78 20 3 = H63 20 3 := by rw [e81]; exact fz_up_s (by decide)
              have t85 : H78 21 4 = H63 21 4 := by rw [e81]; exact fz_up_o (by decide)
              exact fz_vret kX5_readO rfl rfl ⟨hI79, hf80, rfl, (by omega), (by omega), (by first | exact fl_O_num f12 ⟨by omega, by omega⟩ lost (lost 20 4 rfl) | exact fl_O_nam f12 f24 (by omega) (by omega) lost rfl lost (by omega) (lost 20 3 rfl) (lost 20 4 rfl) | exact fl_O_un (k := 5) f12 f24 (by omega) (by omega) (Or.inr ⟨by omega, rfl, rfl⟩) (by omega) (by omega) (by omega) (funext fun s => (hf68 22 s rfl).trans ((hf51 22 s rfl).trans (hf34 22 s rfl))) (funext fun s => (hf68 23 s rfl).trans ((hf51 23 s rfl).trans (hf34 23 s rfl))) (by omega) (fl_gC_e (funext fun s => (hf68 26 s rfl).trans ((hf51 26 s rfl).trans (hf34 26 s rfl))) ((hf68 20 2 rfl).trans ((hf51 20 2 rfl).trans (hf34 20 2 rfl)))) lost lost (by omega) (lost 20 3 rfl) (lost 20 4 rfl) | exact fl_O_un (k := 5) f12 f24 (by omega) (by omega) (Or.inl ⟨by omega, rfl, rfl⟩) (by omega) (by omega) (by omega) (funext fun s => (hf51 22 s rfl).trans (hf34 22 s rfl)) (funext fun s => (hf51 23 s rfl).trans (hf34 23 s rfl)) (by omega) (fl_gC_e (funext fun s => (hf51 26 s rfl).trans (hf34 26 s rfl)) ((hf51 20 2 rfl).trans (hf34 20 2 rfl))) lost lost (by omega) (lost 20 3 rfl) (lost 20 4 rfl) | exact fl_O_par (k := 5) f12 f24 (by omega) (by omega) (by omega) (by omega) (hf34 20 4 rfl) (hf34 21 4 rfl) (funext fun s => hf34 22 s rfl) (funext fun s => hf34 23 s rfl) (fl_gC_e (funext fun s => hf34 26 s rfl) (hf34 20 2 rfl)) lost (fl_gC_e (funext fun s => (lost 26 s rfl).trans (hf34 26 s rfl)) ((lost 20 2 rfl).trans (hf34 20 2 rfl))) (Or.inr (Or.inl ⟨by omega, by omega, by omega, by omega⟩)) (by rw [lost]; exact (fz_up_o (by decide)).trans (lost 21 4 rfl)) (by rw [lost, fz_up_ne (by decide)]; exact (funext fun s => lost 22 s rfl)) (by rw [lost, fz_up_ne (by decide)]; exact (funext fun s => lost 23 s rfl)) | exact fl_O_par (k := 5) f12 f24 (by omega) (by omega) (by omega) (by omega) (hf34 20 4 rfl) (hf34 21 4 rfl) (funext fun s => hf34 22 s rfl) (funext fun s => hf34 23 s rfl) (fl_gC_e (funext fun s => hf34 26 s rfl) (hf34 20 2 rfl)) lost (fl_gC_e (funext fun s => (lost 26 s rfl).trans (hf34 26 s rfl)) ((lost 20 2 rfl).trans (hf34 20 2 rfl))) (Or.inr (Or.inr ⟨by omega, by omega, by omega, by omega⟩)) (by rw [lost]; exact (fz_up_o (by decide)).trans (lost 21 4 rfl)) (by rw [lost, fz_up_ne (by decide)]; exact (funext fun s => lost 22 s rfl)) (by rw [lost, fz_up_ne (by decide)]; exact (funext fun s => lost 23 s rfl)) | exact fl_O_par (k := 5) f12 f24 (by omega) (by omega) (by omega) (by omega) (hf34 20 4 rfl) (hf34 21 4 rfl) (funext fun s => hf34 22 s rfl) (funext fun s => hf34 23 s rfl) (fl_gC_e (funext fun s => hf34 26 s rfl) (hf34 20 2 rfl)) lost (fl_gC_e (funext fun s => (lost 26 s rfl).trans (hf34 26 s rfl)) ((lost 20 2 rfl).trans (hf34 20 2 rfl))) (Or.inl ⟨by omega, by omega, by omega⟩) (by rw [lost]; exact fz_up_o (by decide)) (by rw [lost]; exact fz_up_ne (by decide)) (by rw [lost]; exact fz_up_ne (by decide)) | exact fl_O_f0 f12 f24 (by omega) (by omega) (Or.inr ⟨by omega, by omega, by omega⟩) (by omega) (by omega))⟩
            · refine fz_aload_n kX5_readO rfl rfl ?_
              refine fz_iload_n kX5_readO rfl rfl ?_
              refine fz_iconst ⟨by decide, by decide⟩ kX5_readO rfl ?_
              refine fz_iaddN kX5_readO rfl ⟨by decide, by decide⟩ ?_
              refine fz_eqi (y := 1) rfl ?_
              have b87 : 0 ≤ H63 20 4 ∧ H63 20 4 ≤ 1 := hI67.1 20 _
              have b88 : 0 ≤ H63 21 4 ∧ H63 21 4 ≤ 128 := hI67.1 21 _
              have b89 : 0 ≤ H63 20 3 ∧ H63 20 3 ≤ 120 := hI67.1 20 _
              refine fz_callV (d' := 32) (M' := mX5_readO) (As := [fz_i 1]) (st := []) kX5_readO rfl rfl vX5_readO rfl rfl rfl rfl (Nat.le_of_ble_eq_true rfl) (Nat.le_of_ble_eq_true rfl) (by decide) (sX5_readO_1 H63 hI67  (by omega)) (fun H90 r91 q92 o93 => ?_)
              obtain ⟨hI94, hf95, rfl, f96, f97, f98⟩ := q92
              clear o93
              have hf99 := fz_fr_tr hf72 hf95 (show fz_su [(20, 3), (20, 4), (21, 4), (22, 99999), (23, 99999)] [(20, 3), (20, 4), (21, 4), (22, 99999), (23, 99999)] = true from rfl)
              have k100 : 0 ≤ H90 20 3 ∧ H90 20 3 ≤ 120 := hI94.1 20 _
              refine fz_aload_n kX5_readO rfl rfl ?_
              refine fz_getR (t := 21) kX5_readO rfl rfl ?_
              refine fz_bipush ⟨by decide, by decide⟩ kX5_readO rfl ?_
              refine fz_iconst ⟨by decide, by decide⟩ kX5_readO rfl ?_
              have b101 : 0 ≤ H90 21 4 ∧ H90 21 4 ≤ 128 := hI94.1 21 _
              refine fz_callV (d' := 0) (M' := mX3_add) (As := [fz_i 126, fz_i 0]) (st := []) kX5_readO rfl rfl vX3_add rfl rfl rfl rfl (Nat.le_of_ble_eq_true rfl) (Nat.le_of_ble_eq_true rfl) (by decide) (sX3_add H90 hI94 126 0 ) (fun H102 r103 q104 o105 => ?_)
              obtain ⟨hI106, hf107, y111, rfl, f108, f109, f110⟩ := q104
              clear o105
              have hf112 := fz_fr_tr hf99 hf107 (show fz_su [(21, 4), (22, 99999), (23, 99999)] [(20, 3), (20, 4), (21, 4), (22, 99999), (23, 99999)] = true from rfl)
              have t113 : H102 20 3 = H90 20 3 := hf107 20 3 rfl
              have t114 : H102 20 4 = H90 20 4 := hf107 20 4 rfl
              refine fz_pop rfl kX5_readO rfl ?_
              refine fz_goto (tgt := 180) kX5_readO rfl (by decide) ?_
              exact fz_vret kX5_readO rfl rfl ⟨hI106, hf112, rfl, (by omega), (by omega), (by first | exact fl_O_num f12 ⟨by omega, by omega⟩ lost (lost 20 4 rfl) | exact fl_O_nam f12 f24 (by omega) (by omega) lost rfl f110 (by omega) (lost 20 3 rfl) (lost 20 4 rfl) | exact fl_O_un (k := 5) f12 f24 (by omega) (by omega) (Or.inr ⟨by omega, rfl, rfl⟩) (by omega) (by omega) (by omega) (funext fun s => (hf68 22 s rfl).trans ((hf51 22 s rfl).trans (hf34 22 s rfl))) (funext fun s => (hf68 23 s rfl).trans ((hf51 23 s rfl).trans (hf34 23 s rfl))) (by omega) (fl_gC_e (funext fun s => (hf68 26 s rfl).trans ((hf51 26 s rfl).trans (hf34 26 s rfl))) ((hf68 20 2 rfl).trans ((hf51 20 2 rfl).trans (hf34 20 2 rfl)))) f98 f110 (by omega) (hf107 20 3 rfl) (hf107 20 4 rfl) | exact fl_O_un (k := 5) f12 f24 (by omega) (by omega) (Or.inl ⟨by omega, rfl, rfl⟩) (by omega) (by omega) (by omega) (funext fun s => (hf51 22 s rfl).trans (hf34 22 s rfl)) (funext fun s => (hf51 23 s rfl).trans (hf34 23 s rfl)) (by omega) (fl_gC_e (funext fun s => (hf51 26 s rfl).trans (hf34 26 s rfl)) ((hf51 20 2 rfl).trans (hf34 20 2 rfl))) f98 f110 (by omega) (lost 20 3 rfl) (lost 20 4 rfl) | exact fl_O_par (k := 5) f12 f24 (by omega) (by omega) (by omega) (by omega) (hf34 20 4 rfl) (hf34 21 4 rfl) (funext fun s => hf34 22 s rfl) (funext fun s => hf34 23 s rfl) (fl_gC_e (funext fun s => hf34 26 s rfl) (hf34 20 2 rfl)) f98 (fl_gC_e (funext fun s => (lost 26 s rfl).trans (hf34 26 s rfl)) ((lost 20 2 rfl).trans (hf34 20 2 rfl))) (Or.inr (Or.inl ⟨by omega, by omega, by omega, by omega⟩)) (by rw [lost]; exact (fz_up_o (by decide)).trans (lost 21 4 rfl)) (by rw [lost, fz_up_ne (by decide)]; exact (funext fun s => lost 22 s rfl)) (by rw [lost, fz_up_ne (by decide)]; exact (funext fun s => lost 23 s rfl)) | exact fl_O_par (k := 5) f12 f24 (by omega) (by omega) (by omega) (by omega) (hf34 20 4 rfl) (hf34 21 4 rfl) (funext fun s => hf34 22 s rfl) (funext fun s => hf34 23 s rfl) (fl_gC_e (funext fun s => hf34 26 s rfl) (hf34 20 2 rfl)) f98 (fl_gC_e (funext fun s => (lost 26 s rfl).trans (hf34 26 s rfl)) ((lost 20 2 rfl).trans (hf34 20 2 rfl))) (Or.inr (Or.inr ⟨by omega, by omega, by omega, by omega⟩)) (by rw [lost]; exact (fz_up_o (by decide)).trans (lost 21 4 rfl)) (by rw [lost, fz_up_ne (by decide)]; exact (funext fun s => lost 22 s rfl)) (by rw [lost, fz_up_ne (by decide)]; exact (funext fun s => lost 23 s rfl)) | exact fl_O_par (k := 5) f12 f24 (by omega) (by omega) (by omega) (by omega) (hf34 20 4 rfl) (hf34 21 4 rfl) (funext fun s => hf34 22 s rfl) (funext fun s => hf34 23 s rfl) (fl_gC_e (funext fun s => hf34 26 s rfl) (hf34 20 2 rfl)) f98 (fl_gC_e (funext fun s => (lost 26 s rfl).trans (hf34 26 s rfl)) ((lost 20 2 rfl).trans (hf34 20 2 rfl))) (Or.inl ⟨by omega, by omega, by omega⟩) (by rw [lost]; exact fz_up_o (by decide)) (by rw [lost]; exact fz_up_ne (by decide)) (by rw [lost]; exact fz_up_ne (by decide)) | exact fl_O_f0 f12 f24 (by omega) (by omega) (Or.inr ⟨by omega, by omega, by omega⟩) (by omega) (by omega))⟩
          · refine fz_aload_n kX5_readO rfl rfl ?_
            refine fz_iload_n kX5_readO rfl rfl ?_
            refine fz_iconst ⟨by decide, by decide⟩ kX5_readO rfl ?_
            refine fz_iaddN kX5_readO rfl ⟨by decide, by decide⟩ ?_
            refine fz_eqi (y := 1) rfl ?_
            have b116 : 0 ≤ H46 20 4 ∧ H46 20 4 ≤ 1 := hI50.1 20 _
            have b117 : 0 ≤ H46 21 4 ∧ H46 21 4 ≤ 128 := hI50.1 21 _
            have b118 : 0 ≤ H46 20 3 ∧ H46 20 3 ≤ 120 := hI50.1 20 _
            refine fz_callV (d' := 32) (M' := mX5_readO) (As := [fz_i 1]) (st := []) kX5_readO rfl rfl vX5_readO rfl rfl rfl rfl (Nat.le_of_ble_eq_true rfl) (Nat.le_of_ble_eq_true rfl) (by decide) (sX5_readO_1 H46 hI50  (by omega)) (fun H119 r120 q121 o122 => ?_)
            obtain ⟨hI123, hf124, rfl, f125, f126, f127⟩ := q121
            clear o122
            have hf128 := fz_fr_tr hf55 hf124 (show fz_su [(20, 3), (20, 4), (21, 4), (22, 99999), (23, 99999)] [(20, 3), (20, 4), (21, 4), (22, 99999), (23, 99999)] = true from rfl)
            have k129 : 0 ≤ H119 20 3 ∧ H119 20 3 ≤ 120 := hI123.1 20 _
            refine fz_aload_n kX5_readO rfl rfl ?_
            refine fz_getR (t := 21) kX5_readO rfl rfl ?_
            refine fz_bipush ⟨by decide, by decide⟩ kX5_readO rfl ?_
            refine fz_iconst ⟨by decide, by decide⟩ kX5_readO rfl ?_
            have b130 : 0 ≤ H119 21 4 ∧ H119 21 4 ≤ 128 := hI123.1 21 _
            refine fz_callV (d' := 0) (M' := mX3_add) (As := [fz_i 33, fz_i 0]) (st := []) kX5_readO rfl rfl vX3_add rfl rfl rfl rfl (Nat.le_of_ble_eq_true rfl) (Nat.le_of_ble_eq_true rfl) (by decide) (sX3_add H119 hI123 33 0 ) (fun H131 r132 q133 o134 => ?_)
            obtain ⟨hI135, hf136, y140, rfl, f137, f138, f139⟩ := q133
            clear o134
            have hf141 := fz_fr_tr hf128 hf136 (show fz_su [(21, 4), (22, 99999), (23, 99999)] [(20, 3), (20, 4), (21, 4), (22, 99999), (23, 99999)] = true from rfl)
            have t142 : H131 20 3 = H119 20 3 := hf136 20 3 rfl
            have t143 : H131 20 4 = H119 20 4 := hf136 20 4 rfl
            refine fz_pop rfl kX5_readO rfl ?_
            refine fz_goto (tgt := 180) kX5_readO rfl (by decide) ?_
            exact fz_vret kX5_readO rfl rfl ⟨hI135, hf141, rfl, (by omega), (by omega), (by first | exact fl_O_num f12 ⟨by omega, by omega⟩ lost (lost 20 4 rfl) | exact fl_O_nam f12 f24 (by omega) (by omega) lost rfl f139 (by omega) (lost 20 3 rfl) (lost 20 4 rfl) | exact fl_O_un (k := 5) f12 f24 (by omega) (by omega) (Or.inr ⟨by omega, rfl, rfl⟩) (by omega) (by omega) (by omega) (funext fun s => (lost 22 s rfl).trans ((hf51 22 s rfl).trans (hf34 22 s rfl))) (funext fun s => (lost 23 s rfl).trans ((hf51 23 s rfl).trans (hf34 23 s rfl))) (by omega) (fl_gC_e (funext fun s => (lost 26 s rfl).trans ((hf51 26 s rfl).trans (hf34 26 s rfl))) ((lost 20 2 rfl).trans ((hf51 20 2 rfl).trans (hf34 20 2 rfl)))) f127 f139 (by omega) (lost 20 3 rfl) (lost 20 4 rfl) | exact fl_O_un (k := 5) f12 f24 (by omega) (by omega) (Or.inl ⟨by omega, rfl, rfl⟩) (by omega) (by omega) (by omega) (funext fun s => (hf51 22 s rfl).trans (hf34 22 s rfl)) (funext fun s => (hf51 23 s rfl).trans (hf34 23 s rfl)) (by omega) (fl_gC_e (funext fun s => (hf51 26 s rfl).trans (hf34 26 s rfl)) ((hf51 20 2 rfl).trans (hf34 20 2 rfl))) f127 f139 (by omega) (hf136 20 3 rfl) (hf136 20 4 rfl) | exact fl_O_par (k := 5) f12 f24 (by omega) (by omega) (by omega) (by omega) (hf34 20 4 rfl) (hf34 21 4 rfl) (funext fun s => hf34 22 s rfl) (funext fun s => hf34 23 s rfl) (fl_gC_e (funext fun s => hf34 26 s rfl) (hf34 20 2 rfl)) f127 (fl_gC_e (funext fun s => (lost 26 s rfl).trans (hf34 26 s rfl)) ((lost 20 2 rfl).trans (hf34 20 2 rfl))) (Or.inr (Or.inl ⟨by omega, by omega, by omega, by omega⟩)) (by rw [lost]; exact (fz_up_o (by decide)).trans (lost 21 4 rfl)) (by rw [lost, fz_up_ne (by decide)]; exact (funext fun s => lost 22 s rfl)) (by rw [lost, fz_up_ne (by decide)]; exact (funext fun s => lost 23 s rfl)) | exact fl_O_par (k := 5) f12 f24 (by omega) (by omega) (by omega) (by omega) (hf34 20 4 rfl) (hf34 21 4 rfl) (funext fun s => hf34 22 s rfl) (funext fun s => hf34 23 s rfl) (fl_gC_e (funext fun s => hf34 26 s rfl) (hf34 20 2 rfl)) f127 (fl_gC_e (funext fun s => (lost 26 s rfl).trans (hf34 26 s rfl)) ((lost 20 2 rfl).trans (hf34 20 2 rfl))) (Or.inr (Or.inr ⟨by omega, by omega, by omega, by omega⟩)) (by rw [lost]; exact (fz_up_o (by decide)).trans (lost 21 4 rfl)) (by rw [lost, fz_up_ne (by decide)]; exact (funext fun s => lost 22 s rfl)) (by rw [lost, fz_up_ne (by decide)]; exact (funext fun s => lost 23 s rfl)) | exact fl_O_par (k := 5) f12 f24 (by omega) (by omega) (by omega) (by omega) (hf34 20 4 rfl) (hf34 21 4 rfl) (funext fun s => hf34 22 s rfl) (funext fun s => hf34 23 s rfl) (fl_gC_e (funext fun s => hf34 26 s rfl) (hf34 20 2 rfl)) f127 (fl_gC_e (funext fun s => (lost 26 s rfl).trans (hf34 26 s rfl)) ((lost 20 2 rfl).trans (hf34 20 2 rfl))) (Or.inl ⟨by omega, by omega, by omega⟩) (by rw [lost]; exact fz_up_o (by decide)) (by rw [lost]; exact fz_up_ne (by decide)) (by rw [lost]; exact fz_up_ne (by decide)) | exact fl_O_f0 f12 f24 (by omega) (by omega) (Or.inr ⟨by omega, by omega, by omega⟩) (by omega) (by omega))⟩
        · refine fz_aload_n kX5_readO rfl rfl ?_
          refine fz_iload_n kX5_readO rfl rfl ?_
          refine fz_iconst ⟨by decide, by decide⟩ kX5_readO rfl ?_
          refine fz_iaddN kX5_readO rfl ⟨by decide, by decide⟩ ?_
          refine fz_eqi (y := 1) rfl ?_
          have b145 : 0 ≤ H29 20 4 ∧ H29 20 4 ≤ 1 := hI33.1 20 _
          have b146 : 0 ≤ H29 21 4 ∧ H29 21 4 ≤ 128 := hI33.1 21 _
          have b147 : 0 ≤ H29 20 3 ∧ H29 20 3 ≤ 120 := hI33.1 20 _
          refine fz_callV (d' := 37) (M' := mX5_readE) (As := [fz_i 1]) (st := []) kX5_readO rfl rfl vX5_readE rfl rfl rfl rfl (Nat.le_of_ble_eq_true rfl) (Nat.le_of_ble_eq_true rfl) (by decide) (sX5_readE_1 H29 hI33  (by omega)) (fun H148 r149 q150 o151 => ?_)
          obtain ⟨hI152, hf153, rfl, f154, f155, f156⟩ := q150
          clear o151
          have hf157 := fz_fr_tr hf38 hf153 (show fz_su [(20, 3), (20, 4), (21, 4), (22, 99999), (23, 99999)] [(20, 3), (20, 4), (21, 4), (22, 99999), (23, 99999)] = true from rfl)
          refine fz_aload_n kX5_readO rfl rfl ?_
          refine fz_aload_n kX5_readO rfl rfl ?_
          have k158 : 0 ≤ H148 20 4 ∧ H148 20 4 ≤ 1 := hI152.1 20 _
          obtain ⟨v159, e160⟩ : ∃ z, H148 20 (4) = z := ⟨_, rfl⟩
          refine fz_getV (v := v159) kX5_readO rfl rfl e160 ?_
          have b161 : 0 ≤ v159 ∧ v159 ≤ 1 := by rw [← e160]; exact hI152.1 20 _
          refine fz_if_ne (tgt := 104) kX5_readO rfl (by decide) (fun c162 => ?_) (fun c162 => ?_)
          · refine fz_iconst ⟨by decide, by decide⟩ kX5_readO rfl ?_
            refine fz_goto (tgt := 109) kX5_readO rfl (by decide) ?_
            refine fz_putZ kX5_readO rfl rfl rfl (by omega) ?_
            refine fz_nmu (S := [(20, 3), (20, 4), (21, 4), (22, 99999), (23, 99999)]) (h0 := h) (fz_Iv_up hI152 (by decide) (show (0 : Int) ≤ 1 by decide) (show (1 : Int) ≤ 1 by decide)) (fz_fr_up hf157 rfl) (fun H163 hI164 hf165 e166 => ?_)
            have k167 : H163 20 4 = 1 := by rw [e166]; exact fz_up_e
            have t168 : H163 20 3 = H148 20 3 := by rw [e166]; exact fz_up_s (by decide)
            have t169 : H163 21 4 = H148 21 4 := by rw [e166]; exact fz_up_o (by decide)
            refine fz_goto (tgt := 180) kX5_readO rfl (by decide) ?_
            exact fz_vret kX5_readO rfl rfl ⟨hI164, hf165, rfl, (by omega), (by omega), (by first | exact fl_O_num f12 ⟨by omega, by omega⟩ lost (lost 20 4 rfl) | exact fl_O_nam f12 f24 (by omega) (by omega) lost rfl lost (by omega) (lost 20 3 rfl) (lost 20 4 rfl) | exact fl_O_un (k := 5) f12 f24 (by omega) (by omega) (Or.inr ⟨by omega, rfl, rfl⟩) (by omega) (by omega) (by omega) (funext fun s => (lost 22 s rfl).trans ((lost 22 s rfl).trans (hf34 22 s rfl))) (funext fun s => (lost 23 s rfl).trans ((lost 23 s rfl).trans (hf34 23 s rfl))) (by omega) (fl_gC_e (funext fun s => (lost 26 s rfl).trans ((lost 26 s rfl).trans (hf34 26 s rfl))) ((lost 20 2 rfl).trans ((lost 20 2 rfl).trans (hf34 20 2 rfl)))) f156 lost (by omega) (lost 20 3 rfl) (lost 20 4 rfl) | exact fl_O_un (k := 5) f12 f24 (by omega) (by omega) (Or.inl ⟨by omega, rfl, rfl⟩) (by omega) (by omega) (by omega) (funext fun s => (lost 22 s rfl).trans (hf34 22 s rfl)) (funext fun s => (lost 23 s rfl).trans (hf34 23 s rfl)) (by omega) (fl_gC_e (funext fun s => (lost 26 s rfl).trans (hf34 26 s rfl)) ((lost 20 2 rfl).trans (hf34 20 2 rfl))) f156 lost (by omega) (lost 20 3 rfl) (lost 20 4 rfl) | exact fl_O_par (k := 5) f12 f24 (by omega) (by omega) (by omega) (by omega) (hf34 20 4 rfl) (hf34 21 4 rfl) (funext fun s => hf34 22 s rfl) (funext fun s => hf34 23 s rfl) (fl_gC_e (funext fun s => hf34 26 s rfl) (hf34 20 2 rfl)) f156 (fl_gC_e (funext fun s => (hf153 26 s rfl).trans (hf34 26 s rfl)) ((hf153 20 2 rfl).trans (hf34 20 2 rfl))) (Or.inr (Or.inl ⟨by omega, by omega, by omega, by omega⟩)) (by rw [e166]; exact (fz_up_o (by decide)).trans (lost 21 4 rfl)) (by rw [e166, fz_up_ne (by decide)]; exact (funext fun s => lost 22 s rfl)) (by rw [e166, fz_up_ne (by decide)]; exact (funext fun s => lost 23 s rfl)) | exact fl_O_par (k := 5) f12 f24 (by omega) (by omega) (by omega) (by omega) (hf34 20 4 rfl) (hf34 21 4 rfl) (funext fun s => hf34 22 s rfl) (funext fun s => hf34 23 s rfl) (fl_gC_e (funext fun s => hf34 26 s rfl) (hf34 20 2 rfl)) f156 (fl_gC_e (funext fun s => (hf153 26 s rfl).trans (hf34 26 s rfl)) ((hf153 20 2 rfl).trans (hf34 20 2 rfl))) (Or.inr (Or.inr ⟨by omega, by omega, by omega, by omega⟩)) (by rw [e166]; exact (fz_up_o (by decide)).trans (lost 21 4 rfl)) (by rw [e166, fz_up_ne (by decide)]; exact (funext fun s => lost 22 s rfl)) (by rw [e166, fz_up_ne (by decide)]; exact (funext fun s => lost 23 s rfl)) | exact fl_O_par (k := 5) f12 f24 (by omega) (by omega) (by omega) (by omega) (hf34 20 4 rfl) (hf34 21 4 rfl) (funext fun s => hf34 22 s rfl) (funext fun s => hf34 23 s rfl) (fl_gC_e (funext fun s => hf34 26 s rfl) (hf34 20 2 rfl)) f156 (fl_gC_e (funext fun s => (hf153 26 s rfl).trans (hf34 26 s rfl)) ((hf153 20 2 rfl).trans (hf34 20 2 rfl))) (Or.inl ⟨by omega, by omega, by omega⟩) (by rw [e166]; exact fz_up_o (by decide)) (by rw [e166]; exact fz_up_ne (by decide)) (by rw [e166]; exact fz_up_ne (by decide)) | exact fl_O_f0 f12 f24 (by omega) (by omega) (Or.inr ⟨by omega, by omega, by omega⟩) (by omega) (by omega))⟩
          · refine fz_aload_n kX5_readO rfl rfl ?_
            refine fz_bipush ⟨by decide, by decide⟩ kX5_readO rfl ?_
            have b171 : 0 ≤ H148 20 3 ∧ H148 20 3 ≤ 120 := hI152.1 20 _
            have e172 : H148 20 2 = h 20 2 := hf157 20 2 rfl
            refine fz_callV (d' := 1) (M' := mX5_goesOnWith) (As := [fz_i 41]) (st := [fz_r 20]) kX5_readO rfl rfl vX5_goesOnWith rfl rfl rfl rfl (Nat.le_of_ble_eq_true rfl) (Nat.le_of_ble_eq_true rfl) (by decide) (sX5_goesOnWith H148 hI152 41 (by omega)) (fun H173 r174 q175 o176 => ?_)
            obtain ⟨hI177, hf178, y180, rfl, p181, f179⟩ := q175
            clear o176
            have hf182 := fz_fr_tr hf157 hf178 (show fz_su [(20, 3)] [(20, 3), (20, 4), (21, 4), (22, 99999), (23, 99999)] = true from rfl)
            have k183 : H173 20 4 = v159 := (hf178 20 4 rfl).trans e160
            have t184 : H173 20 4 = H148 20 4 := hf178 20 4 rfl
            have t185 : H173 21 4 = H148 21 4 := hf178 21 4 rfl
            refine fz_if_ne (tgt := 108) kX5_readO rfl (by decide) (fun c186 => ?_) (fun c186 => ?_)
            · refine fz_iconst ⟨by decide, by decide⟩ kX5_readO rfl ?_
              refine fz_putZ kX5_readO rfl rfl rfl (by omega) ?_
              refine fz_nmu (S := [(20, 3), (20, 4), (21, 4), (22, 99999), (23, 99999)]) (h0 := h) (fz_Iv_up hI177 (by decide) (show (0 : Int) ≤ 0 by decide) (show (0 : Int) ≤ 1 by decide)) (fz_fr_up hf182 rfl) (fun H187 hI188 hf189 e190 => ?_)
              have k191 : H187 20 4 = 0 := by rw [e190]; exact fz_up_e
              have t192 : H187 20 3 = H173 20 3 := by rw [e190]; exact fz_up_s (by decide)
              have t193 : H187 21 4 = H173 21 4 := by rw [e190]; exact fz_up_o (by decide)
              refine fz_goto (tgt := 180) kX5_readO rfl (by decide) ?_
              exact fz_vret kX5_readO rfl rfl ⟨hI188, hf189, rfl, (by omega), (by omega), (by first | exact fl_O_num f12 ⟨by omega, by omega⟩ lost (lost 20 4 rfl) | exact fl_O_nam f12 f24 (by omega) (by omega) lost rfl lost (by omega) (lost 20 3 rfl) (lost 20 4 rfl) | exact fl_O_un (k := 5) f12 f24 (by omega) (by omega) (Or.inr ⟨by omega, rfl, rfl⟩) (by omega) (by omega) (by omega) (funext fun s => (lost 22 s rfl).trans ((lost 22 s rfl).trans (hf34 22 s rfl))) (funext fun s => (lost 23 s rfl).trans ((lost 23 s rfl).trans (hf34 23 s rfl))) (by omega) (fl_gC_e (funext fun s => (lost 26 s rfl).trans ((lost 26 s rfl).trans (hf34 26 s rfl))) ((lost 20 2 rfl).trans ((lost 20 2 rfl).trans (hf34 20 2 rfl)))) f156 lost (by omega) (lost 20 3 rfl) (lost 20 4 rfl) | exact fl_O_un (k := 5) f12 f24 (by omega) (by omega) (Or.inl ⟨by omega, rfl, rfl⟩) (by omega) (by omega) (by omega) (funext fun s => (lost 22 s rfl).trans (hf34 22 s rfl)) (funext fun s => (lost 23 s rfl).trans (hf34 23 s rfl)) (by omega) (fl_gC_e (funext fun s => (lost 26 s rfl).trans (hf34 26 s rfl)) ((lost 20 2 rfl).trans (hf34 20 2 rfl))) f156 lost (by omega) (lost 20 3 rfl) (lost 20 4 rfl) | exact fl_O_par (k := 5) f12 f24 (by omega) (by omega) (by omega) (by omega) (hf34 20 4 rfl) (hf34 21 4 rfl) (funext fun s => hf34 22 s rfl) (funext fun s => hf34 23 s rfl) (fl_gC_e (funext fun s => hf34 26 s rfl) (hf34 20 2 rfl)) f156 (fl_gC_e (funext fun s => (hf153 26 s rfl).trans (hf34 26 s rfl)) ((hf153 20 2 rfl).trans (hf34 20 2 rfl))) (Or.inr (Or.inl ⟨by omega, by omega, by omega, by omega⟩)) (by rw [e190]; exact (fz_up_o (by decide)).trans (hf178 21 4 rfl)) (by rw [e190, fz_up_ne (by decide)]; exact (funext fun s => hf178 22 s rfl)) (by rw [e190, fz_up_ne (by decide)]; exact (funext fun s => hf178 23 s rfl)) | exact fl_O_par (k := 5) f12 f24 (by omega) (by omega) (by omega) (by omega) (hf34 20 4 rfl) (hf34 21 4 rfl) (funext fun s => hf34 22 s rfl) (funext fun s => hf34 23 s rfl) (fl_gC_e (funext fun s => hf34 26 s rfl) (hf34 20 2 rfl)) f156 (fl_gC_e (funext fun s => (hf153 26 s rfl).trans (hf34 26 s rfl)) ((hf153 20 2 rfl).trans (hf34 20 2 rfl))) (Or.inr (Or.inr ⟨by omega, by omega, by omega, by omega⟩)) (by rw [e190]; exact (fz_up_o (by decide)).trans (hf178 21 4 rfl)) (by rw [e190, fz_up_ne (by decide)]; exact (funext fun s => hf178 22 s rfl)) (by rw [e190, fz_up_ne (by decide)]; exact (funext fun s => hf178 23 s rfl)) | exact fl_O_par (k := 5) f12 f24 (by omega) (by omega) (by omega) (by omega) (hf34 20 4 rfl) (hf34 21 4 rfl) (funext fun s => hf34 22 s rfl) (funext fun s => hf34 23 s rfl) (fl_gC_e (funext fun s => hf34 26 s rfl) (hf34 20 2 rfl)) f156 (fl_gC_e (funext fun s => (hf153 26 s rfl).trans (hf34 26 s rfl)) ((hf153 20 2 rfl).trans (hf34 20 2 rfl))) (Or.inl ⟨by omega, by omega, by omega⟩) (by rw [e190]; exact fz_up_o (by decide)) (by rw [e190]; exact fz_up_ne (by decide)) (by rw [e190]; exact fz_up_ne (by decide)) | exact fl_O_f0 f12 f24 (by omega) (by omega) (Or.inr ⟨by omega, by omega, by omega⟩) (by omega) (by omega))⟩
            · refine fz_iconst ⟨by decide, by decide⟩ kX5_readO rfl ?_
              refine fz_goto (tgt := 109) kX5_readO rfl (by decide) ?_
              refine fz_putZ kX5_readO rfl rfl rfl (by omega) ?_
              refine fz_nmu (S := [(20, 3), (20, 4), (21, 4), (22, 99999), (23, 99999)]) (h0 := h) (fz_Iv_up hI177 (by decide) (show (0 : Int) ≤ 1 by decide) (show (1 : Int) ≤ 1 by decide)) (fz_fr_up hf182 rfl) (fun H195 hI196 hf197 e198 => ?_)
              have k199 : H195 20 4 = 1 := by rw [e198]; exact fz_up_e
              have t200 : H195 20 3 = H173 20 3 := by rw [e198]; exact fz_up_s (by decide)
              have t201 : H195 21 4 = H173 21 4 := by rw [e198]; exact fz_up_o (by decide)
              refine fz_goto (tgt := 180) kX5_readO rfl (by decide) ?_
              exact fz_vret kX5_readO rfl rfl ⟨hI196, hf197, rfl, (by omega), (by omega), (by first | exact fl_O_num f12 ⟨by omega, by omega⟩ lost (lost 20 4 rfl) | exact fl_O_nam f12 f24 (by omega) (by omega) lost rfl lost (by omega) (lost 20 3 rfl) (lost 20 4 rfl) | exact fl_O_un (k := 5) f12 f24 (by omega) (by omega) (Or.inr ⟨by omega, rfl, rfl⟩) (by omega) (by omega) (by omega) (funext fun s => (lost 22 s rfl).trans ((lost 22 s rfl).trans (hf34 22 s rfl))) (funext fun s => (lost 23 s rfl).trans ((lost 23 s rfl).trans (hf34 23 s rfl))) (by omega) (fl_gC_e (funext fun s => (lost 26 s rfl).trans ((lost 26 s rfl).trans (hf34 26 s rfl))) ((lost 20 2 rfl).trans ((lost 20 2 rfl).trans (hf34 20 2 rfl)))) f156 lost (by omega) (lost 20 3 rfl) (lost 20 4 rfl) | exact fl_O_un (k := 5) f12 f24 (by omega) (by omega) (Or.inl ⟨by omega, rfl, rfl⟩) (by omega) (by omega) (by omega) (funext fun s => (lost 22 s rfl).trans (hf34 22 s rfl)) (funext fun s => (lost 23 s rfl).trans (hf34 23 s rfl)) (by omega) (fl_gC_e (funext fun s => (lost 26 s rfl).trans (hf34 26 s rfl)) ((lost 20 2 rfl).trans (hf34 20 2 rfl))) f156 lost (by omega) (lost 20 3 rfl) (lost 20 4 rfl) | exact fl_O_par (k := 5) f12 f24 (by omega) (by omega) (by omega) (by omega) (hf34 20 4 rfl) (hf34 21 4 rfl) (funext fun s => hf34 22 s rfl) (funext fun s => hf34 23 s rfl) (fl_gC_e (funext fun s => hf34 26 s rfl) (hf34 20 2 rfl)) f156 (fl_gC_e (funext fun s => (hf153 26 s rfl).trans (hf34 26 s rfl)) ((hf153 20 2 rfl).trans (hf34 20 2 rfl))) (Or.inr (Or.inl ⟨by omega, by omega, by omega, by omega⟩)) (by rw [e198]; exact (fz_up_o (by decide)).trans (hf178 21 4 rfl)) (by rw [e198, fz_up_ne (by decide)]; exact (funext fun s => hf178 22 s rfl)) (by rw [e198, fz_up_ne (by decide)]; exact (funext fun s => hf178 23 s rfl)) | exact fl_O_par (k := 5) f12 f24 (by omega) (by omega) (by omega) (by omega) (hf34 20 4 rfl) (hf34 21 4 rfl) (funext fun s => hf34 22 s rfl) (funext fun s => hf34 23 s rfl) (fl_gC_e (funext fun s => hf34 26 s rfl) (hf34 20 2 rfl)) f156 (fl_gC_e (funext fun s => (hf153 26 s rfl).trans (hf34 26 s rfl)) ((hf153 20 2 rfl).trans (hf34 20 2 rfl))) (Or.inr (Or.inr ⟨by omega, by omega, by omega, by omega⟩)) (by rw [e198]; exact (fz_up_o (by decide)).trans (hf178 21 4 rfl)) (by rw [e198, fz_up_ne (by decide)]; exact (funext fun s => hf178 22 s rfl)) (by rw [e198, fz_up_ne (by decide)]; exact (funext fun s => hf178 23 s rfl)) | exact fl_O_par (k := 5) f12 f24 (by omega) (by omega) (by omega) (by omega) (hf34 20 4 rfl) (hf34 21 4 rfl) (funext fun s => hf34 22 s rfl) (funext fun s => hf34 23 s rfl) (fl_gC_e (funext fun s => hf34 26 s rfl) (hf34 20 2 rfl)) f156 (fl_gC_e (funext fun s => (hf153 26 s rfl).trans (hf34 26 s rfl)) ((hf153 20 2 rfl).trans (hf34 20 2 rfl))) (Or.inl ⟨by omega, by omega, by omega⟩) (by rw [e198]; exact fz_up_o (by decide)) (by rw [e198]; exact fz_up_ne (by decide)) (by rw [e198]; exact fz_up_ne (by decide)) | exact fl_O_f0 f12 f24 (by omega) (by omega) (Or.inr ⟨by omega, by omega, by omega⟩) (by omega) (by omega))⟩
      · exfalso; omega
    · refine fz_aload_n kX5_readO rfl rfl ?_
      refine fz_dup rfl kX5_readO rfl ?_
      refine fz_getV (v := h 20 3) kX5_readO rfl rfl rfl ?_
      have b203 : 0 ≤ h 20 3 ∧ h 20 3 ≤ 120 := hI.1 20 _
      refine fz_iconst ⟨by decide, by decide⟩ kX5_readO rfl ?_
      refine fz_iaddN kX5_readO rfl (by omega) ?_
      refine fz_putI kX5_readO rfl rfl rfl ?_
      refine fz_nmu (S := [(20, 3), (20, 4), (21, 4), (22, 99999), (23, 99999)]) (h0 := h) (fz_Iv_up hI (by decide) (show (0 : Int) ≤ ((h 20 3) + 1) by omega) (show (((h 20 3) + 1) : Int) ≤ 120 by omega)) (fz_fr_up hf rfl) (fun H204 hI205 hf206 e207 => ?_)
      have k208 : H204 20 4 = (h 20 4) := by rw [e207]; exact (fz_up_s (by decide)).trans rfl
      have k209 : H204 21 4 = (h 21 4) := by rw [e207]; exact (fz_up_o (by decide)).trans rfl
      have k210 : H204 20 3 = ((h 20 3) + 1) := by rw [e207]; exact fz_up_e
      have t211 : H204 20 4 = h 20 4 := by rw [e207]; exact fz_up_s (by decide)
      have t212 : H204 21 4 = h 21 4 := by rw [e207]; exact fz_up_o (by decide)
      refine fz_aload_n kX5_readO rfl rfl ?_
      refine fz_getR (t := 21) kX5_readO rfl rfl ?_
      refine fz_bipush ⟨by decide, by decide⟩ kX5_readO rfl ?_
      refine fz_iload_n kX5_readO rfl rfl ?_
      have b213 : 0 ≤ H204 21 4 ∧ H204 21 4 ≤ 128 := hI205.1 21 _
      refine fz_callV (d' := 0) (M' := mX3_add) (As := [fz_i 64, fz_i y25]) (st := []) kX5_readO rfl rfl vX3_add rfl rfl rfl rfl (Nat.le_of_ble_eq_true rfl) (Nat.le_of_ble_eq_true rfl) (by decide) (sX3_add H204 hI205 64 y25 ) (fun H214 r215 q216 o217 => ?_)
      obtain ⟨hI218, hf219, y223, rfl, f220, f221, f222⟩ := q216
      clear o217
      have hf224 := fz_fr_tr hf206 hf219 (show fz_su [(21, 4), (22, 99999), (23, 99999)] [(20, 3), (20, 4), (21, 4), (22, 99999), (23, 99999)] = true from rfl)
      have k225 : H214 20 4 = (h 20 4) := (hf219 20 4 rfl).trans k208
      have k226 : H214 20 3 = ((h 20 3) + 1) := (hf219 20 3 rfl).trans k210
      have t227 : H214 20 3 = H204 20 3 := hf219 20 3 rfl
      have t228 : H214 20 4 = H204 20 4 := hf219 20 4 rfl
      refine fz_pop rfl kX5_readO rfl ?_
      refine fz_goto (tgt := 180) kX5_readO rfl (by decide) ?_
      exact fz_vret kX5_readO rfl rfl ⟨hI218, hf224, rfl, (by omega), (by omega), (by first | exact fl_O_num f12 ⟨by omega, by omega⟩ lost (lost 20 4 rfl) | exact fl_O_nam f12 f24 (by omega) (by omega) e207 rfl f222 (by omega) (hf219 20 3 rfl) (hf219 20 4 rfl) | exact fl_O_un (k := 5) f12 f24 (by omega) (by omega) (Or.inr ⟨by omega, rfl, rfl⟩) (by omega) (by omega) (by omega) (funext fun s => (lost 22 s rfl).trans ((lost 22 s rfl).trans (lost 22 s rfl))) (funext fun s => (lost 23 s rfl).trans ((lost 23 s rfl).trans (lost 23 s rfl))) (by omega) (fl_gC_e (funext fun s => (lost 26 s rfl).trans ((lost 26 s rfl).trans (lost 26 s rfl))) ((lost 20 2 rfl).trans ((lost 20 2 rfl).trans (lost 20 2 rfl)))) lost f222 (by omega) (lost 20 3 rfl) (lost 20 4 rfl) | exact fl_O_un (k := 5) f12 f24 (by omega) (by omega) (Or.inl ⟨by omega, rfl, rfl⟩) (by omega) (by omega) (by omega) (funext fun s => (lost 22 s rfl).trans (lost 22 s rfl)) (funext fun s => (lost 23 s rfl).trans (lost 23 s rfl)) (by omega) (fl_gC_e (funext fun s => (lost 26 s rfl).trans (lost 26 s rfl)) ((lost 20 2 rfl).trans (lost 20 2 rfl))) lost f222 (by omega) (lost 20 3 rfl) (lost 20 4 rfl) | exact fl_O_par (k := 5) f12 f24 (by omega) (by omega) (by omega) (by omega) (lost 20 4 rfl) (lost 21 4 rfl) (funext fun s => lost 22 s rfl) (funext fun s => lost 23 s rfl) (fl_gC_e (funext fun s => lost 26 s rfl) (lost 20 2 rfl)) lost (fl_gC_e (funext fun s => (lost 26 s rfl).trans (lost 26 s rfl)) ((lost 20 2 rfl).trans (lost 20 2 rfl))) (Or.inr (Or.inl ⟨by omega, by omega, by omega, by omega⟩)) (by rw [lost]; exact (fz_up_o (by decide)).trans (lost 21 4 rfl)) (by rw [lost, fz_up_ne (by decide)]; exact (funext fun s => lost 22 s rfl)) (by rw [lost, fz_up_ne (by decide)]; exact (funext fun s => lost 23 s rfl)) | exact fl_O_par (k := 5) f12 f24 (by omega) (by omega) (by omega) (by omega) (lost 20 4 rfl) (lost 21 4 rfl) (funext fun s => lost 22 s rfl) (funext fun s => lost 23 s rfl) (fl_gC_e (funext fun s => lost 26 s rfl) (lost 20 2 rfl)) lost (fl_gC_e (funext fun s => (lost 26 s rfl).trans (lost 26 s rfl)) ((lost 20 2 rfl).trans (lost 20 2 rfl))) (Or.inr (Or.inr ⟨by omega, by omega, by omega, by omega⟩)) (by rw [lost]; exact (fz_up_o (by decide)).trans (lost 21 4 rfl)) (by rw [lost, fz_up_ne (by decide)]; exact (funext fun s => lost 22 s rfl)) (by rw [lost, fz_up_ne (by decide)]; exact (funext fun s => lost 23 s rfl)) | exact fl_O_par (k := 5) f12 f24 (by omega) (by omega) (by omega) (by omega) (lost 20 4 rfl) (lost 21 4 rfl) (funext fun s => lost 22 s rfl) (funext fun s => lost 23 s rfl) (fl_gC_e (funext fun s => lost 26 s rfl) (lost 20 2 rfl)) lost (fl_gC_e (funext fun s => (lost 26 s rfl).trans (lost 26 s rfl)) ((lost 20 2 rfl).trans (lost 20 2 rfl))) (Or.inl ⟨by omega, by omega, by omega⟩) (by rw [lost]; exact fz_up_o (by decide)) (by rw [lost]; exact fz_up_ne (by decide)) (by rw [lost]; exact fz_up_ne (by decide)) | exact fl_O_f0 f12 f24 (by omega) (by omega) (Or.inr ⟨by omega, by omega, by omega⟩) (by omega) (by omega))⟩
  · refine fz_iload_n kX5_readO rfl rfl ?_
    refine fz_bipush ⟨by decide, by decide⟩ kX5_readO rfl ?_
    refine fz_icmp_gt (tgt := 29) kX5_readO rfl (by decide) (fun c230 => ?_) (fun c230 => ?_)
    · refine fz_iload_n kX5_readO rfl rfl ?_
      refine fz_if_lt (tgt := 57) kX5_readO rfl (by decide) (fun c231 => ?_) (fun c231 => ?_)
      · refine fz_iload_n kX5_readO rfl rfl ?_
        refine fz_bipush ⟨by decide, by decide⟩ kX5_readO rfl ?_
        refine fz_icmp_lt (tgt := 71) kX5_readO rfl (by decide) (fun c232 => ?_) (fun c232 => ?_)
        · refine fz_aload_n kX5_readO rfl rfl ?_
          refine fz_bipush ⟨by decide, by decide⟩ kX5_readO rfl ?_
          refine fz_callV (d' := 1) (M' := mX5_goesOnWith) (As := [fz_i 40]) (st := []) kX5_readO rfl rfl vX5_goesOnWith rfl rfl rfl rfl (Nat.le_of_ble_eq_true rfl) (Nat.le_of_ble_eq_true rfl) (by decide) (sX5_goesOnWith h hI 40 (by omega)) (fun H233 r234 q235 o236 => ?_)
          obtain ⟨hI237, hf238, y240, rfl, p241, f239⟩ := q235
          clear o236
          have hf242 := fz_fr_tr hf hf238 (show fz_su [(20, 3)] [(20, 3), (20, 4), (21, 4), (22, 99999), (23, 99999)] = true from rfl)
          have k243 : H233 20 4 = (h 20 4) := (hf238 20 4 rfl).trans rfl
          have k244 : H233 21 4 = (h 21 4) := (hf238 21 4 rfl).trans rfl
          have t245 : H233 20 4 = h 20 4 := hf238 20 4 rfl
          have t246 : H233 21 4 = h 21 4 := hf238 21 4 rfl
          refine fz_if_eq (tgt := 115) kX5_readO rfl (by decide) (fun c247 => ?_) (fun c247 => ?_)
          · refine fz_aload_n kX5_readO rfl rfl ?_
            refine fz_bipush ⟨by decide, by decide⟩ kX5_readO rfl ?_
            have b248 : 0 ≤ H233 20 3 ∧ H233 20 3 ≤ 120 := hI237.1 20 _
            have e249 : H233 20 2 = h 20 2 := hf242 20 2 rfl
            refine fz_callV (d' := 1) (M' := mX5_goesOnWith) (As := [fz_i 33]) (st := []) kX5_readO rfl rfl vX5_goesOnWith rfl rfl rfl rfl (Nat.le_of_ble_eq_true rfl) (Nat.le_of_ble_eq_true rfl) (by decide) (sX5_goesOnWith H233 hI237 33 (by omega)) (fun H250 r251 q252 o253 => ?_)
            obtain ⟨hI254, hf255, y257, rfl, p258, f256⟩ := q252
            clear o253
            have hf259 := fz_fr_tr hf242 hf255 (show fz_su [(20, 3)] [(20, 3), (20, 4), (21, 4), (22, 99999), (23, 99999)] = true from rfl)
            have k260 : H250 20 4 = (h 20 4) := (hf255 20 4 rfl).trans k243
            have k261 : H250 21 4 = (h 21 4) := (hf255 21 4 rfl).trans k244
            have t262 : H250 20 4 = H233 20 4 := hf255 20 4 rfl
            have t263 : H250 21 4 = H233 21 4 := hf255 21 4 rfl
            refine fz_if_eq (tgt := 145) kX5_readO rfl (by decide) (fun c264 => ?_) (fun c264 => ?_)
            · refine fz_aload_n kX5_readO rfl rfl ?_
              refine fz_bipush ⟨by decide, by decide⟩ kX5_readO rfl ?_
              have b265 : 0 ≤ H250 20 3 ∧ H250 20 3 ≤ 120 := hI254.1 20 _
              have e266 : H250 20 2 = h 20 2 := hf259 20 2 rfl
              refine fz_callV (d' := 1) (M' := mX5_goesOnWith) (As := [fz_i 45]) (st := []) kX5_readO rfl rfl vX5_goesOnWith rfl rfl rfl rfl (Nat.le_of_ble_eq_true rfl) (Nat.le_of_ble_eq_true rfl) (by decide) (sX5_goesOnWith H250 hI254 45 (by omega)) (fun H267 r268 q269 o270 => ?_)
              obtain ⟨hI271, hf272, y274, rfl, p275, f273⟩ := q269
              clear o270
              have hf276 := fz_fr_tr hf259 hf272 (show fz_su [(20, 3)] [(20, 3), (20, 4), (21, 4), (22, 99999), (23, 99999)] = true from rfl)
              have k277 : H267 20 4 = (h 20 4) := (hf272 20 4 rfl).trans k260
              have k278 : H267 21 4 = (h 21 4) := (hf272 21 4 rfl).trans k261
              have t279 : H267 20 4 = H250 20 4 := hf272 20 4 rfl
              have t280 : H267 21 4 = H250 21 4 := hf272 21 4 rfl
              refine fz_if_eq (tgt := 175) kX5_readO rfl (by decide) (fun c281 => ?_) (fun c281 => ?_)
              · refine fz_aload_n kX5_readO rfl rfl ?_
                refine fz_iconst ⟨by decide, by decide⟩ kX5_readO rfl ?_
                refine fz_putZ kX5_readO rfl rfl rfl (by omega) ?_
                refine fz_nmu (S := [(20, 3), (20, 4), (21, 4), (22, 99999), (23, 99999)]) (h0 := h) (fz_Iv_up hI271 (by decide) (show (0 : Int) ≤ 1 by decide) (show (1 : Int) ≤ 1 by decide)) (fz_fr_up hf276 rfl) (fun H282 hI283 hf284 e285 => ?_)
                have k286 : H282 21 4 = (h 21 4) := by rw [e285]; exact (fz_up_o (by decide)).trans k278
                have k287 : H282 20 4 = 1 := by rw [e285]; exact fz_up_e
                have t288 : H282 20 3 = H267 20 3 := by rw [e285]; exact fz_up_s (by decide)
                have t289 : H282 21 4 = H267 21 4 := by rw [e285]; exact fz_up_o (by decide)
                exact fz_vret kX5_readO rfl rfl ⟨hI283, hf284, rfl, (by omega), (by omega), (by first | exact fl_O_num f12 ⟨by omega, by omega⟩ lost (lost 20 4 rfl) | exact fl_O_nam f12 f24 (by omega) (by omega) lost rfl lost (by omega) (lost 20 3 rfl) (lost 20 4 rfl) | exact fl_O_un (k := 5) f12 f24 (by omega) (by omega) (Or.inr ⟨by omega, rfl, rfl⟩) (by omega) (by omega) (by omega) (funext fun s => (hf272 22 s rfl).trans ((hf255 22 s rfl).trans (hf238 22 s rfl))) (funext fun s => (hf272 23 s rfl).trans ((hf255 23 s rfl).trans (hf238 23 s rfl))) (by omega) (fl_gC_e (funext fun s => (hf272 26 s rfl).trans ((hf255 26 s rfl).trans (hf238 26 s rfl))) ((hf272 20 2 rfl).trans ((hf255 20 2 rfl).trans (hf238 20 2 rfl)))) lost lost (by omega) (lost 20 3 rfl) (lost 20 4 rfl) | exact fl_O_un (k := 5) f12 f24 (by omega) (by omega) (Or.inl ⟨by omega, rfl, rfl⟩) (by omega) (by omega) (by omega) (funext fun s => (hf255 22 s rfl).trans (hf238 22 s rfl)) (funext fun s => (hf255 23 s rfl).trans (hf238 23 s rfl)) (by omega) (fl_gC_e (funext fun s => (hf255 26 s rfl).trans (hf238 26 s rfl)) ((hf255 20 2 rfl).trans (hf238 20 2 rfl))) lost lost (by omega) (lost 20 3 rfl) (lost 20 4 rfl) | exact fl_O_par (k := 5) f12 f24 (by omega) (by omega) (by omega) (by omega) (hf238 20 4 rfl) (hf238 21 4 rfl) (funext fun s => hf238 22 s rfl) (funext fun s => hf238 23 s rfl) (fl_gC_e (funext fun s => hf238 26 s rfl) (hf238 20 2 rfl)) lost (fl_gC_e (funext fun s => (lost 26 s rfl).trans (hf238 26 s rfl)) ((lost 20 2 rfl).trans (hf238 20 2 rfl))) (Or.inr (Or.inl ⟨by omega, by omega, by omega, by omega⟩)) (by rw [lost]; exact (fz_up_o (by decide)).trans (lost 21 4 rfl)) (by rw [lost, fz_up_ne (by decide)]; exact (funext fun s => lost 22 s rfl)) (by rw [lost, fz_up_ne (by decide)]; exact (funext fun s => lost 23 s rfl)) | exact fl_O_par (k := 5) f12 f24 (by omega) (by omega) (by omega) (by omega) (hf238 20 4 rfl) (hf238 21 4 rfl) (funext fun s => hf238 22 s rfl) (funext fun s => hf238 23 s rfl) (fl_gC_e (funext fun s => hf238 26 s rfl) (hf238 20 2 rfl)) lost (fl_gC_e (funext fun s => (lost 26 s rfl).trans (hf238 26 s rfl)) ((lost 20 2 rfl).trans (hf238 20 2 rfl))) (Or.inr (Or.inr ⟨by omega, by omega, by omega, by omega⟩)) (by rw [lost]; exact (fz_up_o (by decide)).trans (lost 21 4 rfl)) (by rw [lost, fz_up_ne (by decide)]; exact (funext fun s => lost 22 s rfl)) (by rw [lost, fz_up_ne (by decide)]; exact (funext fun s => lost 23 s rfl)) | exact fl_O_par (k := 5) f12 f24 (by omega) (by omega) (by omega) (by omega) (hf238 20 4 rfl) (hf238 21 4 rfl) (funext fun s => hf238 22 s rfl) (funext fun s => hf238 23 s rfl) (fl_gC_e (funext fun s => hf238 26 s rfl) (hf238 20 2 rfl)) lost (fl_gC_e (funext fun s => (lost 26 s rfl).trans (hf238 26 s rfl)) ((lost 20 2 rfl).trans (hf238 20 2 rfl))) (Or.inl ⟨by omega, by omega, by omega⟩) (by rw [lost]; exact fz_up_o (by decide)) (by rw [lost]; exact fz_up_ne (by decide)) (by rw [lost]; exact fz_up_ne (by decide)) | exact fl_O_f0 f12 f24 (by omega) (by omega) (Or.inr ⟨by omega, by omega, by omega⟩) (by omega) (by omega))⟩
              · refine fz_aload_n kX5_readO rfl rfl ?_
                refine fz_iload_n kX5_readO rfl rfl ?_
                refine fz_iconst ⟨by decide, by decide⟩ kX5_readO rfl ?_
                refine fz_iaddN kX5_readO rfl ⟨by decide, by decide⟩ ?_
                refine fz_eqi (y := 1) rfl ?_
                have b291 : 0 ≤ H267 20 4 ∧ H267 20 4 ≤ 1 := hI271.1 20 _
                have b292 : 0 ≤ H267 21 4 ∧ H267 21 4 ≤ 128 := hI271.1 21 _
                have b293 : 0 ≤ H267 20 3 ∧ H267 20 3 ≤ 120 := hI271.1 20 _
                refine fz_callV (d' := 32) (M' := mX5_readO) (As := [fz_i 1]) (st := []) kX5_readO rfl rfl vX5_readO rfl rfl rfl rfl (Nat.le_of_ble_eq_true rfl) (Nat.le_of_ble_eq_true rfl) (by decide) (sX5_readO_1 H267 hI271  (by omega)) (fun H294 r295 q296 o297 => ?_)
                obtain ⟨hI298, hf299, rfl, f300, f301, f302⟩ := q296
                clear o297
                have hf303 := fz_fr_tr hf276 hf299 (show fz_su [(20, 3), (20, 4), (21, 4), (22, 99999), (23, 99999)] [(20, 3), (20, 4), (21, 4), (22, 99999), (23, 99999)] = true from rfl)
                have k304 : 0 ≤ H294 20 3 ∧ H294 20 3 ≤ 120 := hI298.1 20 _
                refine fz_aload_n kX5_readO rfl rfl ?_
                refine fz_getR (t := 21) kX5_readO rfl rfl ?_
                refine fz_bipush ⟨by decide, by decide⟩ kX5_readO rfl ?_
                refine fz_iconst ⟨by decide, by decide⟩ kX5_readO rfl ?_
                have b305 : 0 ≤ H294 21 4 ∧ H294 21 4 ≤ 128 := hI298.1 21 _
                refine fz_callV (d' := 0) (M' := mX3_add) (As := [fz_i 126, fz_i 0]) (st := []) kX5_readO rfl rfl vX3_add rfl rfl rfl rfl (Nat.le_of_ble_eq_true rfl) (Nat.le_of_ble_eq_true rfl) (by decide) (sX3_add H294 hI298 126 0 ) (fun H306 r307 q308 o309 => ?_)
                obtain ⟨hI310, hf311, y315, rfl, f312, f313, f314⟩ := q308
                clear o309
                have hf316 := fz_fr_tr hf303 hf311 (show fz_su [(21, 4), (22, 99999), (23, 99999)] [(20, 3), (20, 4), (21, 4), (22, 99999), (23, 99999)] = true from rfl)
                have t317 : H306 20 3 = H294 20 3 := hf311 20 3 rfl
                have t318 : H306 20 4 = H294 20 4 := hf311 20 4 rfl
                refine fz_pop rfl kX5_readO rfl ?_
                refine fz_goto (tgt := 180) kX5_readO rfl (by decide) ?_
                exact fz_vret kX5_readO rfl rfl ⟨hI310, hf316, rfl, (by omega), (by omega), (by first | exact fl_O_num f12 ⟨by omega, by omega⟩ lost (lost 20 4 rfl) | exact fl_O_nam f12 f24 (by omega) (by omega) lost rfl f314 (by omega) (lost 20 3 rfl) (lost 20 4 rfl) | exact fl_O_un (k := 5) f12 f24 (by omega) (by omega) (Or.inr ⟨by omega, rfl, rfl⟩) (by omega) (by omega) (by omega) (funext fun s => (hf272 22 s rfl).trans ((hf255 22 s rfl).trans (hf238 22 s rfl))) (funext fun s => (hf272 23 s rfl).trans ((hf255 23 s rfl).trans (hf238 23 s rfl))) (by omega) (fl_gC_e (funext fun s => (hf272 26 s rfl).trans ((hf255 26 s rfl).trans (hf238 26 s rfl))) ((hf272 20 2 rfl).trans ((hf255 20 2 rfl).trans (hf238 20 2 rfl)))) f302 f314 (by omega) (hf311 20 3 rfl) (hf311 20 4 rfl) | exact fl_O_un (k := 5) f12 f24 (by omega) (by omega) (Or.inl ⟨by omega, rfl, rfl⟩) (by omega) (by omega) (by omega) (funext fun s => (hf255 22 s rfl).trans (hf238 22 s rfl)) (funext fun s => (hf255 23 s rfl).trans (hf238 23 s rfl)) (by omega) (fl_gC_e (funext fun s => (hf255 26 s rfl).trans (hf238 26 s rfl)) ((hf255 20 2 rfl).trans (hf238 20 2 rfl))) f302 f314 (by omega) (lost 20 3 rfl) (lost 20 4 rfl) | exact fl_O_par (k := 5) f12 f24 (by omega) (by omega) (by omega) (by omega) (hf238 20 4 rfl) (hf238 21 4 rfl) (funext fun s => hf238 22 s rfl) (funext fun s => hf238 23 s rfl) (fl_gC_e (funext fun s => hf238 26 s rfl) (hf238 20 2 rfl)) f302 (fl_gC_e (funext fun s => (lost 26 s rfl).trans (hf238 26 s rfl)) ((lost 20 2 rfl).trans (hf238 20 2 rfl))) (Or.inr (Or.inl ⟨by omega, by omega, by omega, by omega⟩)) (by rw [lost]; exact (fz_up_o (by decide)).trans (lost 21 4 rfl)) (by rw [lost, fz_up_ne (by decide)]; exact (funext fun s => lost 22 s rfl)) (by rw [lost, fz_up_ne (by decide)]; exact (funext fun s => lost 23 s rfl)) | exact fl_O_par (k := 5) f12 f24 (by omega) (by omega) (by omega) (by omega) (hf238 20 4 rfl) (hf238 21 4 rfl) (funext fun s => hf238 22 s rfl) (funext fun s => hf238 23 s rfl) (fl_gC_e (funext fun s => hf238 26 s rfl) (hf238 20 2 rfl)) f302 (fl_gC_e (funext fun s => (lost 26 s rfl).trans (hf238 26 s rfl)) ((lost 20 2 rfl).trans (hf238 20 2 rfl))) (Or.inr (Or.inr ⟨by omega, by omega, by omega, by omega⟩)) (by rw [lost]; exact (fz_up_o (by decide)).trans (lost 21 4 rfl)) (by rw [lost, fz_up_ne (by decide)]; exact (funext fun s => lost 22 s rfl)) (by rw [lost, fz_up_ne (by decide)]; exact (funext fun s => lost 23 s rfl)) | exact fl_O_par (k := 5) f12 f24 (by omega) (by omega) (by omega) (by omega) (hf238 20 4 rfl) (hf238 21 4 rfl) (funext fun s => hf238 22 s rfl) (funext fun s => hf238 23 s rfl) (fl_gC_e (funext fun s => hf238 26 s rfl) (hf238 20 2 rfl)) f302 (fl_gC_e (funext fun s => (lost 26 s rfl).trans (hf238 26 s rfl)) ((lost 20 2 rfl).trans (hf238 20 2 rfl))) (Or.inl ⟨by omega, by omega, by omega⟩) (by rw [lost]; exact fz_up_o (by decide)) (by rw [lost]; exact fz_up_ne (by decide)) (by rw [lost]; exact fz_up_ne (by decide)) | exact fl_O_f0 f12 f24 (by omega) (by omega) (Or.inr ⟨by omega, by omega, by omega⟩) (by omega) (by omega))⟩
            · refine fz_aload_n kX5_readO rfl rfl ?_
              refine fz_iload_n kX5_readO rfl rfl ?_
              refine fz_iconst ⟨by decide, by decide⟩ kX5_readO rfl ?_
              refine fz_iaddN kX5_readO rfl ⟨by decide, by decide⟩ ?_
              refine fz_eqi (y := 1) rfl ?_
              have b320 : 0 ≤ H250 20 4 ∧ H250 20 4 ≤ 1 := hI254.1 20 _
              have b321 : 0 ≤ H250 21 4 ∧ H250 21 4 ≤ 128 := hI254.1 21 _
              have b322 : 0 ≤ H250 20 3 ∧ H250 20 3 ≤ 120 := hI254.1 20 _
              refine fz_callV (d' := 32) (M' := mX5_readO) (As := [fz_i 1]) (st := []) kX5_readO rfl rfl vX5_readO rfl rfl rfl rfl (Nat.le_of_ble_eq_true rfl) (Nat.le_of_ble_eq_true rfl) (by decide) (sX5_readO_1 H250 hI254  (by omega)) (fun H323 r324 q325 o326 => ?_)
              obtain ⟨hI327, hf328, rfl, f329, f330, f331⟩ := q325
              clear o326
              have hf332 := fz_fr_tr hf259 hf328 (show fz_su [(20, 3), (20, 4), (21, 4), (22, 99999), (23, 99999)] [(20, 3), (20, 4), (21, 4), (22, 99999), (23, 99999)] = true from rfl)
              have k333 : 0 ≤ H323 20 3 ∧ H323 20 3 ≤ 120 := hI327.1 20 _
              refine fz_aload_n kX5_readO rfl rfl ?_
              refine fz_getR (t := 21) kX5_readO rfl rfl ?_
              refine fz_bipush ⟨by decide, by decide⟩ kX5_readO rfl ?_
              refine fz_iconst ⟨by decide, by decide⟩ kX5_readO rfl ?_
              have b334 : 0 ≤ H323 21 4 ∧ H323 21 4 ≤ 128 := hI327.1 21 _
              refine fz_callV (d' := 0) (M' := mX3_add) (As := [fz_i 33, fz_i 0]) (st := []) kX5_readO rfl rfl vX3_add rfl rfl rfl rfl (Nat.le_of_ble_eq_true rfl) (Nat.le_of_ble_eq_true rfl) (by decide) (sX3_add H323 hI327 33 0 ) (fun H335 r336 q337 o338 => ?_)
              obtain ⟨hI339, hf340, y344, rfl, f341, f342, f343⟩ := q337
              clear o338
              have hf345 := fz_fr_tr hf332 hf340 (show fz_su [(21, 4), (22, 99999), (23, 99999)] [(20, 3), (20, 4), (21, 4), (22, 99999), (23, 99999)] = true from rfl)
              have t346 : H335 20 3 = H323 20 3 := hf340 20 3 rfl
              have t347 : H335 20 4 = H323 20 4 := hf340 20 4 rfl
              refine fz_pop rfl kX5_readO rfl ?_
              refine fz_goto (tgt := 180) kX5_readO rfl (by decide) ?_
              exact fz_vret kX5_readO rfl rfl ⟨hI339, hf345, rfl, (by omega), (by omega), (by first | exact fl_O_num f12 ⟨by omega, by omega⟩ lost (lost 20 4 rfl) | exact fl_O_nam f12 f24 (by omega) (by omega) lost rfl f343 (by omega) (lost 20 3 rfl) (lost 20 4 rfl) | exact fl_O_un (k := 5) f12 f24 (by omega) (by omega) (Or.inr ⟨by omega, rfl, rfl⟩) (by omega) (by omega) (by omega) (funext fun s => (lost 22 s rfl).trans ((hf255 22 s rfl).trans (hf238 22 s rfl))) (funext fun s => (lost 23 s rfl).trans ((hf255 23 s rfl).trans (hf238 23 s rfl))) (by omega) (fl_gC_e (funext fun s => (lost 26 s rfl).trans ((hf255 26 s rfl).trans (hf238 26 s rfl))) ((lost 20 2 rfl).trans ((hf255 20 2 rfl).trans (hf238 20 2 rfl)))) f331 f343 (by omega) (lost 20 3 rfl) (lost 20 4 rfl) | exact fl_O_un (k := 5) f12 f24 (by omega) (by omega) (Or.inl ⟨by omega, rfl, rfl⟩) (by omega) (by omega) (by omega) (funext fun s => (hf255 22 s rfl).trans (hf238 22 s rfl)) (funext fun s => (hf255 23 s rfl).trans (hf238 23 s rfl)) (by omega) (fl_gC_e (funext fun s => (hf255 26 s rfl).trans (hf238 26 s rfl)) ((hf255 20 2 rfl).trans (hf238 20 2 rfl))) f331 f343 (by omega) (hf340 20 3 rfl) (hf340 20 4 rfl) | exact fl_O_par (k := 5) f12 f24 (by omega) (by omega) (by omega) (by omega) (hf238 20 4 rfl) (hf238 21 4 rfl) (funext fun s => hf238 22 s rfl) (funext fun s => hf238 23 s rfl) (fl_gC_e (funext fun s => hf238 26 s rfl) (hf238 20 2 rfl)) f331 (fl_gC_e (funext fun s => (lost 26 s rfl).trans (hf238 26 s rfl)) ((lost 20 2 rfl).trans (hf238 20 2 rfl))) (Or.inr (Or.inl ⟨by omega, by omega, by omega, by omega⟩)) (by rw [lost]; exact (fz_up_o (by decide)).trans (lost 21 4 rfl)) (by rw [lost, fz_up_ne (by decide)]; exact (funext fun s => lost 22 s rfl)) (by rw [lost, fz_up_ne (by decide)]; exact (funext fun s => lost 23 s rfl)) | exact fl_O_par (k := 5) f12 f24 (by omega) (by omega) (by omega) (by omega) (hf238 20 4 rfl) (hf238 21 4 rfl) (funext fun s => hf238 22 s rfl) (funext fun s => hf238 23 s rfl) (fl_gC_e (funext fun s => hf238 26 s rfl) (hf238 20 2 rfl)) f331 (fl_gC_e (funext fun s => (lost 26 s rfl).trans (hf238 26 s rfl)) ((lost 20 2 rfl).trans (hf238 20 2 rfl))) (Or.inr (Or.inr ⟨by omega, by omega, by omega, by omega⟩)) (by rw [lost]; exact (fz_up_o (by decide)).trans (lost 21 4 rfl)) (by rw [lost, fz_up_ne (by decide)]; exact (funext fun s => lost 22 s rfl)) (by rw [lost, fz_up_ne (by decide)]; exact (funext fun s => lost 23 s rfl)) | exact fl_O_par (k := 5) f12 f24 (by omega) (by omega) (by omega) (by omega) (hf238 20 4 rfl) (hf238 21 4 rfl) (funext fun s => hf238 22 s rfl) (funext fun s => hf238 23 s rfl) (fl_gC_e (funext fun s => hf238 26 s rfl) (hf238 20 2 rfl)) f331 (fl_gC_e (funext fun s => (lost 26 s rfl).trans (hf238 26 s rfl)) ((lost 20 2 rfl).trans (hf238 20 2 rfl))) (Or.inl ⟨by omega, by omega, by omega⟩) (by rw [lost]; exact fz_up_o (by decide)) (by rw [lost]; exact fz_up_ne (by decide)) (by rw [lost]; exact fz_up_ne (by decide)) | exact fl_O_f0 f12 f24 (by omega) (by omega) (Or.inr ⟨by omega, by omega, by omega⟩) (by omega) (by omega))⟩
          · refine fz_aload_n kX5_readO rfl rfl ?_
            refine fz_iload_n kX5_readO rfl rfl ?_
            refine fz_iconst ⟨by decide, by decide⟩ kX5_readO rfl ?_
            refine fz_iaddN kX5_readO rfl ⟨by decide, by decide⟩ ?_
            refine fz_eqi (y := 1) rfl ?_
            have b349 : 0 ≤ H233 20 4 ∧ H233 20 4 ≤ 1 := hI237.1 20 _
            have b350 : 0 ≤ H233 21 4 ∧ H233 21 4 ≤ 128 := hI237.1 21 _
            have b351 : 0 ≤ H233 20 3 ∧ H233 20 3 ≤ 120 := hI237.1 20 _
            refine fz_callV (d' := 37) (M' := mX5_readE) (As := [fz_i 1]) (st := []) kX5_readO rfl rfl vX5_readE rfl rfl rfl rfl (Nat.le_of_ble_eq_true rfl) (Nat.le_of_ble_eq_true rfl) (by decide) (sX5_readE_1 H233 hI237  (by omega)) (fun H352 r353 q354 o355 => ?_)
            obtain ⟨hI356, hf357, rfl, f358, f359, f360⟩ := q354
            clear o355
            have hf361 := fz_fr_tr hf242 hf357 (show fz_su [(20, 3), (20, 4), (21, 4), (22, 99999), (23, 99999)] [(20, 3), (20, 4), (21, 4), (22, 99999), (23, 99999)] = true from rfl)
            refine fz_aload_n kX5_readO rfl rfl ?_
            refine fz_aload_n kX5_readO rfl rfl ?_
            have k362 : 0 ≤ H352 20 4 ∧ H352 20 4 ≤ 1 := hI356.1 20 _
            obtain ⟨v363, e364⟩ : ∃ z, H352 20 (4) = z := ⟨_, rfl⟩
            refine fz_getV (v := v363) kX5_readO rfl rfl e364 ?_
            have b365 : 0 ≤ v363 ∧ v363 ≤ 1 := by rw [← e364]; exact hI356.1 20 _
            refine fz_if_ne (tgt := 104) kX5_readO rfl (by decide) (fun c366 => ?_) (fun c366 => ?_)
            · refine fz_iconst ⟨by decide, by decide⟩ kX5_readO rfl ?_
              refine fz_goto (tgt := 109) kX5_readO rfl (by decide) ?_
              refine fz_putZ kX5_readO rfl rfl rfl (by omega) ?_
              refine fz_nmu (S := [(20, 3), (20, 4), (21, 4), (22, 99999), (23, 99999)]) (h0 := h) (fz_Iv_up hI356 (by decide) (show (0 : Int) ≤ 1 by decide) (show (1 : Int) ≤ 1 by decide)) (fz_fr_up hf361 rfl) (fun H367 hI368 hf369 e370 => ?_)
              have k371 : H367 20 4 = 1 := by rw [e370]; exact fz_up_e
              have t372 : H367 20 3 = H352 20 3 := by rw [e370]; exact fz_up_s (by decide)
              have t373 : H367 21 4 = H352 21 4 := by rw [e370]; exact fz_up_o (by decide)
              refine fz_goto (tgt := 180) kX5_readO rfl (by decide) ?_
              exact fz_vret kX5_readO rfl rfl ⟨hI368, hf369, rfl, (by omega), (by omega), (by first | exact fl_O_num f12 ⟨by omega, by omega⟩ lost (lost 20 4 rfl) | exact fl_O_nam f12 f24 (by omega) (by omega) lost rfl lost (by omega) (lost 20 3 rfl) (lost 20 4 rfl) | exact fl_O_un (k := 5) f12 f24 (by omega) (by omega) (Or.inr ⟨by omega, rfl, rfl⟩) (by omega) (by omega) (by omega) (funext fun s => (lost 22 s rfl).trans ((lost 22 s rfl).trans (hf238 22 s rfl))) (funext fun s => (lost 23 s rfl).trans ((lost 23 s rfl).trans (hf238 23 s rfl))) (by omega) (fl_gC_e (funext fun s => (lost 26 s rfl).trans ((lost 26 s rfl).trans (hf238 26 s rfl))) ((lost 20 2 rfl).trans ((lost 20 2 rfl).trans (hf238 20 2 rfl)))) f360 lost (by omega) (lost 20 3 rfl) (lost 20 4 rfl) | exact fl_O_un (k := 5) f12 f24 (by omega) (by omega) (Or.inl ⟨by omega, rfl, rfl⟩) (by omega) (by omega) (by omega) (funext fun s => (lost 22 s rfl).trans (hf238 22 s rfl)) (funext fun s => (lost 23 s rfl).trans (hf238 23 s rfl)) (by omega) (fl_gC_e (funext fun s => (lost 26 s rfl).trans (hf238 26 s rfl)) ((lost 20 2 rfl).trans (hf238 20 2 rfl))) f360 lost (by omega) (lost 20 3 rfl) (lost 20 4 rfl) | exact fl_O_par (k := 5) f12 f24 (by omega) (by omega) (by omega) (by omega) (hf238 20 4 rfl) (hf238 21 4 rfl) (funext fun s => hf238 22 s rfl) (funext fun s => hf238 23 s rfl) (fl_gC_e (funext fun s => hf238 26 s rfl) (hf238 20 2 rfl)) f360 (fl_gC_e (funext fun s => (hf357 26 s rfl).trans (hf238 26 s rfl)) ((hf357 20 2 rfl).trans (hf238 20 2 rfl))) (Or.inr (Or.inl ⟨by omega, by omega, by omega, by omega⟩)) (by rw [e370]; exact (fz_up_o (by decide)).trans (lost 21 4 rfl)) (by rw [e370, fz_up_ne (by decide)]; exact (funext fun s => lost 22 s rfl)) (by rw [e370, fz_up_ne (by decide)]; exact (funext fun s => lost 23 s rfl)) | exact fl_O_par (k := 5) f12 f24 (by omega) (by omega) (by omega) (by omega) (hf238 20 4 rfl) (hf238 21 4 rfl) (funext fun s => hf238 22 s rfl) (funext fun s => hf238 23 s rfl) (fl_gC_e (funext fun s => hf238 26 s rfl) (hf238 20 2 rfl)) f360 (fl_gC_e (funext fun s => (hf357 26 s rfl).trans (hf238 26 s rfl)) ((hf357 20 2 rfl).trans (hf238 20 2 rfl))) (Or.inr (Or.inr ⟨by omega, by omega, by omega, by omega⟩)) (by rw [e370]; exact (fz_up_o (by decide)).trans (lost 21 4 rfl)) (by rw [e370, fz_up_ne (by decide)]; exact (funext fun s => lost 22 s rfl)) (by rw [e370, fz_up_ne (by decide)]; exact (funext fun s => lost 23 s rfl)) | exact fl_O_par (k := 5) f12 f24 (by omega) (by omega) (by omega) (by omega) (hf238 20 4 rfl) (hf238 21 4 rfl) (funext fun s => hf238 22 s rfl) (funext fun s => hf238 23 s rfl) (fl_gC_e (funext fun s => hf238 26 s rfl) (hf238 20 2 rfl)) f360 (fl_gC_e (funext fun s => (hf357 26 s rfl).trans (hf238 26 s rfl)) ((hf357 20 2 rfl).trans (hf238 20 2 rfl))) (Or.inl ⟨by omega, by omega, by omega⟩) (by rw [e370]; exact fz_up_o (by decide)) (by rw [e370]; exact fz_up_ne (by decide)) (by rw [e370]; exact fz_up_ne (by decide)) | exact fl_O_f0 f12 f24 (by omega) (by omega) (Or.inr ⟨by omega, by omega, by omega⟩) (by omega) (by omega))⟩
            · refine fz_aload_n kX5_readO rfl rfl ?_
              refine fz_bipush ⟨by decide, by decide⟩ kX5_readO rfl ?_
              have b375 : 0 ≤ H352 20 3 ∧ H352 20 3 ≤ 120 := hI356.1 20 _
              have e376 : H352 20 2 = h 20 2 := hf361 20 2 rfl
              refine fz_callV (d' := 1) (M' := mX5_goesOnWith) (As := [fz_i 41]) (st := [fz_r 20]) kX5_readO rfl rfl vX5_goesOnWith rfl rfl rfl rfl (Nat.le_of_ble_eq_true rfl) (Nat.le_of_ble_eq_true rfl) (by decide) (sX5_goesOnWith H352 hI356 41 (by omega)) (fun H377 r378 q379 o380 => ?_)
              obtain ⟨hI381, hf382, y384, rfl, p385, f383⟩ := q379
              clear o380
              have hf386 := fz_fr_tr hf361 hf382 (show fz_su [(20, 3)] [(20, 3), (20, 4), (21, 4), (22, 99999), (23, 99999)] = true from rfl)
              have k387 : H377 20 4 = v363 := (hf382 20 4 rfl).trans e364
              have t388 : H377 20 4 = H352 20 4 := hf382 20 4 rfl
              have t389 : H377 21 4 = H352 21 4 := hf382 21 4 rfl
              refine fz_if_ne (tgt := 108) kX5_readO rfl (by decide) (fun c390 => ?_) (fun c390 => ?_)
              · refine fz_iconst ⟨by decide, by decide⟩ kX5_readO rfl ?_
                refine fz_putZ kX5_readO rfl rfl rfl (by omega) ?_
                refine fz_nmu (S := [(20, 3), (20, 4), (21, 4), (22, 99999), (23, 99999)]) (h0 := h) (fz_Iv_up hI381 (by decide) (show (0 : Int) ≤ 0 by decide) (show (0 : Int) ≤ 1 by decide)) (fz_fr_up hf386 rfl) (fun H391 hI392 hf393 e394 => ?_)
                have k395 : H391 20 4 = 0 := by rw [e394]; exact fz_up_e
                have t396 : H391 20 3 = H377 20 3 := by rw [e394]; exact fz_up_s (by decide)
                have t397 : H391 21 4 = H377 21 4 := by rw [e394]; exact fz_up_o (by decide)
                refine fz_goto (tgt := 180) kX5_readO rfl (by decide) ?_
                exact fz_vret kX5_readO rfl rfl ⟨hI392, hf393, rfl, (by omega), (by omega), (by first | exact fl_O_num f12 ⟨by omega, by omega⟩ lost (lost 20 4 rfl) | exact fl_O_nam f12 f24 (by omega) (by omega) lost rfl lost (by omega) (lost 20 3 rfl) (lost 20 4 rfl) | exact fl_O_un (k := 5) f12 f24 (by omega) (by omega) (Or.inr ⟨by omega, rfl, rfl⟩) (by omega) (by omega) (by omega) (funext fun s => (lost 22 s rfl).trans ((lost 22 s rfl).trans (hf238 22 s rfl))) (funext fun s => (lost 23 s rfl).trans ((lost 23 s rfl).trans (hf238 23 s rfl))) (by omega) (fl_gC_e (funext fun s => (lost 26 s rfl).trans ((lost 26 s rfl).trans (hf238 26 s rfl))) ((lost 20 2 rfl).trans ((lost 20 2 rfl).trans (hf238 20 2 rfl)))) f360 lost (by omega) (lost 20 3 rfl) (lost 20 4 rfl) | exact fl_O_un (k := 5) f12 f24 (by omega) (by omega) (Or.inl ⟨by omega, rfl, rfl⟩) (by omega) (by omega) (by omega) (funext fun s => (lost 22 s rfl).trans (hf238 22 s rfl)) (funext fun s => (lost 23 s rfl).trans (hf238 23 s rfl)) (by omega) (fl_gC_e (funext fun s => (lost 26 s rfl).trans (hf238 26 s rfl)) ((lost 20 2 rfl).trans (hf238 20 2 rfl))) f360 lost (by omega) (lost 20 3 rfl) (lost 20 4 rfl) | exact fl_O_par (k := 5) f12 f24 (by omega) (by omega) (by omega) (by omega) (hf238 20 4 rfl) (hf238 21 4 rfl) (funext fun s => hf238 22 s rfl) (funext fun s => hf238 23 s rfl) (fl_gC_e (funext fun s => hf238 26 s rfl) (hf238 20 2 rfl)) f360 (fl_gC_e (funext fun s => (hf357 26 s rfl).trans (hf238 26 s rfl)) ((hf357 20 2 rfl).trans (hf238 20 2 rfl))) (Or.inr (Or.inl ⟨by omega, by omega, by omega, by omega⟩)) (by rw [e394]; exact (fz_up_o (by decide)).trans (hf382 21 4 rfl)) (by rw [e394, fz_up_ne (by decide)]; exact (funext fun s => hf382 22 s rfl)) (by rw [e394, fz_up_ne (by decide)]; exact (funext fun s => hf382 23 s rfl)) | exact fl_O_par (k := 5) f12 f24 (by omega) (by omega) (by omega) (by omega) (hf238 20 4 rfl) (hf238 21 4 rfl) (funext fun s => hf238 22 s rfl) (funext fun s => hf238 23 s rfl) (fl_gC_e (funext fun s => hf238 26 s rfl) (hf238 20 2 rfl)) f360 (fl_gC_e (funext fun s => (hf357 26 s rfl).trans (hf238 26 s rfl)) ((hf357 20 2 rfl).trans (hf238 20 2 rfl))) (Or.inr (Or.inr ⟨by omega, by omega, by omega, by omega⟩)) (by rw [e394]; exact (fz_up_o (by decide)).trans (hf382 21 4 rfl)) (by rw [e394, fz_up_ne (by decide)]; exact (funext fun s => hf382 22 s rfl)) (by rw [e394, fz_up_ne (by decide)]; exact (funext fun s => hf382 23 s rfl)) | exact fl_O_par (k := 5) f12 f24 (by omega) (by omega) (by omega) (by omega) (hf238 20 4 rfl) (hf238 21 4 rfl) (funext fun s => hf238 22 s rfl) (funext fun s => hf238 23 s rfl) (fl_gC_e (funext fun s => hf238 26 s rfl) (hf238 20 2 rfl)) f360 (fl_gC_e (funext fun s => (hf357 26 s rfl).trans (hf238 26 s rfl)) ((hf357 20 2 rfl).trans (hf238 20 2 rfl))) (Or.inl ⟨by omega, by omega, by omega⟩) (by rw [e394]; exact fz_up_o (by decide)) (by rw [e394]; exact fz_up_ne (by decide)) (by rw [e394]; exact fz_up_ne (by decide)) | exact fl_O_f0 f12 f24 (by omega) (by omega) (Or.inr ⟨by omega, by omega, by omega⟩) (by omega) (by omega))⟩
              · refine fz_iconst ⟨by decide, by decide⟩ kX5_readO rfl ?_
                refine fz_goto (tgt := 109) kX5_readO rfl (by decide) ?_
                refine fz_putZ kX5_readO rfl rfl rfl (by omega) ?_
                refine fz_nmu (S := [(20, 3), (20, 4), (21, 4), (22, 99999), (23, 99999)]) (h0 := h) (fz_Iv_up hI381 (by decide) (show (0 : Int) ≤ 1 by decide) (show (1 : Int) ≤ 1 by decide)) (fz_fr_up hf386 rfl) (fun H399 hI400 hf401 e402 => ?_)
                have k403 : H399 20 4 = 1 := by rw [e402]; exact fz_up_e
                have t404 : H399 20 3 = H377 20 3 := by rw [e402]; exact fz_up_s (by decide)
                have t405 : H399 21 4 = H377 21 4 := by rw [e402]; exact fz_up_o (by decide)
                refine fz_goto (tgt := 180) kX5_readO rfl (by decide) ?_
                exact fz_vret kX5_readO rfl rfl ⟨hI400, hf401, rfl, (by omega), (by omega), (by first | exact fl_O_num f12 ⟨by omega, by omega⟩ lost (lost 20 4 rfl) | exact fl_O_nam f12 f24 (by omega) (by omega) lost rfl lost (by omega) (lost 20 3 rfl) (lost 20 4 rfl) | exact fl_O_un (k := 5) f12 f24 (by omega) (by omega) (Or.inr ⟨by omega, rfl, rfl⟩) (by omega) (by omega) (by omega) (funext fun s => (lost 22 s rfl).trans ((lost 22 s rfl).trans (hf238 22 s rfl))) (funext fun s => (lost 23 s rfl).trans ((lost 23 s rfl).trans (hf238 23 s rfl))) (by omega) (fl_gC_e (funext fun s => (lost 26 s rfl).trans ((lost 26 s rfl).trans (hf238 26 s rfl))) ((lost 20 2 rfl).trans ((lost 20 2 rfl).trans (hf238 20 2 rfl)))) f360 lost (by omega) (lost 20 3 rfl) (lost 20 4 rfl) | exact fl_O_un (k := 5) f12 f24 (by omega) (by omega) (Or.inl ⟨by omega, rfl, rfl⟩) (by omega) (by omega) (by omega) (funext fun s => (lost 22 s rfl).trans (hf238 22 s rfl)) (funext fun s => (lost 23 s rfl).trans (hf238 23 s rfl)) (by omega) (fl_gC_e (funext fun s => (lost 26 s rfl).trans (hf238 26 s rfl)) ((lost 20 2 rfl).trans (hf238 20 2 rfl))) f360 lost (by omega) (lost 20 3 rfl) (lost 20 4 rfl) | exact fl_O_par (k := 5) f12 f24 (by omega) (by omega) (by omega) (by omega) (hf238 20 4 rfl) (hf238 21 4 rfl) (funext fun s => hf238 22 s rfl) (funext fun s => hf238 23 s rfl) (fl_gC_e (funext fun s => hf238 26 s rfl) (hf238 20 2 rfl)) f360 (fl_gC_e (funext fun s => (hf357 26 s rfl).trans (hf238 26 s rfl)) ((hf357 20 2 rfl).trans (hf238 20 2 rfl))) (Or.inr (Or.inl ⟨by omega, by omega, by omega, by omega⟩)) (by rw [e402]; exact (fz_up_o (by decide)).trans (hf382 21 4 rfl)) (by rw [e402, fz_up_ne (by decide)]; exact (funext fun s => hf382 22 s rfl)) (by rw [e402, fz_up_ne (by decide)]; exact (funext fun s => hf382 23 s rfl)) | exact fl_O_par (k := 5) f12 f24 (by omega) (by omega) (by omega) (by omega) (hf238 20 4 rfl) (hf238 21 4 rfl) (funext fun s => hf238 22 s rfl) (funext fun s => hf238 23 s rfl) (fl_gC_e (funext fun s => hf238 26 s rfl) (hf238 20 2 rfl)) f360 (fl_gC_e (funext fun s => (hf357 26 s rfl).trans (hf238 26 s rfl)) ((hf357 20 2 rfl).trans (hf238 20 2 rfl))) (Or.inr (Or.inr ⟨by omega, by omega, by omega, by omega⟩)) (by rw [e402]; exact (fz_up_o (by decide)).trans (hf382 21 4 rfl)) (by rw [e402, fz_up_ne (by decide)]; exact (funext fun s => hf382 22 s rfl)) (by rw [e402, fz_up_ne (by decide)]; exact (funext fun s => hf382 23 s rfl)) | exact fl_O_par (k := 5) f12 f24 (by omega) (by omega) (by omega) (by omega) (hf238 20 4 rfl) (hf238 21 4 rfl) (funext fun s => hf238 22 s rfl) (funext fun s => hf238 23 s rfl) (fl_gC_e (funext fun s => hf238 26 s rfl) (hf238 20 2 rfl)) f360 (fl_gC_e (funext fun s => (hf357 26 s rfl).trans (hf238 26 s rfl)) ((hf357 20 2 rfl).trans (hf238 20 2 rfl))) (Or.inl ⟨by omega, by omega, by omega⟩) (by rw [e402]; exact fz_up_o (by decide)) (by rw [e402]; exact fz_up_ne (by decide)) (by rw [e402]; exact fz_up_ne (by decide)) | exact fl_O_f0 f12 f24 (by omega) (by omega) (Or.inr ⟨by omega, by omega, by omega⟩) (by omega) (by omega))⟩
        · exfalso; omega
      · refine fz_aload_n kX5_readO rfl rfl ?_
        refine fz_dup rfl kX5_readO rfl ?_
        refine fz_getV (v := h 20 3) kX5_readO rfl rfl rfl ?_
        have b407 : 0 ≤ h 20 3 ∧ h 20 3 ≤ 120 := hI.1 20 _
        refine fz_iconst ⟨by decide, by decide⟩ kX5_readO rfl ?_
        refine fz_iaddN kX5_readO rfl (by omega) ?_
        refine fz_putI kX5_readO rfl rfl rfl ?_
        refine fz_nmu (S := [(20, 3), (20, 4), (21, 4), (22, 99999), (23, 99999)]) (h0 := h) (fz_Iv_up hI (by decide) (show (0 : Int) ≤ ((h 20 3) + 1) by omega) (show (((h 20 3) + 1) : Int) ≤ 120 by omega)) (fz_fr_up hf rfl) (fun H408 hI409 hf410 e411 => ?_)
        have k412 : H408 20 4 = (h 20 4) := by rw [e411]; exact (fz_up_s (by decide)).trans rfl
        have k413 : H408 21 4 = (h 21 4) := by rw [e411]; exact (fz_up_o (by decide)).trans rfl
        have k414 : H408 20 3 = ((h 20 3) + 1) := by rw [e411]; exact fz_up_e
        have t415 : H408 20 4 = h 20 4 := by rw [e411]; exact fz_up_s (by decide)
        have t416 : H408 21 4 = h 21 4 := by rw [e411]; exact fz_up_o (by decide)
        refine fz_aload_n kX5_readO rfl rfl ?_
        refine fz_getR (t := 21) kX5_readO rfl rfl ?_
        refine fz_bipush ⟨by decide, by decide⟩ kX5_readO rfl ?_
        refine fz_iload_n kX5_readO rfl rfl ?_
        have b417 : 0 ≤ H408 21 4 ∧ H408 21 4 ≤ 128 := hI409.1 21 _
        refine fz_callV (d' := 0) (M' := mX3_add) (As := [fz_i 64, fz_i y25]) (st := []) kX5_readO rfl rfl vX3_add rfl rfl rfl rfl (Nat.le_of_ble_eq_true rfl) (Nat.le_of_ble_eq_true rfl) (by decide) (sX3_add H408 hI409 64 y25 ) (fun H418 r419 q420 o421 => ?_)
        obtain ⟨hI422, hf423, y427, rfl, f424, f425, f426⟩ := q420
        clear o421
        have hf428 := fz_fr_tr hf410 hf423 (show fz_su [(21, 4), (22, 99999), (23, 99999)] [(20, 3), (20, 4), (21, 4), (22, 99999), (23, 99999)] = true from rfl)
        have k429 : H418 20 4 = (h 20 4) := (hf423 20 4 rfl).trans k412
        have k430 : H418 20 3 = ((h 20 3) + 1) := (hf423 20 3 rfl).trans k414
        have t431 : H418 20 3 = H408 20 3 := hf423 20 3 rfl
        have t432 : H418 20 4 = H408 20 4 := hf423 20 4 rfl
        refine fz_pop rfl kX5_readO rfl ?_
        refine fz_goto (tgt := 180) kX5_readO rfl (by decide) ?_
        exact fz_vret kX5_readO rfl rfl ⟨hI422, hf428, rfl, (by omega), (by omega), (by first | exact fl_O_num f12 ⟨by omega, by omega⟩ lost (lost 20 4 rfl) | exact fl_O_nam f12 f24 (by omega) (by omega) e411 rfl f426 (by omega) (hf423 20 3 rfl) (hf423 20 4 rfl) | exact fl_O_un (k := 5) f12 f24 (by omega) (by omega) (Or.inr ⟨by omega, rfl, rfl⟩) (by omega) (by omega) (by omega) (funext fun s => (lost 22 s rfl).trans ((lost 22 s rfl).trans (lost 22 s rfl))) (funext fun s => (lost 23 s rfl).trans ((lost 23 s rfl).trans (lost 23 s rfl))) (by omega) (fl_gC_e (funext fun s => (lost 26 s rfl).trans ((lost 26 s rfl).trans (lost 26 s rfl))) ((lost 20 2 rfl).trans ((lost 20 2 rfl).trans (lost 20 2 rfl)))) lost f426 (by omega) (lost 20 3 rfl) (lost 20 4 rfl) | exact fl_O_un (k := 5) f12 f24 (by omega) (by omega) (Or.inl ⟨by omega, rfl, rfl⟩) (by omega) (by omega) (by omega) (funext fun s => (lost 22 s rfl).trans (lost 22 s rfl)) (funext fun s => (lost 23 s rfl).trans (lost 23 s rfl)) (by omega) (fl_gC_e (funext fun s => (lost 26 s rfl).trans (lost 26 s rfl)) ((lost 20 2 rfl).trans (lost 20 2 rfl))) lost f426 (by omega) (lost 20 3 rfl) (lost 20 4 rfl) | exact fl_O_par (k := 5) f12 f24 (by omega) (by omega) (by omega) (by omega) (lost 20 4 rfl) (lost 21 4 rfl) (funext fun s => lost 22 s rfl) (funext fun s => lost 23 s rfl) (fl_gC_e (funext fun s => lost 26 s rfl) (lost 20 2 rfl)) lost (fl_gC_e (funext fun s => (lost 26 s rfl).trans (lost 26 s rfl)) ((lost 20 2 rfl).trans (lost 20 2 rfl))) (Or.inr (Or.inl ⟨by omega, by omega, by omega, by omega⟩)) (by rw [lost]; exact (fz_up_o (by decide)).trans (lost 21 4 rfl)) (by rw [lost, fz_up_ne (by decide)]; exact (funext fun s => lost 22 s rfl)) (by rw [lost, fz_up_ne (by decide)]; exact (funext fun s => lost 23 s rfl)) | exact fl_O_par (k := 5) f12 f24 (by omega) (by omega) (by omega) (by omega) (lost 20 4 rfl) (lost 21 4 rfl) (funext fun s => lost 22 s rfl) (funext fun s => lost 23 s rfl) (fl_gC_e (funext fun s => lost 26 s rfl) (lost 20 2 rfl)) lost (fl_gC_e (funext fun s => (lost 26 s rfl).trans (lost 26 s rfl)) ((lost 20 2 rfl).trans (lost 20 2 rfl))) (Or.inr (Or.inr ⟨by omega, by omega, by omega, by omega⟩)) (by rw [lost]; exact (fz_up_o (by decide)).trans (lost 21 4 rfl)) (by rw [lost, fz_up_ne (by decide)]; exact (funext fun s => lost 22 s rfl)) (by rw [lost, fz_up_ne (by decide)]; exact (funext fun s => lost 23 s rfl)) | exact fl_O_par (k := 5) f12 f24 (by omega) (by omega) (by omega) (by omega) (lost 20 4 rfl) (lost 21 4 rfl) (funext fun s => lost 22 s rfl) (funext fun s => lost 23 s rfl) (fl_gC_e (funext fun s => lost 26 s rfl) (lost 20 2 rfl)) lost (fl_gC_e (funext fun s => (lost 26 s rfl).trans (lost 26 s rfl)) ((lost 20 2 rfl).trans (lost 20 2 rfl))) (Or.inl ⟨by omega, by omega, by omega⟩) (by rw [lost]; exact fz_up_o (by decide)) (by rw [lost]; exact fz_up_ne (by decide)) (by rw [lost]; exact fz_up_ne (by decide)) | exact fl_O_f0 f12 f24 (by omega) (by omega) (Or.inr ⟨by omega, by omega, by omega⟩) (by omega) (by omega))⟩
    · refine fz_aload_n kX5_readO rfl rfl ?_
      refine fz_callV (d' := 1) (M' := mX5_readNumber) (As := []) (st := []) kX5_readO rfl rfl vX5_readNumber rfl rfl rfl rfl (Nat.le_of_ble_eq_true rfl) (Nat.le_of_ble_eq_true rfl) (by decide) (sX5_readNumber h hI  (by omega) (by omega) (by omega)) (fun H434 r435 q436 o437 => ?_)
      obtain ⟨hI438, hf439, rfl, f440, f441, f442⟩ := q436
      clear o437
      have hf443 := fz_fr_tr hf hf439 (show fz_su [(20, 3), (21, 4), (22, 99999), (23, 99999)] [(20, 3), (20, 4), (21, 4), (22, 99999), (23, 99999)] = true from rfl)
      have k444 : H434 20 4 = (h 20 4) := (hf439 20 4 rfl).trans rfl
      have t445 : H434 20 4 = h 20 4 := hf439 20 4 rfl
      refine fz_goto (tgt := 180) kX5_readO rfl (by decide) ?_
      exact fz_vret kX5_readO rfl rfl ⟨hI438, hf443, rfl, (by omega), (by omega), (by first | exact fl_O_num f12 ⟨by omega, by omega⟩ f442 (hf439 20 4 rfl) | exact fl_O_nam f12 f24 (by omega) (by omega) lost rfl lost (by omega) (lost 20 3 rfl) (lost 20 4 rfl) | exact fl_O_un (k := 5) f12 f24 (by omega) (by omega) (Or.inr ⟨by omega, rfl, rfl⟩) (by omega) (by omega) (by omega) (funext fun s => (lost 22 s rfl).trans ((lost 22 s rfl).trans (lost 22 s rfl))) (funext fun s => (lost 23 s rfl).trans ((lost 23 s rfl).trans (lost 23 s rfl))) (by omega) (fl_gC_e (funext fun s => (lost 26 s rfl).trans ((lost 26 s rfl).trans (lost 26 s rfl))) ((lost 20 2 rfl).trans ((lost 20 2 rfl).trans (lost 20 2 rfl)))) lost lost (by omega) (lost 20 3 rfl) (lost 20 4 rfl) | exact fl_O_un (k := 5) f12 f24 (by omega) (by omega) (Or.inl ⟨by omega, rfl, rfl⟩) (by omega) (by omega) (by omega) (funext fun s => (lost 22 s rfl).trans (lost 22 s rfl)) (funext fun s => (lost 23 s rfl).trans (lost 23 s rfl)) (by omega) (fl_gC_e (funext fun s => (lost 26 s rfl).trans (lost 26 s rfl)) ((lost 20 2 rfl).trans (lost 20 2 rfl))) lost lost (by omega) (lost 20 3 rfl) (lost 20 4 rfl) | exact fl_O_par (k := 5) f12 f24 (by omega) (by omega) (by omega) (by omega) (lost 20 4 rfl) (lost 21 4 rfl) (funext fun s => lost 22 s rfl) (funext fun s => lost 23 s rfl) (fl_gC_e (funext fun s => lost 26 s rfl) (lost 20 2 rfl)) lost (fl_gC_e (funext fun s => (lost 26 s rfl).trans (lost 26 s rfl)) ((lost 20 2 rfl).trans (lost 20 2 rfl))) (Or.inr (Or.inl ⟨by omega, by omega, by omega, by omega⟩)) (by rw [lost]; exact (fz_up_o (by decide)).trans (lost 21 4 rfl)) (by rw [lost, fz_up_ne (by decide)]; exact (funext fun s => lost 22 s rfl)) (by rw [lost, fz_up_ne (by decide)]; exact (funext fun s => lost 23 s rfl)) | exact fl_O_par (k := 5) f12 f24 (by omega) (by omega) (by omega) (by omega) (lost 20 4 rfl) (lost 21 4 rfl) (funext fun s => lost 22 s rfl) (funext fun s => lost 23 s rfl) (fl_gC_e (funext fun s => lost 26 s rfl) (lost 20 2 rfl)) lost (fl_gC_e (funext fun s => (lost 26 s rfl).trans (lost 26 s rfl)) ((lost 20 2 rfl).trans (lost 20 2 rfl))) (Or.inr (Or.inr ⟨by omega, by omega, by omega, by omega⟩)) (by rw [lost]; exact (fz_up_o (by decide)).trans (lost 21 4 rfl)) (by rw [lost, fz_up_ne (by decide)]; exact (funext fun s => lost 22 s rfl)) (by rw [lost, fz_up_ne (by decide)]; exact (funext fun s => lost 23 s rfl)) | exact fl_O_par (k := 5) f12 f24 (by omega) (by omega) (by omega) (by omega) (lost 20 4 rfl) (lost 21 4 rfl) (funext fun s => lost 22 s rfl) (funext fun s => lost 23 s rfl) (fl_gC_e (funext fun s => lost 26 s rfl) (lost 20 2 rfl)) lost (fl_gC_e (funext fun s => (lost 26 s rfl).trans (lost 26 s rfl)) ((lost 20 2 rfl).trans (lost 20 2 rfl))) (Or.inl ⟨by omega, by omega, by omega⟩) (by rw [lost]; exact fz_up_o (by decide)) (by rw [lost]; exact fz_up_ne (by decide)) (by rw [lost]; exact fz_up_ne (by decide)) | exact fl_O_f0 f12 f24 (by omega) (by omega) (Or.inr ⟨by omega, by omega, by omega⟩) (by omega) (by omega))⟩

abbrev qX5_readP_0 (h : fz_H) : fz_H → Option fz_V → Prop := fun h' r0 => fz_Iv h' ∧ fz_fr [(20, 3), (20, 4), (21, 4), (22, 99999), (23, 99999)] h h' ∧ r0 = none ∧ (h 20 4 = 0 ∨ (h' 20 4 = 1 ∧ h' 20 3 = h 20 3)) ∧ (h' 20 4 = 1 ∨ (h' 21 4 - h 21 4 ≤ h' 20 3 - h 20 3 ∧ h 20 3 + 1 ≤ h' 20 3)) ∧ fl_rdC h h' (fl_eP (fl_gC h) (fl_pO (fl_gC h) 6) (h 20 3))
set_option maxHeartbeats 1000000 in
set_option maxRecDepth 100000 in
theorem sX5_readP_0 (h : fz_H) (hI : fz_Iv h) (hp0 : h 20 4 = 1 ∨ h 21 4 ≤ h 20 3) : fz_R 39 mX5_readP 0 [(0, fz_r 20), (1, fz_i 0)] [] h (qX5_readP_0 h) := by
  have hf : fz_fr [(20, 3), (20, 4), (21, 4), (22, 99999), (23, 99999)] h h := fz_fr_rf
  have b1 : 0 ≤ h 20 4 ∧ h 20 4 ≤ 1 := hI.1 20 _
  have b2 : 0 ≤ h 21 4 ∧ h 21 4 ≤ 128 := hI.1 21 _
  have b3 : 0 ≤ h 20 3 ∧ h 20 3 ≤ 120 := hI.1 20 _
  refine fz_aload_n kX5_readP rfl rfl ?_
  refine fz_iload_n kX5_readP rfl rfl ?_
  refine fz_callV (d' := 38) (M' := mX5_readO) (As := [fz_i 0]) (st := []) kX5_readP rfl rfl vX5_readO rfl rfl rfl rfl (Nat.le_of_ble_eq_true rfl) (Nat.le_of_ble_eq_true rfl) (by decide) (sX5_readO_0 h hI  (by omega)) (fun H4 r5 q6 o7 => ?_)
  obtain ⟨hI8, hf9, rfl, f10, f11, f12⟩ := q6
  clear o7
  have hf13 := fz_fr_tr hf hf9 (show fz_su [(20, 3), (20, 4), (21, 4), (22, 99999), (23, 99999)] [(20, 3), (20, 4), (21, 4), (22, 99999), (23, 99999)] = true from rfl)
  have k14 := fl_st_1 (op := fl_oP) (k := 200) (g := fl_gC h) f12 rfl
  have k16 : 0 ≤ fl_lh H4 → H4 20 4 = 0 := fl_lh_0
  refine fz_aload_n kX5_readP rfl rfl ?_
  refine fz_bipush ⟨by decide, by decide⟩ kX5_readP rfl ?_
  refine fz_bipush ⟨by decide, by decide⟩ kX5_readP rfl ?_
  refine fz_bipush ⟨by decide, by decide⟩ kX5_readP rfl ?_
  have b17 : 0 ≤ H4 20 3 ∧ H4 20 3 ≤ 120 := hI8.1 20 _
  refine fz_callV (d' := 1) (M' := mX5_nextOf) (As := [fz_i 42, fz_i 47, fz_i 37]) (st := []) kX5_readP rfl rfl vX5_nextOf rfl rfl rfl rfl (Nat.le_of_ble_eq_true rfl) (Nat.le_of_ble_eq_true rfl) (by decide) (sX5_nextOf H4 hI8 42 47 37 (by omega)) (fun H18 r19 q20 o21 => ?_)
  obtain ⟨hI22, hf23, y26, rfl, f24, f25⟩ := q20
  clear o21
  have hf27 := fz_fr_tr hf13 hf23 (show fz_su [(20, 3)] [(20, 3), (20, 4), (21, 4), (22, 99999), (23, 99999)] = true from rfl)
  have t28 : H18 20 4 = H4 20 4 := hf23 20 4 rfl
  have t29 : H18 21 4 = H4 21 4 := hf23 21 4 rfl
  have k30 := fl_st_nx k14 (fl_gC_e (funext fun s => hf13 26 s rfl) (hf13 20 2 rfl)) (fl_nxP f25) (hf23 20 4 rfl) (hf23 21 4 rfl) (funext fun s => hf23 22 s rfl) (funext fun s => hf23 23 s rfl)
  refine fz_istore_n (ls' := [(2, fz_i y26), (0, fz_r 20), (1, fz_i 0)]) kX5_readP rfl (by decide) rfl ?_
  refine fz_iconst ⟨by decide, by decide⟩ kX5_readP rfl ?_
  refine fz_istore_n (ls' := [(3, fz_i 0), (2, fz_i y26), (0, fz_r 20), (1, fz_i 0)]) kX5_readP rfl (by decide) rfl ?_
  have lp38 : ∀ (n37 : Nat) (x32 : Int) (x33 : Int) (H34 : fz_H), fz_Iv H34 → fz_fr [(20, 3), (20, 4), (21, 4), (22, 99999), (23, 99999)] h H34 → (0 ≤ x32 ∧ x32 ≤ 2147483647) → ((-2147483648) ≤ x33 ∧ x33 ≤ 2147483647) → (x33 = 0 ∨ x33 = 42 ∨ x33 = 47 ∨ x33 = 37) → (h 20 4 = 0 ∨ (H34 20 4 = 1 ∧ H34 20 3 = h 20 3)) → (H34 20 4 = 1 ∨ (x33 = 0 ∧ H34 21 4 - h 21 4 ≤ H34 20 3 - h 20 3 ∧ h 20 3 + x32 + 1 ≤ H34 20 3) ∨ (x33 ≠ 0 ∧ H34 21 4 - h 21 4 + 1 ≤ H34 20 3 - h 20 3 ∧ h 20 3 + x32 + 2 ≤ H34 20 3)) → (fl_stC h H34 (fl_eP (fl_gC h) (fl_pO (fl_gC h) 6) (h 20 3)) (fl_nx fl_oP (fl_pO (fl_gC h) 6) (fl_gC h) (199 - x32).toNat x33 (H34 20 3))) → (120 - x32).toNat < n37 → fz_R 39 mX5_readP 18 [(3, fz_i x32), (2, fz_i x33), (0, fz_r 20), (1, fz_i 0)] [] H34 (qX5_readP_0 h) := by
    intro n37
    induction n37 with
    | zero => intro x32 x33 H34 hI35 hf36 hv41 hv42 hv43 hv44 hv45 hv46 hm40; exact absurd hm40 (by omega)
    | succ n37 ih39 =>
      intro x32 x33 H34 hI35 hf36 hv41 hv42 hv43 hv44 hv45 hv46 hm40
      refine fz_iload_n kX5_readP rfl rfl ?_
      refine fz_bipush ⟨by decide, by decide⟩ kX5_readP rfl ?_
      refine fz_icmp_ge (tgt := 60) kX5_readP rfl (by decide) (fun c47 => ?_) (fun c47 => ?_)
      · have k48 : 0 ≤ H34 20 3 ∧ H34 20 3 ≤ 120 := hI35.1 20 _
        exact fz_vret kX5_readP rfl rfl ⟨hI35, hf36, rfl, (by omega), (by omega), (by first | exact fl_st_x0 hv46 (by omega) | exact fl_st_xf hv46 (by omega))⟩
      · refine fz_iload_n kX5_readP rfl rfl ?_
        refine fz_if_eq (tgt := 60) kX5_readP rfl (by decide) (fun c50 => ?_) (fun c50 => ?_)
        · have k51 : 0 ≤ H34 20 3 ∧ H34 20 3 ≤ 120 := hI35.1 20 _
          exact fz_vret kX5_readP rfl rfl ⟨hI35, hf36, rfl, (by omega), (by omega), (by first | exact fl_st_x0 hv46 (by omega) | exact fl_st_xf hv46 (by omega))⟩
        · refine fz_aload_n kX5_readP rfl rfl ?_
          refine fz_iload_n kX5_readP rfl rfl ?_
          have b53 : 0 ≤ H34 20 4 ∧ H34 20 4 ≤ 1 := hI35.1 20 _
          have b54 : 0 ≤ H34 21 4 ∧ H34 21 4 ≤ 128 := hI35.1 21 _
          have b55 : 0 ≤ H34 20 3 ∧ H34 20 3 ≤ 120 := hI35.1 20 _
          refine fz_callV (d' := 38) (M' := mX5_readO) (As := [fz_i 0]) (st := []) kX5_readP rfl rfl vX5_readO rfl rfl rfl rfl (Nat.le_of_ble_eq_true rfl) (Nat.le_of_ble_eq_true rfl) (by decide) (sX5_readO_0 H34 hI35  (by omega)) (fun H56 r57 q58 o59 => ?_)
          obtain ⟨hI60, hf61, rfl, f62, f63, f64⟩ := q58
          clear o59
          have hf65 := fz_fr_tr hf36 hf61 (show fz_su [(20, 3), (20, 4), (21, 4), (22, 99999), (23, 99999)] [(20, 3), (20, 4), (21, 4), (22, 99999), (23, 99999)] = true from rfl)
          have k66 : 0 ≤ H56 20 3 ∧ H56 20 3 ≤ 120 := hI60.1 20 _
          refine fz_aload_n kX5_readP rfl rfl ?_
          refine fz_getR (t := 21) kX5_readP rfl rfl ?_
          refine fz_iload_n kX5_readP rfl rfl ?_
          refine fz_iconst ⟨by decide, by decide⟩ kX5_readP rfl ?_
          have b67 : 0 ≤ H56 21 4 ∧ H56 21 4 ≤ 128 := hI60.1 21 _
          refine fz_callV (d' := 0) (M' := mX3_add) (As := [fz_i x33, fz_i 0]) (st := []) kX5_readP rfl rfl vX3_add rfl rfl rfl rfl (Nat.le_of_ble_eq_true rfl) (Nat.le_of_ble_eq_true rfl) (by decide) (sX3_add H56 hI60 x33 0 ) (fun H68 r69 q70 o71 => ?_)
          obtain ⟨hI72, hf73, y77, rfl, f74, f75, f76⟩ := q70
          clear o71
          have hf78 := fz_fr_tr hf65 hf73 (show fz_su [(21, 4), (22, 99999), (23, 99999)] [(20, 3), (20, 4), (21, 4), (22, 99999), (23, 99999)] = true from rfl)
          have t79 : H68 20 3 = H56 20 3 := hf73 20 3 rfl
          have t80 : H68 20 4 = H56 20 4 := hf73 20 4 rfl
          refine fz_pop rfl kX5_readP rfl ?_
          have k81 : 0 ≤ fl_lh H68 → H68 20 4 = 0 := fl_lh_0
          have k82 := fl_st_k (k' := (199 - (x32 + 1)).toNat + 1) (fl_st_it ⟨by omega, by omega⟩ hv46 (by omega) f64 (congrArg (fun g => fl_pO g 6) (fl_gC_e (funext fun s => hf36 26 s rfl) (hf36 20 2 rfl))) f76 (fl_cmP (by omega)) (by omega) (hf73 20 3 rfl) (hf73 20 4 rfl)) (by omega)
          refine fz_aload_n kX5_readP rfl rfl ?_
          refine fz_bipush ⟨by decide, by decide⟩ kX5_readP rfl ?_
          refine fz_bipush ⟨by decide, by decide⟩ kX5_readP rfl ?_
          refine fz_bipush ⟨by decide, by decide⟩ kX5_readP rfl ?_
          have b84 : 0 ≤ H68 20 3 ∧ H68 20 3 ≤ 120 := hI72.1 20 _
          refine fz_callV (d' := 1) (M' := mX5_nextOf) (As := [fz_i 42, fz_i 47, fz_i 37]) (st := []) kX5_readP rfl rfl vX5_nextOf rfl rfl rfl rfl (Nat.le_of_ble_eq_true rfl) (Nat.le_of_ble_eq_true rfl) (by decide) (sX5_nextOf H68 hI72 42 47 37 (by omega)) (fun H85 r86 q87 o88 => ?_)
          obtain ⟨hI89, hf90, y93, rfl, f91, f92⟩ := q87
          clear o88
          have hf94 := fz_fr_tr hf78 hf90 (show fz_su [(20, 3)] [(20, 3), (20, 4), (21, 4), (22, 99999), (23, 99999)] = true from rfl)
          have t95 : H85 20 4 = H68 20 4 := hf90 20 4 rfl
          have t96 : H85 21 4 = H68 21 4 := hf90 21 4 rfl
          have k97 := fl_st_nx k82 (fl_gC_e (funext fun s => hf78 26 s rfl) (hf78 20 2 rfl)) (fl_nxP f92) (hf90 20 4 rfl) (hf90 21 4 rfl) (funext fun s => hf90 22 s rfl) (funext fun s => hf90 23 s rfl)
          refine fz_istore_n (ls' := [(2, fz_i y93), (3, fz_i x32), (0, fz_r 20), (1, fz_i 0)]) kX5_readP rfl (by decide) rfl ?_
          refine fz_iincN (ls' := [(3, fz_i (x32 + 1)), (2, fz_i y93), (0, fz_r 20), (1, fz_i 0)]) kX5_readP rfl (by decide) rfl (by omega) rfl ?_
          refine fz_goto (tgt := 18) kX5_readP rfl (by decide) ?_
          exact ih39 (x32 + 1) y93 H85 hI89 hf94 (by omega) (by omega) (by omega) (by omega) (by omega) (k97) (by omega)
  exact lp38 _ 0 y26 H18 hI22 hf27 (by omega) (by omega) (by omega) (by omega) (by omega) (fl_st_kn k30 (by omega)) (Nat.lt_succ_self _)

abbrev qX5_readS_0 (h : fz_H) : fz_H → Option fz_V → Prop := fun h' r0 => fz_Iv h' ∧ fz_fr [(20, 3), (20, 4), (21, 4), (22, 99999), (23, 99999)] h h' ∧ r0 = none ∧ (h 20 4 = 0 ∨ (h' 20 4 = 1 ∧ h' 20 3 = h 20 3)) ∧ (h' 20 4 = 1 ∨ (h' 21 4 - h 21 4 ≤ h' 20 3 - h 20 3 ∧ h 20 3 + 1 ≤ h' 20 3)) ∧ fl_rdC h h' (fl_eS (fl_gC h) (fl_pO (fl_gC h) 6) (h 20 3))
set_option maxHeartbeats 1000000 in
set_option maxRecDepth 100000 in
theorem sX5_readS_0 (h : fz_H) (hI : fz_Iv h) (hp0 : h 20 4 = 1 ∨ h 21 4 ≤ h 20 3) : fz_R 40 mX5_readS 0 [(0, fz_r 20), (1, fz_i 0)] [] h (qX5_readS_0 h) := by
  have hf : fz_fr [(20, 3), (20, 4), (21, 4), (22, 99999), (23, 99999)] h h := fz_fr_rf
  have b1 : 0 ≤ h 20 4 ∧ h 20 4 ≤ 1 := hI.1 20 _
  have b2 : 0 ≤ h 21 4 ∧ h 21 4 ≤ 128 := hI.1 21 _
  have b3 : 0 ≤ h 20 3 ∧ h 20 3 ≤ 120 := hI.1 20 _
  refine fz_aload_n kX5_readS rfl rfl ?_
  refine fz_iload_n kX5_readS rfl rfl ?_
  refine fz_callV (d' := 39) (M' := mX5_readP) (As := [fz_i 0]) (st := []) kX5_readS rfl rfl vX5_readP rfl rfl rfl rfl (Nat.le_of_ble_eq_true rfl) (Nat.le_of_ble_eq_true rfl) (by decide) (sX5_readP_0 h hI  (by omega)) (fun H4 r5 q6 o7 => ?_)
  obtain ⟨hI8, hf9, rfl, f10, f11, f12⟩ := q6
  clear o7
  have hf13 := fz_fr_tr hf hf9 (show fz_su [(20, 3), (20, 4), (21, 4), (22, 99999), (23, 99999)] [(20, 3), (20, 4), (21, 4), (22, 99999), (23, 99999)] = true from rfl)
  have k14 := fl_st_1 (op := fl_oS) (k := 200) (g := fl_gC h) f12 rfl
  have k16 : 0 ≤ fl_lh H4 → H4 20 4 = 0 := fl_lh_0
  refine fz_aload_n kX5_readS rfl rfl ?_
  refine fz_bipush ⟨by decide, by decide⟩ kX5_readS rfl ?_
  refine fz_bipush ⟨by decide, by decide⟩ kX5_readS rfl ?_
  refine fz_bipush ⟨by decide, by decide⟩ kX5_readS rfl ?_
  have b17 : 0 ≤ H4 20 3 ∧ H4 20 3 ≤ 120 := hI8.1 20 _
  refine fz_callV (d' := 1) (M' := mX5_nextOf) (As := [fz_i 43, fz_i 45, fz_i 45]) (st := []) kX5_readS rfl rfl vX5_nextOf rfl rfl rfl rfl (Nat.le_of_ble_eq_true rfl) (Nat.le_of_ble_eq_true rfl) (by decide) (sX5_nextOf H4 hI8 43 45 45 (by omega)) (fun H18 r19 q20 o21 => ?_)
  obtain ⟨hI22, hf23, y26, rfl, f24, f25⟩ := q20
  clear o21
  have hf27 := fz_fr_tr hf13 hf23 (show fz_su [(20, 3)] [(20, 3), (20, 4), (21, 4), (22, 99999), (23, 99999)] = true from rfl)
  have t28 : H18 20 4 = H4 20 4 := hf23 20 4 rfl
  have t29 : H18 21 4 = H4 21 4 := hf23 21 4 rfl
  have k30 := fl_st_nx k14 (fl_gC_e (funext fun s => hf13 26 s rfl) (hf13 20 2 rfl)) (fl_nxS f25) (hf23 20 4 rfl) (hf23 21 4 rfl) (funext fun s => hf23 22 s rfl) (funext fun s => hf23 23 s rfl)
  refine fz_istore_n (ls' := [(2, fz_i y26), (0, fz_r 20), (1, fz_i 0)]) kX5_readS rfl (by decide) rfl ?_
  refine fz_iconst ⟨by decide, by decide⟩ kX5_readS rfl ?_
  refine fz_istore_n (ls' := [(3, fz_i 0), (2, fz_i y26), (0, fz_r 20), (1, fz_i 0)]) kX5_readS rfl (by decide) rfl ?_
  have lp38 : ∀ (n37 : Nat) (x32 : Int) (x33 : Int) (H34 : fz_H), fz_Iv H34 → fz_fr [(20, 3), (20, 4), (21, 4), (22, 99999), (23, 99999)] h H34 → (0 ≤ x32 ∧ x32 ≤ 2147483647) → ((-2147483648) ≤ x33 ∧ x33 ≤ 2147483647) → (x33 = 0 ∨ x33 = 43 ∨ x33 = 45 ∨ x33 = 45) → (h 20 4 = 0 ∨ (H34 20 4 = 1 ∧ H34 20 3 = h 20 3)) → (H34 20 4 = 1 ∨ (x33 = 0 ∧ H34 21 4 - h 21 4 ≤ H34 20 3 - h 20 3 ∧ h 20 3 + x32 + 1 ≤ H34 20 3) ∨ (x33 ≠ 0 ∧ H34 21 4 - h 21 4 + 1 ≤ H34 20 3 - h 20 3 ∧ h 20 3 + x32 + 2 ≤ H34 20 3)) → (fl_stC h H34 (fl_eS (fl_gC h) (fl_pO (fl_gC h) 6) (h 20 3)) (fl_nx fl_oS (fl_eP (fl_gC h) (fl_pO (fl_gC h) 6)) (fl_gC h) (199 - x32).toNat x33 (H34 20 3))) → (120 - x32).toNat < n37 → fz_R 40 mX5_readS 18 [(3, fz_i x32), (2, fz_i x33), (0, fz_r 20), (1, fz_i 0)] [] H34 (qX5_readS_0 h) := by
    intro n37
    induction n37 with
    | zero => intro x32 x33 H34 hI35 hf36 hv41 hv42 hv43 hv44 hv45 hv46 hm40; exact absurd hm40 (by omega)
    | succ n37 ih39 =>
      intro x32 x33 H34 hI35 hf36 hv41 hv42 hv43 hv44 hv45 hv46 hm40
      refine fz_iload_n kX5_readS rfl rfl ?_
      refine fz_bipush ⟨by decide, by decide⟩ kX5_readS rfl ?_
      refine fz_icmp_ge (tgt := 60) kX5_readS rfl (by decide) (fun c47 => ?_) (fun c47 => ?_)
      · have k48 : 0 ≤ H34 20 3 ∧ H34 20 3 ≤ 120 := hI35.1 20 _
        exact fz_vret kX5_readS rfl rfl ⟨hI35, hf36, rfl, (by omega), (by omega), (by first | exact fl_st_x0 hv46 (by omega) | exact fl_st_xf hv46 (by omega))⟩
      · refine fz_iload_n kX5_readS rfl rfl ?_
        refine fz_if_eq (tgt := 60) kX5_readS rfl (by decide) (fun c50 => ?_) (fun c50 => ?_)
        · have k51 : 0 ≤ H34 20 3 ∧ H34 20 3 ≤ 120 := hI35.1 20 _
          exact fz_vret kX5_readS rfl rfl ⟨hI35, hf36, rfl, (by omega), (by omega), (by first | exact fl_st_x0 hv46 (by omega) | exact fl_st_xf hv46 (by omega))⟩
        · refine fz_aload_n kX5_readS rfl rfl ?_
          refine fz_iload_n kX5_readS rfl rfl ?_
          have b53 : 0 ≤ H34 20 4 ∧ H34 20 4 ≤ 1 := hI35.1 20 _
          have b54 : 0 ≤ H34 21 4 ∧ H34 21 4 ≤ 128 := hI35.1 21 _
          have b55 : 0 ≤ H34 20 3 ∧ H34 20 3 ≤ 120 := hI35.1 20 _
          refine fz_callV (d' := 39) (M' := mX5_readP) (As := [fz_i 0]) (st := []) kX5_readS rfl rfl vX5_readP rfl rfl rfl rfl (Nat.le_of_ble_eq_true rfl) (Nat.le_of_ble_eq_true rfl) (by decide) (sX5_readP_0 H34 hI35  (by omega)) (fun H56 r57 q58 o59 => ?_)
          obtain ⟨hI60, hf61, rfl, f62, f63, f64⟩ := q58
          clear o59
          have hf65 := fz_fr_tr hf36 hf61 (show fz_su [(20, 3), (20, 4), (21, 4), (22, 99999), (23, 99999)] [(20, 3), (20, 4), (21, 4), (22, 99999), (23, 99999)] = true from rfl)
          have k66 : 0 ≤ H56 20 3 ∧ H56 20 3 ≤ 120 := hI60.1 20 _
          refine fz_aload_n kX5_readS rfl rfl ?_
          refine fz_getR (t := 21) kX5_readS rfl rfl ?_
          refine fz_iload_n kX5_readS rfl rfl ?_
          refine fz_iconst ⟨by decide, by decide⟩ kX5_readS rfl ?_
          have b67 : 0 ≤ H56 21 4 ∧ H56 21 4 ≤ 128 := hI60.1 21 _
          refine fz_callV (d' := 0) (M' := mX3_add) (As := [fz_i x33, fz_i 0]) (st := []) kX5_readS rfl rfl vX3_add rfl rfl rfl rfl (Nat.le_of_ble_eq_true rfl) (Nat.le_of_ble_eq_true rfl) (by decide) (sX3_add H56 hI60 x33 0 ) (fun H68 r69 q70 o71 => ?_)
          obtain ⟨hI72, hf73, y77, rfl, f74, f75, f76⟩ := q70
          clear o71
          have hf78 := fz_fr_tr hf65 hf73 (show fz_su [(21, 4), (22, 99999), (23, 99999)] [(20, 3), (20, 4), (21, 4), (22, 99999), (23, 99999)] = true from rfl)
          have t79 : H68 20 3 = H56 20 3 := hf73 20 3 rfl
          have t80 : H68 20 4 = H56 20 4 := hf73 20 4 rfl
          refine fz_pop rfl kX5_readS rfl ?_
          have k81 : 0 ≤ fl_lh H68 → H68 20 4 = 0 := fl_lh_0
          have k82 := fl_st_k (k' := (199 - (x32 + 1)).toNat + 1) (fl_st_it ⟨by omega, by omega⟩ hv46 (by omega) f64 (congrArg (fun g => fl_eP g (fl_pO g 6)) (fl_gC_e (funext fun s => hf36 26 s rfl) (hf36 20 2 rfl))) f76 (fl_cmS (by omega)) (by omega) (hf73 20 3 rfl) (hf73 20 4 rfl)) (by omega)
          refine fz_aload_n kX5_readS rfl rfl ?_
          refine fz_bipush ⟨by decide, by decide⟩ kX5_readS rfl ?_
          refine fz_bipush ⟨by decide, by decide⟩ kX5_readS rfl ?_
          refine fz_bipush ⟨by decide, by decide⟩ kX5_readS rfl ?_
          have b84 : 0 ≤ H68 20 3 ∧ H68 20 3 ≤ 120 := hI72.1 20 _
          refine fz_callV (d' := 1) (M' := mX5_nextOf) (As := [fz_i 43, fz_i 45, fz_i 45]) (st := []) kX5_readS rfl rfl vX5_nextOf rfl rfl rfl rfl (Nat.le_of_ble_eq_true rfl) (Nat.le_of_ble_eq_true rfl) (by decide) (sX5_nextOf H68 hI72 43 45 45 (by omega)) (fun H85 r86 q87 o88 => ?_)
          obtain ⟨hI89, hf90, y93, rfl, f91, f92⟩ := q87
          clear o88
          have hf94 := fz_fr_tr hf78 hf90 (show fz_su [(20, 3)] [(20, 3), (20, 4), (21, 4), (22, 99999), (23, 99999)] = true from rfl)
          have t95 : H85 20 4 = H68 20 4 := hf90 20 4 rfl
          have t96 : H85 21 4 = H68 21 4 := hf90 21 4 rfl
          have k97 := fl_st_nx k82 (fl_gC_e (funext fun s => hf78 26 s rfl) (hf78 20 2 rfl)) (fl_nxS f92) (hf90 20 4 rfl) (hf90 21 4 rfl) (funext fun s => hf90 22 s rfl) (funext fun s => hf90 23 s rfl)
          refine fz_istore_n (ls' := [(2, fz_i y93), (3, fz_i x32), (0, fz_r 20), (1, fz_i 0)]) kX5_readS rfl (by decide) rfl ?_
          refine fz_iincN (ls' := [(3, fz_i (x32 + 1)), (2, fz_i y93), (0, fz_r 20), (1, fz_i 0)]) kX5_readS rfl (by decide) rfl (by omega) rfl ?_
          refine fz_goto (tgt := 18) kX5_readS rfl (by decide) ?_
          exact ih39 (x32 + 1) y93 H85 hI89 hf94 (by omega) (by omega) (by omega) (by omega) (by omega) (k97) (by omega)
  exact lp38 _ 0 y26 H18 hI22 hf27 (by omega) (by omega) (by omega) (by omega) (by omega) (fl_st_kn k30 (by omega)) (Nat.lt_succ_self _)

abbrev qX5_readB_0 (h : fz_H) : fz_H → Option fz_V → Prop := fun h' r0 => fz_Iv h' ∧ fz_fr [(20, 3), (20, 4), (21, 4), (22, 99999), (23, 99999)] h h' ∧ r0 = none ∧ (h 20 4 = 0 ∨ (h' 20 4 = 1 ∧ h' 20 3 = h 20 3)) ∧ (h' 20 4 = 1 ∨ (h' 21 4 - h 21 4 ≤ h' 20 3 - h 20 3 ∧ h 20 3 + 1 ≤ h' 20 3)) ∧ fl_rdC h h' (fl_eB (fl_gC h) (fl_pO (fl_gC h) 6) (h 20 3))
set_option maxHeartbeats 1000000 in
set_option maxRecDepth 100000 in
theorem sX5_readB_0 (h : fz_H) (hI : fz_Iv h) (hp0 : h 20 4 = 1 ∨ h 21 4 ≤ h 20 3) : fz_R 41 mX5_readB 0 [(0, fz_r 20), (1, fz_i 0)] [] h (qX5_readB_0 h) := by
  have hf : fz_fr [(20, 3), (20, 4), (21, 4), (22, 99999), (23, 99999)] h h := fz_fr_rf
  have b1 : 0 ≤ h 20 4 ∧ h 20 4 ≤ 1 := hI.1 20 _
  have b2 : 0 ≤ h 21 4 ∧ h 21 4 ≤ 128 := hI.1 21 _
  have b3 : 0 ≤ h 20 3 ∧ h 20 3 ≤ 120 := hI.1 20 _
  refine fz_aload_n kX5_readB rfl rfl ?_
  refine fz_iload_n kX5_readB rfl rfl ?_
  refine fz_callV (d' := 40) (M' := mX5_readS) (As := [fz_i 0]) (st := []) kX5_readB rfl rfl vX5_readS rfl rfl rfl rfl (Nat.le_of_ble_eq_true rfl) (Nat.le_of_ble_eq_true rfl) (by decide) (sX5_readS_0 h hI  (by omega)) (fun H4 r5 q6 o7 => ?_)
  obtain ⟨hI8, hf9, rfl, f10, f11, f12⟩ := q6
  clear o7
  have hf13 := fz_fr_tr hf hf9 (show fz_su [(20, 3), (20, 4), (21, 4), (22, 99999), (23, 99999)] [(20, 3), (20, 4), (21, 4), (22, 99999), (23, 99999)] = true from rfl)
  have k14 := fl_st_1 (op := fl_oB) (k := 1) (g := fl_gC h) f12 rfl
  have k16 : 0 ≤ fl_lh H4 → H4 20 4 = 0 := fl_lh_0
  refine fz_aload_n kX5_readB rfl rfl ?_
  refine fz_bipush ⟨by decide, by decide⟩ kX5_readB rfl ?_
  refine fz_bipush ⟨by decide, by decide⟩ kX5_readB rfl ?_
  refine fz_bipush ⟨by decide, by decide⟩ kX5_readB rfl ?_
  have b17 : 0 ≤ H4 20 3 ∧ H4 20 3 ≤ 120 := hI8.1 20 _
  refine fz_callV (d' := 1) (M' := mX5_nextOf) (As := [fz_i 60, fz_i 61, fz_i 62]) (st := []) kX5_readB rfl rfl vX5_nextOf rfl rfl rfl rfl (Nat.le_of_ble_eq_true rfl) (Nat.le_of_ble_eq_true rfl) (by decide) (sX5_nextOf H4 hI8 60 61 62 (by omega)) (fun H18 r19 q20 o21 => ?_)
  obtain ⟨hI22, hf23, y26, rfl, f24, f25⟩ := q20
  clear o21
  have hf27 := fz_fr_tr hf13 hf23 (show fz_su [(20, 3)] [(20, 3), (20, 4), (21, 4), (22, 99999), (23, 99999)] = true from rfl)
  have t28 : H18 20 4 = H4 20 4 := hf23 20 4 rfl
  have t29 : H18 21 4 = H4 21 4 := hf23 21 4 rfl
  have k30 := fl_st_nx k14 (fl_gC_e (funext fun s => hf13 26 s rfl) (hf13 20 2 rfl)) (fl_nxB f25) (hf23 20 4 rfl) (hf23 21 4 rfl) (funext fun s => hf23 22 s rfl) (funext fun s => hf23 23 s rfl)
  refine fz_istore_n (ls' := [(2, fz_i y26), (0, fz_r 20), (1, fz_i 0)]) kX5_readB rfl (by decide) rfl ?_
  refine fz_iload_n kX5_readB rfl rfl ?_
  refine fz_if_eq (tgt := 35) kX5_readB rfl (by decide) (fun c32 => ?_) (fun c32 => ?_)
  · exact fz_vret kX5_readB rfl rfl ⟨hI22, hf27, rfl, (by omega), (by omega), (by first | exact fl_st_x0 k30 (by omega) | exact fl_st_x (fl_st_it ⟨by omega, by omega⟩ k30 (by omega) lost (congrArg (fun g => fl_eS g (fl_pO g 6)) (fl_gC_e (funext fun s => lost 26 s rfl) (lost 20 2 rfl))) lost (fl_cmB (by omega)) (by omega) (lost 20 3 rfl) (lost 20 4 rfl)))⟩
  · refine fz_aload_n kX5_readB rfl rfl ?_
    refine fz_iload_n kX5_readB rfl rfl ?_
    have b34 : 0 ≤ H18 20 4 ∧ H18 20 4 ≤ 1 := hI22.1 20 _
    have b35 : 0 ≤ H18 21 4 ∧ H18 21 4 ≤ 128 := hI22.1 21 _
    have b36 : 0 ≤ H18 20 3 ∧ H18 20 3 ≤ 120 := hI22.1 20 _
    refine fz_callV (d' := 40) (M' := mX5_readS) (As := [fz_i 0]) (st := []) kX5_readB rfl rfl vX5_readS rfl rfl rfl rfl (Nat.le_of_ble_eq_true rfl) (Nat.le_of_ble_eq_true rfl) (by decide) (sX5_readS_0 H18 hI22  (by omega)) (fun H37 r38 q39 o40 => ?_)
    obtain ⟨hI41, hf42, rfl, f43, f44, f45⟩ := q39
    clear o40
    have hf46 := fz_fr_tr hf27 hf42 (show fz_su [(20, 3), (20, 4), (21, 4), (22, 99999), (23, 99999)] [(20, 3), (20, 4), (21, 4), (22, 99999), (23, 99999)] = true from rfl)
    have k47 : 0 ≤ H37 20 3 ∧ H37 20 3 ≤ 120 := hI41.1 20 _
    refine fz_aload_n kX5_readB rfl rfl ?_
    refine fz_getR (t := 21) kX5_readB rfl rfl ?_
    refine fz_iload_n kX5_readB rfl rfl ?_
    refine fz_iconst ⟨by decide, by decide⟩ kX5_readB rfl ?_
    have b48 : 0 ≤ H37 21 4 ∧ H37 21 4 ≤ 128 := hI41.1 21 _
    refine fz_callV (d' := 0) (M' := mX3_add) (As := [fz_i y26, fz_i 0]) (st := []) kX5_readB rfl rfl vX3_add rfl rfl rfl rfl (Nat.le_of_ble_eq_true rfl) (Nat.le_of_ble_eq_true rfl) (by decide) (sX3_add H37 hI41 y26 0 ) (fun H49 r50 q51 o52 => ?_)
    obtain ⟨hI53, hf54, y58, rfl, f55, f56, f57⟩ := q51
    clear o52
    have hf59 := fz_fr_tr hf46 hf54 (show fz_su [(21, 4), (22, 99999), (23, 99999)] [(20, 3), (20, 4), (21, 4), (22, 99999), (23, 99999)] = true from rfl)
    have t60 : H49 20 3 = H37 20 3 := hf54 20 3 rfl
    have t61 : H49 20 4 = H37 20 4 := hf54 20 4 rfl
    refine fz_pop rfl kX5_readB rfl ?_
    exact fz_vret kX5_readB rfl rfl ⟨hI53, hf59, rfl, (by omega), (by omega), (by first | exact fl_st_x0 k30 (by omega) | exact fl_st_x (fl_st_it ⟨by omega, by omega⟩ k30 (by omega) f45 (congrArg (fun g => fl_eS g (fl_pO g 6)) (fl_gC_e (funext fun s => hf27 26 s rfl) (hf27 20 2 rfl))) f57 (fl_cmB (by omega)) (by omega) (hf54 20 3 rfl) (hf54 20 4 rfl)))⟩

abbrev qX5_readA_0 (h : fz_H) : fz_H → Option fz_V → Prop := fun h' r0 => fz_Iv h' ∧ fz_fr [(20, 3), (20, 4), (21, 4), (22, 99999), (23, 99999)] h h' ∧ r0 = none ∧ (h 20 4 = 0 ∨ (h' 20 4 = 1 ∧ h' 20 3 = h 20 3)) ∧ (h' 20 4 = 1 ∨ (h' 21 4 - h 21 4 ≤ h' 20 3 - h 20 3 ∧ h 20 3 + 1 ≤ h' 20 3)) ∧ fl_rdC h h' (fl_eA (fl_gC h) (fl_pO (fl_gC h) 6) (h 20 3))
set_option maxHeartbeats 1000000 in
set_option maxRecDepth 100000 in
theorem sX5_readA_0 (h : fz_H) (hI : fz_Iv h) (hp0 : h 20 4 = 1 ∨ h 21 4 ≤ h 20 3) : fz_R 42 mX5_readA 0 [(0, fz_r 20), (1, fz_i 0)] [] h (qX5_readA_0 h) := by
  have hf : fz_fr [(20, 3), (20, 4), (21, 4), (22, 99999), (23, 99999)] h h := fz_fr_rf
  have b1 : 0 ≤ h 20 4 ∧ h 20 4 ≤ 1 := hI.1 20 _
  have b2 : 0 ≤ h 21 4 ∧ h 21 4 ≤ 128 := hI.1 21 _
  have b3 : 0 ≤ h 20 3 ∧ h 20 3 ≤ 120 := hI.1 20 _
  refine fz_aload_n kX5_readA rfl rfl ?_
  refine fz_iload_n kX5_readA rfl rfl ?_
  refine fz_callV (d' := 41) (M' := mX5_readB) (As := [fz_i 0]) (st := []) kX5_readA rfl rfl vX5_readB rfl rfl rfl rfl (Nat.le_of_ble_eq_true rfl) (Nat.le_of_ble_eq_true rfl) (by decide) (sX5_readB_0 h hI  (by omega)) (fun H4 r5 q6 o7 => ?_)
  obtain ⟨hI8, hf9, rfl, f10, f11, f12⟩ := q6
  clear o7
  have hf13 := fz_fr_tr hf hf9 (show fz_su [(20, 3), (20, 4), (21, 4), (22, 99999), (23, 99999)] [(20, 3), (20, 4), (21, 4), (22, 99999), (23, 99999)] = true from rfl)
  have k14 := fl_st_1 (op := fl_oA) (k := 200) (g := fl_gC h) f12 rfl
  refine fz_iconst ⟨by decide, by decide⟩ kX5_readA rfl ?_
  refine fz_istore_n (ls' := [(2, fz_i 0), (0, fz_r 20), (1, fz_i 0)]) kX5_readA rfl (by decide) rfl ?_
  have lp21 : ∀ (n20 : Nat) (x16 : Int) (H17 : fz_H), fz_Iv H17 → fz_fr [(20, 3), (20, 4), (21, 4), (22, 99999), (23, 99999)] h H17 → (0 ≤ x16 ∧ x16 ≤ 2147483647) → (h 20 4 = 0 ∨ (H17 20 4 = 1 ∧ H17 20 3 = h 20 3)) → (H17 20 4 = 1 ∨ (H17 21 4 - h 21 4 ≤ H17 20 3 - h 20 3 ∧ h 20 3 + x16 + 1 ≤ H17 20 3)) → (fl_stC h H17 (fl_eA (fl_gC h) (fl_pO (fl_gC h) 6) (h 20 3)) (fl_ch fl_oA (fl_eB (fl_gC h) (fl_pO (fl_gC h) 6)) (fl_gC h) (200 - x16).toNat (H17 20 3))) → (120 - x16).toNat < n20 → fz_R 42 mX5_readA 7 [(2, fz_i x16), (0, fz_r 20), (1, fz_i 0)] [] H17 (qX5_readA_0 h) := by
    intro n20
    induction n20 with
    | zero => intro x16 H17 hI18 hf19 hv24 hv25 hv26 hv27 hm23; exact absurd hm23 (by omega)
    | succ n20 ih22 =>
      intro x16 H17 hI18 hf19 hv24 hv25 hv26 hv27 hm23
      refine fz_iload_n kX5_readA rfl rfl ?_
      refine fz_bipush ⟨by decide, by decide⟩ kX5_readA rfl ?_
      refine fz_icmp_ge (tgt := 44) kX5_readA rfl (by decide) (fun c28 => ?_) (fun c28 => ?_)
      · have k29 : 0 ≤ H17 20 3 ∧ H17 20 3 ≤ 120 := hI18.1 20 _
        exact fz_vret kX5_readA rfl rfl ⟨hI18, hf19, rfl, (by omega), (by omega), (by first | exact fl_st_x0 (fl_st_nx (y := 0) (fl_st_k (k' := (200 - (x16 + 1)).toNat + 1) hv27 (by omega)) (fl_gC_e (funext fun s => lost 26 s rfl) (lost 20 2 rfl)) (fl_nxA lost (Or.inr ⟨by omega, rfl⟩)) (lost 20 4 rfl) (lost 21 4 rfl) (funext fun s => lost 22 s rfl) (funext fun s => lost 23 s rfl)) rfl | exact fl_st_xf hv27 (by omega))⟩
      · have k31 : 0 ≤ fl_lh H17 → H17 20 4 = 0 := fl_lh_0
        refine fz_aload_n kX5_readA rfl rfl ?_
        refine fz_bipush ⟨by decide, by decide⟩ kX5_readA rfl ?_
        have b32 : 0 ≤ H17 20 3 ∧ H17 20 3 ≤ 120 := hI18.1 20 _
        have b33 : 0 ≤ h 20 2 ∧ h 20 2 ≤ 120 := hI.1 20 _
        have e34 : H17 20 2 = h 20 2 := hf19 20 2 rfl
        refine fz_callV (d' := 1) (M' := mX5_goesOnWith) (As := [fz_i 38]) (st := []) kX5_readA rfl rfl vX5_goesOnWith rfl rfl rfl rfl (Nat.le_of_ble_eq_true rfl) (Nat.le_of_ble_eq_true rfl) (by decide) (sX5_goesOnWith H17 hI18 38 (by omega)) (fun H35 r36 q37 o38 => ?_)
        obtain ⟨hI39, hf40, y42, rfl, p43, f41⟩ := q37
        clear o38
        have hf44 := fz_fr_tr hf19 hf40 (show fz_su [(20, 3)] [(20, 3), (20, 4), (21, 4), (22, 99999), (23, 99999)] = true from rfl)
        have t45 : H35 20 4 = H17 20 4 := hf40 20 4 rfl
        have t46 : H35 21 4 = H17 21 4 := hf40 21 4 rfl
        refine fz_if_eq (tgt := 44) kX5_readA rfl (by decide) (fun c47 => ?_) (fun c47 => ?_)
        · have k48 : 0 ≤ H35 20 3 ∧ H35 20 3 ≤ 120 := hI39.1 20 _
          exact fz_vret kX5_readA rfl rfl ⟨hI39, hf44, rfl, (by omega), (by omega), (by first | exact fl_st_x0 (fl_st_nx (y := 0) (fl_st_k (k' := (200 - (x16 + 1)).toNat + 1) hv27 (by omega)) (fl_gC_e (funext fun s => hf19 26 s rfl) (hf19 20 2 rfl)) (fl_nxA f41 (Or.inr ⟨by omega, rfl⟩)) (hf40 20 4 rfl) (hf40 21 4 rfl) (funext fun s => hf40 22 s rfl) (funext fun s => hf40 23 s rfl)) rfl | exact fl_st_xf hv27 (by omega))⟩
        · have k50 := fl_st_nx (y := 38) (fl_st_k (k' := (200 - (x16 + 1)).toNat + 1) hv27 (by omega)) (fl_gC_e (funext fun s => hf19 26 s rfl) (hf19 20 2 rfl)) (fl_nxA f41 (Or.inl ⟨by omega, rfl⟩)) (hf40 20 4 rfl) (hf40 21 4 rfl) (funext fun s => hf40 22 s rfl) (funext fun s => hf40 23 s rfl)
          refine fz_aload_n kX5_readA rfl rfl ?_
          refine fz_iload_n kX5_readA rfl rfl ?_
          have b52 : 0 ≤ H35 20 4 ∧ H35 20 4 ≤ 1 := hI39.1 20 _
          have b53 : 0 ≤ H35 21 4 ∧ H35 21 4 ≤ 128 := hI39.1 21 _
          have b54 : 0 ≤ H35 20 3 ∧ H35 20 3 ≤ 120 := hI39.1 20 _
          refine fz_callV (d' := 41) (M' := mX5_readB) (As := [fz_i 0]) (st := []) kX5_readA rfl rfl vX5_readB rfl rfl rfl rfl (Nat.le_of_ble_eq_true rfl) (Nat.le_of_ble_eq_true rfl) (by decide) (sX5_readB_0 H35 hI39  (by omega)) (fun H55 r56 q57 o58 => ?_)
          obtain ⟨hI59, hf60, rfl, f61, f62, f63⟩ := q57
          clear o58
          have hf64 := fz_fr_tr hf44 hf60 (show fz_su [(20, 3), (20, 4), (21, 4), (22, 99999), (23, 99999)] [(20, 3), (20, 4), (21, 4), (22, 99999), (23, 99999)] = true from rfl)
          have k65 : 0 ≤ H55 20 3 ∧ H55 20 3 ≤ 120 := hI59.1 20 _
          refine fz_aload_n kX5_readA rfl rfl ?_
          refine fz_getR (t := 21) kX5_readA rfl rfl ?_
          refine fz_bipush ⟨by decide, by decide⟩ kX5_readA rfl ?_
          refine fz_iconst ⟨by decide, by decide⟩ kX5_readA rfl ?_
          have b66 : 0 ≤ H55 21 4 ∧ H55 21 4 ≤ 128 := hI59.1 21 _
          refine fz_callV (d' := 0) (M' := mX3_add) (As := [fz_i 38, fz_i 0]) (st := []) kX5_readA rfl rfl vX3_add rfl rfl rfl rfl (Nat.le_of_ble_eq_true rfl) (Nat.le_of_ble_eq_true rfl) (by decide) (sX3_add H55 hI59 38 0 ) (fun H67 r68 q69 o70 => ?_)
          obtain ⟨hI71, hf72, y76, rfl, f73, f74, f75⟩ := q69
          clear o70
          have hf77 := fz_fr_tr hf64 hf72 (show fz_su [(21, 4), (22, 99999), (23, 99999)] [(20, 3), (20, 4), (21, 4), (22, 99999), (23, 99999)] = true from rfl)
          have t78 : H67 20 3 = H55 20 3 := hf72 20 3 rfl
          have t79 : H67 20 4 = H55 20 4 := hf72 20 4 rfl
          refine fz_pop rfl kX5_readA rfl ?_
          have k80 := fl_st_it ⟨by omega, by omega⟩ k50 (by decide) f63 (congrArg (fun g => fl_eB g (fl_pO g 6)) (fl_gC_e (funext fun s => hf44 26 s rfl) (hf44 20 2 rfl))) f75 rfl (by omega) (hf72 20 3 rfl) (hf72 20 4 rfl)
          refine fz_iincN (ls' := [(2, fz_i (x16 + 1)), (0, fz_r 20), (1, fz_i 0)]) kX5_readA rfl (by decide) rfl (by omega) rfl ?_
          refine fz_goto (tgt := 7) kX5_readA rfl (by decide) ?_
          exact ih22 (x16 + 1) H67 hI71 hf77 (by omega) (by omega) (by omega) (k80) (by omega)
  exact lp21 _ 0 H4 hI8 hf13 (by omega) (by omega) (by omega) (fl_st_k k14 (by omega)) (Nat.lt_succ_self _)

abbrev qX5_readE_0 (h : fz_H) : fz_H → Option fz_V → Prop := fun h' r0 => fz_Iv h' ∧ fz_fr [(20, 3), (20, 4), (21, 4), (22, 99999), (23, 99999)] h h' ∧ r0 = none ∧ (h 20 4 = 0 ∨ (h' 20 4 = 1 ∧ h' 20 3 = h 20 3)) ∧ (h' 20 4 = 1 ∨ (h' 21 4 - h 21 4 ≤ h' 20 3 - h 20 3 ∧ h 20 3 + 1 ≤ h' 20 3)) ∧ fl_rdC h h' (fl_eE (fl_gC h) (fl_pO (fl_gC h) 6) (h 20 3))
set_option maxHeartbeats 1000000 in
set_option maxRecDepth 100000 in
theorem sX5_readE_0 (h : fz_H) (hI : fz_Iv h) (hp0 : h 20 4 = 1 ∨ h 21 4 ≤ h 20 3) : fz_R 43 mX5_readE 0 [(0, fz_r 20), (1, fz_i 0)] [] h (qX5_readE_0 h) := by
  have hf : fz_fr [(20, 3), (20, 4), (21, 4), (22, 99999), (23, 99999)] h h := fz_fr_rf
  have b1 : 0 ≤ h 20 4 ∧ h 20 4 ≤ 1 := hI.1 20 _
  have b2 : 0 ≤ h 21 4 ∧ h 21 4 ≤ 128 := hI.1 21 _
  have b3 : 0 ≤ h 20 3 ∧ h 20 3 ≤ 120 := hI.1 20 _
  refine fz_aload_n kX5_readE rfl rfl ?_
  refine fz_iload_n kX5_readE rfl rfl ?_
  refine fz_callV (d' := 42) (M' := mX5_readA) (As := [fz_i 0]) (st := []) kX5_readE rfl rfl vX5_readA rfl rfl rfl rfl (Nat.le_of_ble_eq_true rfl) (Nat.le_of_ble_eq_true rfl) (by decide) (sX5_readA_0 h hI  (by omega)) (fun H4 r5 q6 o7 => ?_)
  obtain ⟨hI8, hf9, rfl, f10, f11, f12⟩ := q6
  clear o7
  have hf13 := fz_fr_tr hf hf9 (show fz_su [(20, 3), (20, 4), (21, 4), (22, 99999), (23, 99999)] [(20, 3), (20, 4), (21, 4), (22, 99999), (23, 99999)] = true from rfl)
  have k14 := fl_st_1 (op := fl_oE) (k := 200) (g := fl_gC h) f12 rfl
  refine fz_iconst ⟨by decide, by decide⟩ kX5_readE rfl ?_
  refine fz_istore_n (ls' := [(2, fz_i 0), (0, fz_r 20), (1, fz_i 0)]) kX5_readE rfl (by decide) rfl ?_
  have lp21 : ∀ (n20 : Nat) (x16 : Int) (H17 : fz_H), fz_Iv H17 → fz_fr [(20, 3), (20, 4), (21, 4), (22, 99999), (23, 99999)] h H17 → (0 ≤ x16 ∧ x16 ≤ 2147483647) → (h 20 4 = 0 ∨ (H17 20 4 = 1 ∧ H17 20 3 = h 20 3)) → (H17 20 4 = 1 ∨ (H17 21 4 - h 21 4 ≤ H17 20 3 - h 20 3 ∧ h 20 3 + x16 + 1 ≤ H17 20 3)) → (fl_stC h H17 (fl_eE (fl_gC h) (fl_pO (fl_gC h) 6) (h 20 3)) (fl_ch fl_oE (fl_eA (fl_gC h) (fl_pO (fl_gC h) 6)) (fl_gC h) (200 - x16).toNat (H17 20 3))) → (120 - x16).toNat < n20 → fz_R 43 mX5_readE 7 [(2, fz_i x16), (0, fz_r 20), (1, fz_i 0)] [] H17 (qX5_readE_0 h) := by
    intro n20
    induction n20 with
    | zero => intro x16 H17 hI18 hf19 hv24 hv25 hv26 hv27 hm23; exact absurd hm23 (by omega)
    | succ n20 ih22 =>
      intro x16 H17 hI18 hf19 hv24 hv25 hv26 hv27 hm23
      refine fz_iload_n kX5_readE rfl rfl ?_
      refine fz_bipush ⟨by decide, by decide⟩ kX5_readE rfl ?_
      refine fz_icmp_ge (tgt := 44) kX5_readE rfl (by decide) (fun c28 => ?_) (fun c28 => ?_)
      · have k29 : 0 ≤ H17 20 3 ∧ H17 20 3 ≤ 120 := hI18.1 20 _
        exact fz_vret kX5_readE rfl rfl ⟨hI18, hf19, rfl, (by omega), (by omega), (by first | exact fl_st_x0 (fl_st_nx (y := 0) (fl_st_k (k' := (200 - (x16 + 1)).toNat + 1) hv27 (by omega)) (fl_gC_e (funext fun s => lost 26 s rfl) (lost 20 2 rfl)) (fl_nxE lost (Or.inr ⟨by omega, rfl⟩)) (lost 20 4 rfl) (lost 21 4 rfl) (funext fun s => lost 22 s rfl) (funext fun s => lost 23 s rfl)) rfl | exact fl_st_xf hv27 (by omega))⟩
      · have k31 : 0 ≤ fl_lh H17 → H17 20 4 = 0 := fl_lh_0
        refine fz_aload_n kX5_readE rfl rfl ?_
        refine fz_bipush ⟨by decide, by decide⟩ kX5_readE rfl ?_
        have b32 : 0 ≤ H17 20 3 ∧ H17 20 3 ≤ 120 := hI18.1 20 _
        have b33 : 0 ≤ h 20 2 ∧ h 20 2 ≤ 120 := hI.1 20 _
        have e34 : H17 20 2 = h 20 2 := hf19 20 2 rfl
        refine fz_callV (d' := 1) (M' := mX5_goesOnWith) (As := [fz_i 124]) (st := []) kX5_readE rfl rfl vX5_goesOnWith rfl rfl rfl rfl (Nat.le_of_ble_eq_true rfl) (Nat.le_of_ble_eq_true rfl) (by decide) (sX5_goesOnWith H17 hI18 124 (by omega)) (fun H35 r36 q37 o38 => ?_)
        obtain ⟨hI39, hf40, y42, rfl, p43, f41⟩ := q37
        clear o38
        have hf44 := fz_fr_tr hf19 hf40 (show fz_su [(20, 3)] [(20, 3), (20, 4), (21, 4), (22, 99999), (23, 99999)] = true from rfl)
        have t45 : H35 20 4 = H17 20 4 := hf40 20 4 rfl
        have t46 : H35 21 4 = H17 21 4 := hf40 21 4 rfl
        refine fz_if_eq (tgt := 44) kX5_readE rfl (by decide) (fun c47 => ?_) (fun c47 => ?_)
        · have k48 : 0 ≤ H35 20 3 ∧ H35 20 3 ≤ 120 := hI39.1 20 _
          exact fz_vret kX5_readE rfl rfl ⟨hI39, hf44, rfl, (by omega), (by omega), (by first | exact fl_st_x0 (fl_st_nx (y := 0) (fl_st_k (k' := (200 - (x16 + 1)).toNat + 1) hv27 (by omega)) (fl_gC_e (funext fun s => hf19 26 s rfl) (hf19 20 2 rfl)) (fl_nxE f41 (Or.inr ⟨by omega, rfl⟩)) (hf40 20 4 rfl) (hf40 21 4 rfl) (funext fun s => hf40 22 s rfl) (funext fun s => hf40 23 s rfl)) rfl | exact fl_st_xf hv27 (by omega))⟩
        · have k50 := fl_st_nx (y := 124) (fl_st_k (k' := (200 - (x16 + 1)).toNat + 1) hv27 (by omega)) (fl_gC_e (funext fun s => hf19 26 s rfl) (hf19 20 2 rfl)) (fl_nxE f41 (Or.inl ⟨by omega, rfl⟩)) (hf40 20 4 rfl) (hf40 21 4 rfl) (funext fun s => hf40 22 s rfl) (funext fun s => hf40 23 s rfl)
          refine fz_aload_n kX5_readE rfl rfl ?_
          refine fz_iload_n kX5_readE rfl rfl ?_
          have b52 : 0 ≤ H35 20 4 ∧ H35 20 4 ≤ 1 := hI39.1 20 _
          have b53 : 0 ≤ H35 21 4 ∧ H35 21 4 ≤ 128 := hI39.1 21 _
          have b54 : 0 ≤ H35 20 3 ∧ H35 20 3 ≤ 120 := hI39.1 20 _
          refine fz_callV (d' := 42) (M' := mX5_readA) (As := [fz_i 0]) (st := []) kX5_readE rfl rfl vX5_readA rfl rfl rfl rfl (Nat.le_of_ble_eq_true rfl) (Nat.le_of_ble_eq_true rfl) (by decide) (sX5_readA_0 H35 hI39  (by omega)) (fun H55 r56 q57 o58 => ?_)
          obtain ⟨hI59, hf60, rfl, f61, f62, f63⟩ := q57
          clear o58
          have hf64 := fz_fr_tr hf44 hf60 (show fz_su [(20, 3), (20, 4), (21, 4), (22, 99999), (23, 99999)] [(20, 3), (20, 4), (21, 4), (22, 99999), (23, 99999)] = true from rfl)
          have k65 : 0 ≤ H55 20 3 ∧ H55 20 3 ≤ 120 := hI59.1 20 _
          refine fz_aload_n kX5_readE rfl rfl ?_
          refine fz_getR (t := 21) kX5_readE rfl rfl ?_
          refine fz_bipush ⟨by decide, by decide⟩ kX5_readE rfl ?_
          refine fz_iconst ⟨by decide, by decide⟩ kX5_readE rfl ?_
          have b66 : 0 ≤ H55 21 4 ∧ H55 21 4 ≤ 128 := hI59.1 21 _
          refine fz_callV (d' := 0) (M' := mX3_add) (As := [fz_i 124, fz_i 0]) (st := []) kX5_readE rfl rfl vX3_add rfl rfl rfl rfl (Nat.le_of_ble_eq_true rfl) (Nat.le_of_ble_eq_true rfl) (by decide) (sX3_add H55 hI59 124 0 ) (fun H67 r68 q69 o70 => ?_)
          obtain ⟨hI71, hf72, y76, rfl, f73, f74, f75⟩ := q69
          clear o70
          have hf77 := fz_fr_tr hf64 hf72 (show fz_su [(21, 4), (22, 99999), (23, 99999)] [(20, 3), (20, 4), (21, 4), (22, 99999), (23, 99999)] = true from rfl)
          have t78 : H67 20 3 = H55 20 3 := hf72 20 3 rfl
          have t79 : H67 20 4 = H55 20 4 := hf72 20 4 rfl
          refine fz_pop rfl kX5_readE rfl ?_
          have k80 := fl_st_it ⟨by omega, by omega⟩ k50 (by decide) f63 (congrArg (fun g => fl_eA g (fl_pO g 6)) (fl_gC_e (funext fun s => hf44 26 s rfl) (hf44 20 2 rfl))) f75 rfl (by omega) (hf72 20 3 rfl) (hf72 20 4 rfl)
          refine fz_iincN (ls' := [(2, fz_i (x16 + 1)), (0, fz_r 20), (1, fz_i 0)]) kX5_readE rfl (by decide) rfl (by omega) rfl ?_
          refine fz_goto (tgt := 7) kX5_readE rfl (by decide) ?_
          exact ih22 (x16 + 1) H67 hI71 hf77 (by omega) (by omega) (by omega) (k80) (by omega)
  exact lp21 _ 0 H4 hI8 hf13 (by omega) (by omega) (by omega) (fl_st_k k14 (by omega)) (Nat.lt_succ_self _)

abbrev qX5_readLine (h : fz_H) : fz_H → Option fz_V → Prop := fun h' r0 => fz_Iv h' ∧ fz_fr [(20, 3), (20, 4), (21, 4), (22, 99999), (23, 99999)] h h' ∧ r0 = none ∧ (h 20 4 = 0 ∨ (h' 20 4 = 1 ∧ h' 20 3 = h 20 3)) ∧ (h' 20 4 = 1 ∨ (h' 21 4 ≤ h' 20 3 + 1 ∧ h 20 3 + 1 ≤ h' 20 3)) ∧ fl_rlC h h'
set_option maxHeartbeats 1000000 in
set_option maxRecDepth 100000 in
theorem sX5_readLine (h : fz_H) (hI : fz_Iv h) (hp0 : h 20 4 = 1 ∨ h 21 4 ≤ h 20 3) (hp1 : h 20 3 ≤ h 20 2) : fz_R 44 mX5_readLine 0 [(0, fz_r 20)] [] h (qX5_readLine h) := by
  have hf : fz_fr [(20, 3), (20, 4), (21, 4), (22, 99999), (23, 99999)] h h := fz_fr_rf
  have b1 : 0 ≤ h 20 4 ∧ h 20 4 ≤ 1 := hI.1 20 _
  have b2 : 0 ≤ h 21 4 ∧ h 21 4 ≤ 128 := hI.1 21 _
  have b3 : 0 ≤ h 20 3 ∧ h 20 3 ≤ 120 := hI.1 20 _
  have b4 : 0 ≤ h 20 2 ∧ h 20 2 ≤ 120 := hI.1 20 _
  refine fz_aload_n kX5_readLine rfl rfl ?_
  refine fz_iconst ⟨by decide, by decide⟩ kX5_readLine rfl ?_
  refine fz_callV (d' := 43) (M' := mX5_readE) (As := [fz_i 0]) (st := []) kX5_readLine rfl rfl vX5_readE rfl rfl rfl rfl (Nat.le_of_ble_eq_true rfl) (Nat.le_of_ble_eq_true rfl) (by decide) (sX5_readE_0 h hI  (by omega)) (fun H5 r6 q7 o8 => ?_)
  obtain ⟨hI9, hf10, rfl, f11, f12, f13⟩ := q7
  clear o8
  have hf14 := fz_fr_tr hf hf10 (show fz_su [(20, 3), (20, 4), (21, 4), (22, 99999), (23, 99999)] [(20, 3), (20, 4), (21, 4), (22, 99999), (23, 99999)] = true from rfl)
  have k15 : 0 ≤ fl_lh H5 → H5 20 4 = 0 := fl_lh_0
  refine fz_iconst ⟨by decide, by decide⟩ kX5_readLine rfl ?_
  refine fz_istore_n (ls' := [(1, fz_i (-1)), (0, fz_r 20)]) kX5_readLine rfl (by decide) rfl ?_
  refine fz_aload_n kX5_readLine rfl rfl ?_
  refine fz_bipush ⟨by decide, by decide⟩ kX5_readLine rfl ?_
  have b16 : 0 ≤ H5 20 3 ∧ H5 20 3 ≤ 120 := hI9.1 20 _
  have e17 : H5 20 2 = h 20 2 := hf14 20 2 rfl
  refine fz_callV (d' := 1) (M' := mX5_goesOnWith) (As := [fz_i 63]) (st := []) kX5_readLine rfl rfl vX5_goesOnWith rfl rfl rfl rfl (Nat.le_of_ble_eq_true rfl) (Nat.le_of_ble_eq_true rfl) (by decide) (sX5_goesOnWith H5 hI9 63 (by omega)) (fun H18 r19 q20 o21 => ?_)
  obtain ⟨hI22, hf23, y25, rfl, p26, f24⟩ := q20
  clear o21
  have hf27 := fz_fr_tr hf14 hf23 (show fz_su [(20, 3)] [(20, 3), (20, 4), (21, 4), (22, 99999), (23, 99999)] = true from rfl)
  have t28 : H18 20 4 = H5 20 4 := hf23 20 4 rfl
  have t29 : H18 21 4 = H5 21 4 := hf23 21 4 rfl
  refine fz_if_eq (tgt := 32) kX5_readLine rfl (by decide) (fun c30 => ?_) (fun c30 => ?_)
  · have k31 : 0 ≤ H18 20 3 ∧ H18 20 3 ≤ 120 := hI22.1 20 _
    refine fz_aload_n kX5_readLine rfl rfl ?_
    refine fz_getR (t := 21) kX5_readLine rfl rfl ?_
    refine fz_bipush ⟨by decide, by decide⟩ kX5_readLine rfl ?_
    refine fz_iconst ⟨by decide, by decide⟩ kX5_readLine rfl ?_
    have b32 : 0 ≤ H18 21 4 ∧ H18 21 4 ≤ 128 := hI22.1 21 _
    refine fz_callV (d' := 0) (M' := mX3_add) (As := [fz_i 59, fz_i 0]) (st := []) kX5_readLine rfl rfl vX3_add rfl rfl rfl rfl (Nat.le_of_ble_eq_true rfl) (Nat.le_of_ble_eq_true rfl) (by decide) (sX3_add H18 hI22 59 0 ) (fun H33 r34 q35 o36 => ?_)
    obtain ⟨hI37, hf38, y42, rfl, f39, f40, f41⟩ := q35
    clear o36
    have hf43 := fz_fr_tr hf27 hf38 (show fz_su [(21, 4), (22, 99999), (23, 99999)] [(20, 3), (20, 4), (21, 4), (22, 99999), (23, 99999)] = true from rfl)
    have t44 : H33 20 3 = H18 20 3 := hf38 20 3 rfl
    have t45 : H33 20 4 = H18 20 4 := hf38 20 4 rfl
    refine fz_pop rfl kX5_readLine rfl ?_
    refine fz_aload_n kX5_readLine rfl rfl ?_
    refine fz_getR (t := 21) kX5_readLine rfl rfl ?_
    refine fz_iload_n kX5_readLine rfl rfl ?_
    refine fz_callV (d' := 0) (M' := mX3_leadHere) (As := [fz_i (-1)]) (st := []) kX5_readLine rfl rfl vX3_leadHere rfl rfl rfl rfl (Nat.le_of_ble_eq_true rfl) (Nat.le_of_ble_eq_true rfl) (by decide) (sX3_leadHere H33 hI37 (-1) ) (fun H46 r47 q48 o49 => ?_)
    obtain ⟨hI50, hf51, rfl, f52⟩ := q48
    clear o49
    have hf53 := fz_fr_tr hf43 hf51 (show fz_su [(23, 99999)] [(20, 3), (20, 4), (21, 4), (22, 99999), (23, 99999)] = true from rfl)
    have t54 : H46 20 3 = H33 20 3 := hf51 20 3 rfl
    have t55 : H46 20 4 = H33 20 4 := hf51 20 4 rfl
    have t56 : H46 21 4 = H33 21 4 := hf51 21 4 rfl
    exact fz_vret kX5_readLine rfl rfl ⟨hI50, hf53, rfl, (by omega), (by omega), (by first | exact fl_rl_2 f13 (fl_gC_e (funext fun s => hf10 26 s rfl) (hf10 20 2 rfl)) (by omega) (by omega) (hf23 20 4 rfl) (hf23 21 4 rfl) (funext fun s => hf23 22 s rfl) (funext fun s => hf23 23 s rfl) f41 (by omega) (lost 20 3 rfl) (lost 20 4 rfl) (fl_gC_e (funext fun s => lost 26 s rfl) (lost 20 2 rfl)) lost lost (by omega) (hf38 20 3 rfl) (hf38 20 4 rfl) f52 (hf51 20 3 rfl) (hf51 20 4 rfl) ⟨by omega, by omega, by omega⟩ ⟨by omega, by omega⟩ | exact fl_rl_1 f13 (fl_gC_e (funext fun s => hf10 26 s rfl) (hf10 20 2 rfl)) (by omega) (by omega) (hf23 20 4 rfl) (hf23 21 4 rfl) (funext fun s => hf23 22 s rfl) (funext fun s => hf23 23 s rfl) f41 (by omega) (hf38 20 3 rfl) (hf38 20 4 rfl) f52 (by omega) ⟨by omega, by omega⟩)⟩
  · refine fz_aload_n kX5_readLine rfl rfl ?_
    refine fz_getR (t := 21) kX5_readLine rfl rfl ?_
    refine fz_bipush ⟨by decide, by decide⟩ kX5_readLine rfl ?_
    refine fz_iconst ⟨by decide, by decide⟩ kX5_readLine rfl ?_
    have b58 : 0 ≤ H18 21 4 ∧ H18 21 4 ≤ 128 := hI22.1 21 _
    refine fz_callV (d' := 0) (M' := mX3_add) (As := [fz_i 63, fz_i 0]) (st := []) kX5_readLine rfl rfl vX3_add rfl rfl rfl rfl (Nat.le_of_ble_eq_true rfl) (Nat.le_of_ble_eq_true rfl) (by decide) (sX3_add H18 hI22 63 0 ) (fun H59 r60 q61 o62 => ?_)
    obtain ⟨hI63, hf64, y68, rfl, f65, f66, f67⟩ := q61
    clear o62
    have hf69 := fz_fr_tr hf27 hf64 (show fz_su [(21, 4), (22, 99999), (23, 99999)] [(20, 3), (20, 4), (21, 4), (22, 99999), (23, 99999)] = true from rfl)
    have t70 : H59 20 3 = H18 20 3 := hf64 20 3 rfl
    have t71 : H59 20 4 = H18 20 4 := hf64 20 4 rfl
    refine fz_istore_n (ls' := [(1, fz_i y68), (0, fz_r 20)]) kX5_readLine rfl (by decide) rfl ?_
    refine fz_aload_n kX5_readLine rfl rfl ?_
    refine fz_iconst ⟨by decide, by decide⟩ kX5_readLine rfl ?_
    have b72 : 0 ≤ H59 20 4 ∧ H59 20 4 ≤ 1 := hI63.1 20 _
    have b73 : 0 ≤ H59 21 4 ∧ H59 21 4 ≤ 128 := hI63.1 21 _
    have b74 : 0 ≤ H59 20 3 ∧ H59 20 3 ≤ 120 := hI63.1 20 _
    refine fz_callV (d' := 43) (M' := mX5_readE) (As := [fz_i 0]) (st := []) kX5_readLine rfl rfl vX5_readE rfl rfl rfl rfl (Nat.le_of_ble_eq_true rfl) (Nat.le_of_ble_eq_true rfl) (by decide) (sX5_readE_0 H59 hI63  (by omega)) (fun H75 r76 q77 o78 => ?_)
    obtain ⟨hI79, hf80, rfl, f81, f82, f83⟩ := q77
    clear o78
    have hf84 := fz_fr_tr hf69 hf80 (show fz_su [(20, 3), (20, 4), (21, 4), (22, 99999), (23, 99999)] [(20, 3), (20, 4), (21, 4), (22, 99999), (23, 99999)] = true from rfl)
    have k85 : 0 ≤ H75 20 3 ∧ H75 20 3 ≤ 120 := hI79.1 20 _
    refine fz_aload_n kX5_readLine rfl rfl ?_
    refine fz_getR (t := 21) kX5_readLine rfl rfl ?_
    refine fz_bipush ⟨by decide, by decide⟩ kX5_readLine rfl ?_
    refine fz_iconst ⟨by decide, by decide⟩ kX5_readLine rfl ?_
    have b86 : 0 ≤ H75 21 4 ∧ H75 21 4 ≤ 128 := hI79.1 21 _
    refine fz_callV (d' := 0) (M' := mX3_add) (As := [fz_i 59, fz_i 0]) (st := []) kX5_readLine rfl rfl vX3_add rfl rfl rfl rfl (Nat.le_of_ble_eq_true rfl) (Nat.le_of_ble_eq_true rfl) (by decide) (sX3_add H75 hI79 59 0 ) (fun H87 r88 q89 o90 => ?_)
    obtain ⟨hI91, hf92, y96, rfl, f93, f94, f95⟩ := q89
    clear o90
    have hf97 := fz_fr_tr hf84 hf92 (show fz_su [(21, 4), (22, 99999), (23, 99999)] [(20, 3), (20, 4), (21, 4), (22, 99999), (23, 99999)] = true from rfl)
    have t98 : H87 20 3 = H75 20 3 := hf92 20 3 rfl
    have t99 : H87 20 4 = H75 20 4 := hf92 20 4 rfl
    refine fz_pop rfl kX5_readLine rfl ?_
    refine fz_aload_n kX5_readLine rfl rfl ?_
    refine fz_getR (t := 21) kX5_readLine rfl rfl ?_
    refine fz_iload_n kX5_readLine rfl rfl ?_
    refine fz_callV (d' := 0) (M' := mX3_leadHere) (As := [fz_i y68]) (st := []) kX5_readLine rfl rfl vX3_leadHere rfl rfl rfl rfl (Nat.le_of_ble_eq_true rfl) (Nat.le_of_ble_eq_true rfl) (by decide) (sX3_leadHere H87 hI91 y68 ) (fun H100 r101 q102 o103 => ?_)
    obtain ⟨hI104, hf105, rfl, f106⟩ := q102
    clear o103
    have hf107 := fz_fr_tr hf97 hf105 (show fz_su [(23, 99999)] [(20, 3), (20, 4), (21, 4), (22, 99999), (23, 99999)] = true from rfl)
    have t108 : H100 20 3 = H87 20 3 := hf105 20 3 rfl
    have t109 : H100 20 4 = H87 20 4 := hf105 20 4 rfl
    have t110 : H100 21 4 = H87 21 4 := hf105 21 4 rfl
    exact fz_vret kX5_readLine rfl rfl ⟨hI104, hf107, rfl, (by omega), (by omega), (by first | exact fl_rl_2 f13 (fl_gC_e (funext fun s => hf10 26 s rfl) (hf10 20 2 rfl)) (by omega) (by omega) (hf23 20 4 rfl) (hf23 21 4 rfl) (funext fun s => hf23 22 s rfl) (funext fun s => hf23 23 s rfl) f67 (by omega) (hf64 20 3 rfl) (hf64 20 4 rfl) (fl_gC_e (funext fun s => hf69 26 s rfl) (hf69 20 2 rfl)) f83 f95 (by omega) (hf92 20 3 rfl) (hf92 20 4 rfl) f106 (hf105 20 3 rfl) (hf105 20 4 rfl) ⟨by omega, by omega, by omega⟩ ⟨by omega, by omega⟩ | exact fl_rl_1 f13 (fl_gC_e (funext fun s => hf10 26 s rfl) (hf10 20 2 rfl)) (by omega) (by omega) (hf23 20 4 rfl) (hf23 21 4 rfl) (funext fun s => hf23 22 s rfl) (funext fun s => hf23 23 s rfl) f67 (by omega) (hf92 20 3 rfl) (hf92 20 4 rfl) f106 (by omega) ⟨by omega, by omega⟩)⟩

abbrev qX5_readText (h : fz_H) : fz_H → Option fz_V → Prop := fun h' r0 => fz_Iv h' ∧ fz_fr [(20, 3), (20, 4), (21, 4), (22, 99999), (23, 99999)] h h' ∧ ∃ r : Int, r0 = some (fz_i r) ∧ ((-1) ≤ r ∧ r ≤ 120) ∧ (fl_rtC h h' r)
set_option maxHeartbeats 1000000 in
set_option maxRecDepth 100000 in
theorem sX5_readText (h : fz_H) (hI : fz_Iv h) : fz_R 45 mX5_readText 0 [(0, fz_r 20)] [] h (qX5_readText h) := by
  have hf : fz_fr [(20, 3), (20, 4), (21, 4), (22, 99999), (23, 99999)] h h := fz_fr_rf
  refine fz_aload_n kX5_readText rfl rfl ?_
  refine fz_iconst ⟨by decide, by decide⟩ kX5_readText rfl ?_
  refine fz_putI kX5_readText rfl rfl rfl ?_
  refine fz_nmu (S := [(20, 3), (20, 4), (21, 4), (22, 99999), (23, 99999)]) (h0 := h) (fz_Iv_up hI (by decide) (show (0 : Int) ≤ 0 by decide) (show (0 : Int) ≤ 120 by decide)) (fz_fr_up hf rfl) (fun H1 hI2 hf3 e4 => ?_)
  have k5 : H1 20 3 = 0 := by rw [e4]; exact fz_up_e
  have t6 : H1 20 4 = h 20 4 := by rw [e4]; exact fz_up_s (by decide)
  have t7 : H1 21 4 = h 21 4 := by rw [e4]; exact fz_up_o (by decide)
  refine fz_aload_n kX5_readText rfl rfl ?_
  refine fz_iconst ⟨by decide, by decide⟩ kX5_readText rfl ?_
  refine fz_putZ kX5_readText rfl rfl rfl (by omega) ?_
  refine fz_nmu (S := [(20, 3), (20, 4), (21, 4), (22, 99999), (23, 99999)]) (h0 := h) (fz_Iv_up hI2 (by decide) (show (0 : Int) ≤ 0 by decide) (show (0 : Int) ≤ 1 by decide)) (fz_fr_up hf3 rfl) (fun H8 hI9 hf10 e11 => ?_)
  have k12 : H8 20 3 = 0 := by rw [e11]; exact (fz_up_s (by decide)).trans k5
  have k13 : H8 20 4 = 0 := by rw [e11]; exact fz_up_e
  have t14 : H8 20 3 = H1 20 3 := by rw [e11]; exact fz_up_s (by decide)
  have t15 : H8 21 4 = H1 21 4 := by rw [e11]; exact fz_up_o (by decide)
  refine fz_aload_n kX5_readText rfl rfl ?_
  refine fz_getR (t := 21) kX5_readText rfl rfl ?_
  refine fz_callV (d' := 0) (M' := mX3_clear) (As := []) (st := []) kX5_readText rfl rfl vX3_clear rfl rfl rfl rfl (Nat.le_of_ble_eq_true rfl) (Nat.le_of_ble_eq_true rfl) (by decide) (sX3_clear H8 hI9  ) (fun H16 r17 q18 o19 => ?_)
  obtain ⟨hI20, hf21, rfl, f22⟩ := q18
  clear o19
  have hf23 := fz_fr_tr hf10 hf21 (show fz_su [(21, 4)] [(20, 3), (20, 4), (21, 4), (22, 99999), (23, 99999)] = true from rfl)
  have k24 : H16 20 3 = 0 := (hf21 20 3 rfl).trans k12
  have k25 : H16 20 4 = 0 := (hf21 20 4 rfl).trans k13
  have t26 : H16 20 3 = H8 20 3 := hf21 20 3 rfl
  have t27 : H16 20 4 = H8 20 4 := hf21 20 4 rfl
  refine fz_aload_n kX5_readText rfl rfl ?_
  have k28 : H16 20 2 = h 20 2 := hf23 20 2 rfl
  have b29 : 0 ≤ H16 20 4 ∧ H16 20 4 ≤ 1 := hI20.1 20 _
  have b30 : 0 ≤ H16 21 4 ∧ H16 21 4 ≤ 128 := hI20.1 21 _
  have b31 : 0 ≤ H16 20 3 ∧ H16 20 3 ≤ 120 := hI20.1 20 _
  have b32 : 0 ≤ h 20 2 ∧ h 20 2 ≤ 120 := hI.1 20 _
  have e33 : H16 20 2 = h 20 2 := hf23 20 2 rfl
  refine fz_callV (d' := 44) (M' := mX5_readLine) (As := []) (st := []) kX5_readText rfl rfl vX5_readLine rfl rfl rfl rfl (Nat.le_of_ble_eq_true rfl) (Nat.le_of_ble_eq_true rfl) (by decide) (sX5_readLine H16 hI20  (by omega) (by omega)) (fun H34 r35 q36 o37 => ?_)
  obtain ⟨hI38, hf39, rfl, f40, f41, f42⟩ := q36
  clear o37
  have hf43 := fz_fr_tr hf23 hf39 (show fz_su [(20, 3), (20, 4), (21, 4), (22, 99999), (23, 99999)] [(20, 3), (20, 4), (21, 4), (22, 99999), (23, 99999)] = true from rfl)
  have k44 := fl_txS_1 (h := h) (n := h 20 2) f42 (fl_gC_e (funext fun s => hf23 26 s rfl) (hf23 20 2 rfl)) (fl_gl_lt (f := h 26) (n := h 20 2)) (by omega) (by omega) (by omega) (by omega)
  have k46 : H34 20 4 = 0 → H34 20 3 ≤ h 20 2 := fl_txS_b k44
  have k47 : 0 ≤ H34 20 4 ∧ H34 20 4 ≤ 1 := hI38.1 20 _
  refine fz_iconst ⟨by decide, by decide⟩ kX5_readText rfl ?_
  refine fz_istore_n (ls' := [(1, fz_i 0), (0, fz_r 20)]) kX5_readText rfl (by decide) rfl ?_
  have lp53 : ∀ (n52 : Nat) (x48 : Int) (H49 : fz_H), fz_Iv H49 → fz_fr [(20, 3), (20, 4), (21, 4), (22, 99999), (23, 99999)] h H49 → (0 ≤ x48 ∧ x48 ≤ 2147483647) → (H49 20 4 = 1 ∨ (H49 21 4 ≤ H49 20 3 + 1 ∧ x48 + 1 ≤ H49 20 3 ∧ H49 20 3 ≤ h 20 2)) → (fl_txS (fl_gC h) (h 20 2) H16 H49 (199 - x48).toNat) → (120 - x48).toNat < n52 → fz_R 45 mX5_readText 23 [(1, fz_i x48), (0, fz_r 20)] [] H49 (qX5_readText h) := by
    intro n52
    induction n52 with
    | zero => intro x48 H49 hI50 hf51 hv56 hv57 hv58 hm55; exact absurd hm55 (by omega)
    | succ n52 ih54 =>
      intro x48 H49 hI50 hf51 hv56 hv57 hv58 hm55
      refine fz_iload_n kX5_readText rfl rfl ?_
      refine fz_bipush ⟨by decide, by decide⟩ kX5_readText rfl ?_
      refine fz_icmp_ge (tgt := 48) kX5_readText rfl (by decide) (fun c59 => ?_) (fun c59 => ?_)
      · have k60 : 0 ≤ H49 20 3 ∧ H49 20 3 ≤ 120 := hI50.1 20 _
        have k61 : 0 ≤ H49 20 4 ∧ H49 20 4 ≤ 1 := hI50.1 20 _
        refine fz_aload_n kX5_readText rfl rfl ?_
        obtain ⟨v62, e63⟩ : ∃ z, H49 20 (4) = z := ⟨_, rfl⟩
        refine fz_getV (v := v62) kX5_readText rfl rfl e63 ?_
        have b64 : 0 ≤ v62 ∧ v62 ≤ 1 := by rw [← e63]; exact hI50.1 20 _
        refine fz_if_ne (tgt := 66) kX5_readText rfl (by decide) (fun c65 => ?_) (fun c65 => ?_)
        · refine fz_aload_n kX5_readText rfl rfl ?_
          obtain ⟨v66, e67⟩ : ∃ z, H49 20 (3) = z := ⟨_, rfl⟩
          refine fz_getV (v := v66) kX5_readText rfl rfl e67 ?_
          have b68 : 0 ≤ v66 ∧ v66 ≤ 120 := by rw [← e67]; exact hI50.1 20 _
          refine fz_goto (tgt := 74) kX5_readText rfl (by decide) ?_
          exact fz_iret kX5_readText rfl rfl (fun _ => ⟨hI50, hf51, _, rfl, (by omega), (by first | exact fl_rt_in hv58 (fl_gC_e (funext fun s => lost 26 s rfl) (lost 20 2 rfl)) (by omega) (lost 20 2 rfl).symm (Or.inl ⟨by omega, by omega⟩) (by omega) (lost 20 4 rfl) (lost 21 4 rfl) (funext fun s => lost 22 s rfl) (funext fun s => lost 23 s rfl) (by omega) (by omega) | exact fl_rt_in hv58 (fl_gC_e (funext fun s => hf51 26 s rfl) (hf51 20 2 rfl)) (by omega) (hf51 20 2 rfl).symm (Or.inr (by omega)) rfl rfl rfl rfl rfl (by omega) (by omega))⟩)
        · refine fz_aload_n kX5_readText rfl rfl ?_
          obtain ⟨v70, e71⟩ : ∃ z, H49 20 (3) = z := ⟨_, rfl⟩
          refine fz_getV (v := v70) kX5_readText rfl rfl e71 ?_
          have b72 : 0 ≤ v70 ∧ v70 ≤ 120 := by rw [← e71]; exact hI50.1 20 _
          refine fz_aload_n kX5_readText rfl rfl ?_
          refine fz_getV (v := h 20 2) kX5_readText rfl rfl (hf51 20 2 rfl) ?_
          have b73 : 0 ≤ h 20 2 ∧ h 20 2 ≤ 120 := hI.1 20 _
          refine fz_icmp_ge (tgt := 73) kX5_readText rfl (by decide) (fun c74 => ?_) (fun c74 => ?_)
          · refine fz_iconst ⟨by decide, by decide⟩ kX5_readText rfl ?_
            exact fz_iret kX5_readText rfl rfl (fun _ => ⟨hI50, hf51, _, rfl, (by omega), (by first | exact fl_rt_in hv58 (fl_gC_e (funext fun s => lost 26 s rfl) (lost 20 2 rfl)) (by omega) (lost 20 2 rfl).symm (Or.inl ⟨by omega, by omega⟩) (by omega) (lost 20 4 rfl) (lost 21 4 rfl) (funext fun s => lost 22 s rfl) (funext fun s => lost 23 s rfl) (by omega) (by omega) | exact fl_rt_in hv58 (fl_gC_e (funext fun s => hf51 26 s rfl) (hf51 20 2 rfl)) (by omega) (hf51 20 2 rfl).symm (Or.inr (by omega)) rfl rfl rfl rfl rfl (by omega) (by omega))⟩)
          · refine fz_aload_n kX5_readText rfl rfl ?_
            refine fz_getV (v := v70) kX5_readText rfl rfl e71 ?_
            refine fz_goto (tgt := 74) kX5_readText rfl (by decide) ?_
            exact fz_iret kX5_readText rfl rfl (fun _ => ⟨hI50, hf51, _, rfl, (by omega), (by first | exact fl_rt_in hv58 (fl_gC_e (funext fun s => lost 26 s rfl) (lost 20 2 rfl)) (by omega) (lost 20 2 rfl).symm (Or.inl ⟨by omega, by omega⟩) (by omega) (lost 20 4 rfl) (lost 21 4 rfl) (funext fun s => lost 22 s rfl) (funext fun s => lost 23 s rfl) (by omega) (by omega) | exact fl_rt_in hv58 (fl_gC_e (funext fun s => hf51 26 s rfl) (hf51 20 2 rfl)) (by omega) (hf51 20 2 rfl).symm (Or.inr (by omega)) rfl rfl rfl rfl rfl (by omega) (by omega))⟩)
      · refine fz_aload_n kX5_readText rfl rfl ?_
        refine fz_bipush ⟨by decide, by decide⟩ kX5_readText rfl ?_
        have b77 : 0 ≤ H49 20 3 ∧ H49 20 3 ≤ 120 := hI50.1 20 _
        have b78 : 0 ≤ h 20 2 ∧ h 20 2 ≤ 120 := hI.1 20 _
        have e79 : H49 20 2 = h 20 2 := hf51 20 2 rfl
        refine fz_callV (d' := 1) (M' := mX5_goesOnWith) (As := [fz_i 59]) (st := []) kX5_readText rfl rfl vX5_goesOnWith rfl rfl rfl rfl (Nat.le_of_ble_eq_true rfl) (Nat.le_of_ble_eq_true rfl) (by decide) (sX5_goesOnWith H49 hI50 59 (by omega)) (fun H80 r81 q82 o83 => ?_)
        obtain ⟨hI84, hf85, y87, rfl, p88, f86⟩ := q82
        clear o83
        have hf89 := fz_fr_tr hf51 hf85 (show fz_su [(20, 3)] [(20, 3), (20, 4), (21, 4), (22, 99999), (23, 99999)] = true from rfl)
        have t90 : H80 20 4 = H49 20 4 := hf85 20 4 rfl
        have t91 : H80 21 4 = H49 21 4 := hf85 21 4 rfl
        refine fz_if_eq (tgt := 48) kX5_readText rfl (by decide) (fun c92 => ?_) (fun c92 => ?_)
        · have k93 : 0 ≤ H80 20 3 ∧ H80 20 3 ≤ 120 := hI84.1 20 _
          have k94 : 0 ≤ H80 20 4 ∧ H80 20 4 ≤ 1 := hI84.1 20 _
          refine fz_aload_n kX5_readText rfl rfl ?_
          obtain ⟨v95, e96⟩ : ∃ z, H80 20 (4) = z := ⟨_, rfl⟩
          refine fz_getV (v := v95) kX5_readText rfl rfl e96 ?_
          have b97 : 0 ≤ v95 ∧ v95 ≤ 1 := by rw [← e96]; exact hI84.1 20 _
          refine fz_if_ne (tgt := 66) kX5_readText rfl (by decide) (fun c98 => ?_) (fun c98 => ?_)
          · refine fz_aload_n kX5_readText rfl rfl ?_
            obtain ⟨v99, e100⟩ : ∃ z, H80 20 (3) = z := ⟨_, rfl⟩
            refine fz_getV (v := v99) kX5_readText rfl rfl e100 ?_
            have b101 : 0 ≤ v99 ∧ v99 ≤ 120 := by rw [← e100]; exact hI84.1 20 _
            refine fz_goto (tgt := 74) kX5_readText rfl (by decide) ?_
            exact fz_iret kX5_readText rfl rfl (fun _ => ⟨hI84, hf89, _, rfl, (by omega), (by first | exact fl_rt_in hv58 (fl_gC_e (funext fun s => hf51 26 s rfl) (hf51 20 2 rfl)) (by omega) (hf51 20 2 rfl).symm (Or.inl ⟨by omega, by omega⟩) (by omega) (hf85 20 4 rfl) (hf85 21 4 rfl) (funext fun s => hf85 22 s rfl) (funext fun s => hf85 23 s rfl) (by omega) (by omega) | exact fl_rt_in hv58 (fl_gC_e (funext fun s => hf89 26 s rfl) (hf89 20 2 rfl)) (by omega) (hf89 20 2 rfl).symm (Or.inr (by omega)) rfl rfl rfl rfl rfl (by omega) (by omega))⟩)
          · refine fz_aload_n kX5_readText rfl rfl ?_
            obtain ⟨v103, e104⟩ : ∃ z, H80 20 (3) = z := ⟨_, rfl⟩
            refine fz_getV (v := v103) kX5_readText rfl rfl e104 ?_
            have b105 : 0 ≤ v103 ∧ v103 ≤ 120 := by rw [← e104]; exact hI84.1 20 _
            refine fz_aload_n kX5_readText rfl rfl ?_
            refine fz_getV (v := h 20 2) kX5_readText rfl rfl (hf89 20 2 rfl) ?_
            have b106 : 0 ≤ h 20 2 ∧ h 20 2 ≤ 120 := hI.1 20 _
            refine fz_icmp_ge (tgt := 73) kX5_readText rfl (by decide) (fun c107 => ?_) (fun c107 => ?_)
            · refine fz_iconst ⟨by decide, by decide⟩ kX5_readText rfl ?_
              exact fz_iret kX5_readText rfl rfl (fun _ => ⟨hI84, hf89, _, rfl, (by omega), (by first | exact fl_rt_in hv58 (fl_gC_e (funext fun s => hf51 26 s rfl) (hf51 20 2 rfl)) (by omega) (hf51 20 2 rfl).symm (Or.inl ⟨by omega, by omega⟩) (by omega) (hf85 20 4 rfl) (hf85 21 4 rfl) (funext fun s => hf85 22 s rfl) (funext fun s => hf85 23 s rfl) (by omega) (by omega) | exact fl_rt_in hv58 (fl_gC_e (funext fun s => hf89 26 s rfl) (hf89 20 2 rfl)) (by omega) (hf89 20 2 rfl).symm (Or.inr (by omega)) rfl rfl rfl rfl rfl (by omega) (by omega))⟩)
            · refine fz_aload_n kX5_readText rfl rfl ?_
              refine fz_getV (v := v103) kX5_readText rfl rfl e104 ?_
              refine fz_goto (tgt := 74) kX5_readText rfl (by decide) ?_
              exact fz_iret kX5_readText rfl rfl (fun _ => ⟨hI84, hf89, _, rfl, (by omega), (by first | exact fl_rt_in hv58 (fl_gC_e (funext fun s => hf51 26 s rfl) (hf51 20 2 rfl)) (by omega) (hf51 20 2 rfl).symm (Or.inl ⟨by omega, by omega⟩) (by omega) (hf85 20 4 rfl) (hf85 21 4 rfl) (funext fun s => hf85 22 s rfl) (funext fun s => hf85 23 s rfl) (by omega) (by omega) | exact fl_rt_in hv58 (fl_gC_e (funext fun s => hf89 26 s rfl) (hf89 20 2 rfl)) (by omega) (hf89 20 2 rfl).symm (Or.inr (by omega)) rfl rfl rfl rfl rfl (by omega) (by omega))⟩)
        · refine fz_aload_n kX5_readText rfl rfl ?_
          have k110 : H80 20 2 = h 20 2 := hf89 20 2 rfl
          have b111 : 0 ≤ H80 20 4 ∧ H80 20 4 ≤ 1 := hI84.1 20 _
          have b112 : 0 ≤ H80 21 4 ∧ H80 21 4 ≤ 128 := hI84.1 21 _
          have b113 : 0 ≤ H80 20 3 ∧ H80 20 3 ≤ 120 := hI84.1 20 _
          have e114 : H80 20 2 = h 20 2 := hf89 20 2 rfl
          refine fz_callV (d' := 44) (M' := mX5_readLine) (As := []) (st := []) kX5_readText rfl rfl vX5_readLine rfl rfl rfl rfl (Nat.le_of_ble_eq_true rfl) (Nat.le_of_ble_eq_true rfl) (by decide) (sX5_readLine H80 hI84  (by omega) (by omega)) (fun H115 r116 q117 o118 => ?_)
          obtain ⟨hI119, hf120, rfl, f121, f122, f123⟩ := q117
          clear o118
          have hf124 := fz_fr_tr hf89 hf120 (show fz_su [(20, 3), (20, 4), (21, 4), (22, 99999), (23, 99999)] [(20, 3), (20, 4), (21, 4), (22, 99999), (23, 99999)] = true from rfl)
          have k125 := fl_txS_st (k := (199 - (x48 + 1)).toNat) (fl_txS_k hv58 (by omega)) (fl_gC_e (funext fun s => hf51 26 s rfl) (hf51 20 2 rfl)) (fl_gl_lt (f := h 26) (n := h 20 2)) (by omega) (by omega) (hf85 20 4 rfl) (hf85 21 4 rfl) (funext fun s => hf85 22 s rfl) (funext fun s => hf85 23 s rfl) (fl_gC_e (funext fun s => hf89 26 s rfl) (hf89 20 2 rfl)) f123 (by omega) (by omega)
          have k127 : H115 20 4 = 0 → H115 20 3 ≤ h 20 2 := fl_txS_b k125
          have k128 : 0 ≤ H115 20 4 ∧ H115 20 4 ≤ 1 := hI119.1 20 _
          refine fz_iincN (ls' := [(1, fz_i (x48 + 1)), (0, fz_r 20)]) kX5_readText rfl (by decide) rfl (by omega) rfl ?_
          refine fz_goto (tgt := 23) kX5_readText rfl (by decide) ?_
          exact ih54 (x48 + 1) H115 hI119 hf124 (by omega) (by omega) (k125) (by omega)
  exact lp53 _ 0 H34 hI38 hf43 (by omega) (by omega) (fl_txS_k k44 (by omega)) (Nat.lt_succ_self _)
