/-! ===== what the methods keep ===== -/
abbrev qX5_readO_0 (h : fz_H) : fz_H → Option fz_V → Prop := fun h' r0 => fz_Iv h' ∧ fz_fr [(20, 3), (20, 4), (21, 4), (22, 99999), (23, 99999)] h h' ∧ r0 = none ∧ (h 20 4 = 0 ∨ (h' 20 4 = 1 ∧ h' 20 3 = h 20 3)) ∧ (h' 20 4 = 1 ∨ (h' 21 4 - h 21 4 ≤ h' 20 3 - h 20 3 ∧ h 20 3 + 1 ≤ h' 20 3)) ∧ fl_rdC h h' (fl_pO (fl_gC h) 6 (h 20 3))
theorem sX5_readO_0 (h : fz_H) (hI : fz_Iv h) (hp0 : h 20 4 = 1 ∨ h 21 4 ≤ h 20 3) : fz_R 38 mX5_readO 0 [(0, fz_r 20), (1, fz_i 0)] [] h (qX5_readO_0 h) := sX5_readO_g 5 0 30 ⟨by decide, by decide⟩ (fun h hI hp0 => sX5_readO_1 h hI hp0) (fun h hI hp0 => sX5_readE_1 h hI hp0) h hI hp0
abbrev qX5_readP_0 (h : fz_H) : fz_H → Option fz_V → Prop := fun h' r0 => fz_Iv h' ∧ fz_fr [(20, 3), (20, 4), (21, 4), (22, 99999), (23, 99999)] h h' ∧ r0 = none ∧ (h 20 4 = 0 ∨ (h' 20 4 = 1 ∧ h' 20 3 = h 20 3)) ∧ (h' 20 4 = 1 ∨ (h' 21 4 - h 21 4 ≤ h' 20 3 - h 20 3 ∧ h 20 3 + 1 ≤ h' 20 3)) ∧ fl_rdC h h' (fl_eP (fl_gC h) (fl_pO (fl_gC h) 6) (h 20 3))
theorem sX5_readP_0 (h : fz_H) (hI : fz_Iv h) (hp0 : h 20 4 = 1 ∨ h 21 4 ≤ h 20 3) : fz_R 39 mX5_readP 0 [(0, fz_r 20), (1, fz_i 0)] [] h (qX5_readP_0 h) := sX5_readP_g 5 0 30 ⟨by decide, by decide⟩ (fun h hI hp0 => sX5_readO_1 h hI hp0) (fun h hI hp0 => sX5_readE_1 h hI hp0) h hI hp0
abbrev qX5_readS_0 (h : fz_H) : fz_H → Option fz_V → Prop := fun h' r0 => fz_Iv h' ∧ fz_fr [(20, 3), (20, 4), (21, 4), (22, 99999), (23, 99999)] h h' ∧ r0 = none ∧ (h 20 4 = 0 ∨ (h' 20 4 = 1 ∧ h' 20 3 = h 20 3)) ∧ (h' 20 4 = 1 ∨ (h' 21 4 - h 21 4 ≤ h' 20 3 - h 20 3 ∧ h 20 3 + 1 ≤ h' 20 3)) ∧ fl_rdC h h' (fl_eS (fl_gC h) (fl_pO (fl_gC h) 6) (h 20 3))
theorem sX5_readS_0 (h : fz_H) (hI : fz_Iv h) (hp0 : h 20 4 = 1 ∨ h 21 4 ≤ h 20 3) : fz_R 40 mX5_readS 0 [(0, fz_r 20), (1, fz_i 0)] [] h (qX5_readS_0 h) := sX5_readS_g 5 0 30 ⟨by decide, by decide⟩ (fun h hI hp0 => sX5_readO_1 h hI hp0) (fun h hI hp0 => sX5_readE_1 h hI hp0) h hI hp0
abbrev qX5_readB_0 (h : fz_H) : fz_H → Option fz_V → Prop := fun h' r0 => fz_Iv h' ∧ fz_fr [(20, 3), (20, 4), (21, 4), (22, 99999), (23, 99999)] h h' ∧ r0 = none ∧ (h 20 4 = 0 ∨ (h' 20 4 = 1 ∧ h' 20 3 = h 20 3)) ∧ (h' 20 4 = 1 ∨ (h' 21 4 - h 21 4 ≤ h' 20 3 - h 20 3 ∧ h 20 3 + 1 ≤ h' 20 3)) ∧ fl_rdC h h' (fl_eB (fl_gC h) (fl_pO (fl_gC h) 6) (h 20 3))
theorem sX5_readB_0 (h : fz_H) (hI : fz_Iv h) (hp0 : h 20 4 = 1 ∨ h 21 4 ≤ h 20 3) : fz_R 41 mX5_readB 0 [(0, fz_r 20), (1, fz_i 0)] [] h (qX5_readB_0 h) := sX5_readB_g 5 0 30 ⟨by decide, by decide⟩ (fun h hI hp0 => sX5_readO_1 h hI hp0) (fun h hI hp0 => sX5_readE_1 h hI hp0) h hI hp0
abbrev qX5_readA_0 (h : fz_H) : fz_H → Option fz_V → Prop := fun h' r0 => fz_Iv h' ∧ fz_fr [(20, 3), (20, 4), (21, 4), (22, 99999), (23, 99999)] h h' ∧ r0 = none ∧ (h 20 4 = 0 ∨ (h' 20 4 = 1 ∧ h' 20 3 = h 20 3)) ∧ (h' 20 4 = 1 ∨ (h' 21 4 - h 21 4 ≤ h' 20 3 - h 20 3 ∧ h 20 3 + 1 ≤ h' 20 3)) ∧ fl_rdC h h' (fl_eA (fl_gC h) (fl_pO (fl_gC h) 6) (h 20 3))
theorem sX5_readA_0 (h : fz_H) (hI : fz_Iv h) (hp0 : h 20 4 = 1 ∨ h 21 4 ≤ h 20 3) : fz_R 42 mX5_readA 0 [(0, fz_r 20), (1, fz_i 0)] [] h (qX5_readA_0 h) := sX5_readA_g 5 0 30 ⟨by decide, by decide⟩ (fun h hI hp0 => sX5_readO_1 h hI hp0) (fun h hI hp0 => sX5_readE_1 h hI hp0) h hI hp0
abbrev qX5_readE_0 (h : fz_H) : fz_H → Option fz_V → Prop := fun h' r0 => fz_Iv h' ∧ fz_fr [(20, 3), (20, 4), (21, 4), (22, 99999), (23, 99999)] h h' ∧ r0 = none ∧ (h 20 4 = 0 ∨ (h' 20 4 = 1 ∧ h' 20 3 = h 20 3)) ∧ (h' 20 4 = 1 ∨ (h' 21 4 - h 21 4 ≤ h' 20 3 - h 20 3 ∧ h 20 3 + 1 ≤ h' 20 3)) ∧ fl_rdC h h' (fl_eE (fl_gC h) (fl_pO (fl_gC h) 6) (h 20 3))
theorem sX5_readE_0 (h : fz_H) (hI : fz_Iv h) (hp0 : h 20 4 = 1 ∨ h 21 4 ≤ h 20 3) : fz_R 43 mX5_readE 0 [(0, fz_r 20), (1, fz_i 0)] [] h (qX5_readE_0 h) := sX5_readE_g 5 0 30 ⟨by decide, by decide⟩ (fun h hI hp0 => sX5_readO_1 h hI hp0) (fun h hI hp0 => sX5_readE_1 h hI hp0) h hI hp0
abbrev qX5_readLine (h : fz_H) : fz_H → Option fz_V → Prop := fun h' r0 => fz_Iv h' ∧ fz_fr [(20, 3), (20, 4), (21, 4), (22, 99999), (23, 99999)] h h' ∧ r0 = none ∧ (h 20 4 = 0 ∨ (h' 20 4 = 1 ∧ h' 20 3 = h 20 3)) ∧ (h' 20 4 = 1 ∨ (h' 21 4 ≤ h' 20 3 + 1 ∧ h 20 3 + 1 ≤ h' 20 3)) ∧ fl_rlC h h'
set_option maxHeartbeats 1000000 in
set_option maxRecDepth 100000 in
theorem sX5_readLine (h : fz_H) (hI : fz_Iv h) (hp0 : h 20 4 = 1 ∨ h 21 4 ≤ h 20 3) (hp1 : h 20 3 ≤ h 20 2) : fz_R 44 mX5_readLine 0 [(0, fz_r 20)] [] h (qX5_readLine h) := by
  have hf : fz_fr [(20, 3), (20, 4), (21, 4), (22, 99999), (23, 99999)] h h := fz_fr_rf
  have b1 : 0 ≤ h 20 4 ∧ h 20 4 ≤ 1 := hI.1 20 _
  have b2 : 0 ≤ h 21 4 ∧ h 21 4 ≤ 128 := hI.1 21 _
  have b3 : 0 ≤ h 20 3 ∧ h 20 3 ≤ 120 := hI.1 20 _
  have b4 : 0 ≤ h 20 2 ∧ h 20 2 ≤ 120 := hI.1 20 _
  refine fz_aload_n kX5_readLine rfl rfl ?_
  refine fz_iconst ⟨by decide, by decide⟩ kX5_readLine rfl ?_
  refine fz_callV (d' := 43) (M' := mX5_readE) (As := [fz_i 0]) (st := []) kX5_readLine rfl rfl vX5_readE rfl rfl rfl rfl (Nat.le_of_ble_eq_true rfl) (Nat.le_of_ble_eq_true rfl) (by decide) (sX5_readE_0 h hI  (by omega)) (fun H5 r6 q7 o8 => ?_)
  obtain ⟨hI9, hf10, rfl, f11, f12, f13⟩ := q7
  clear o8
  have hf14 := fz_fr_tr hf hf10 (show fz_su [(20, 3), (20, 4), (21, 4), (22, 99999), (23, 99999)] [(20, 3), (20, 4), (21, 4), (22, 99999), (23, 99999)] = true from rfl)
  have k15 : 0 ≤ fl_lh H5 → H5 20 4 = 0 := fl_lh_0
  refine fz_iconst ⟨by decide, by decide⟩ kX5_readLine rfl ?_
  refine fz_istore_n (ls' := [(1, fz_i (-1)), (0, fz_r 20)]) kX5_readLine rfl (by decide) rfl ?_
  refine fz_aload_n kX5_readLine rfl rfl ?_
  refine fz_bipush ⟨by decide, by decide⟩ kX5_readLine rfl ?_
  have b16 : 0 ≤ H5 20 3 ∧ H5 20 3 ≤ 120 := hI9.1 20 _
  have e17 : H5 20 2 = h 20 2 := hf14 20 2 rfl
  refine fz_callV (d' := 1) (M' := mX5_goesOnWith) (As := [fz_i 63]) (st := []) kX5_readLine rfl rfl vX5_goesOnWith rfl rfl rfl rfl (Nat.le_of_ble_eq_true rfl) (Nat.le_of_ble_eq_true rfl) (by decide) (sX5_goesOnWith H5 hI9 63 (by omega)) (fun H18 r19 q20 o21 => ?_)
  obtain ⟨hI22, hf23, y25, rfl, p26, f24⟩ := q20
  clear o21
  have hf27 := fz_fr_tr hf14 hf23 (show fz_su [(20, 3)] [(20, 3), (20, 4), (21, 4), (22, 99999), (23, 99999)] = true from rfl)
  have t28 : H18 20 4 = H5 20 4 := hf23 20 4 rfl
  have t29 : H18 21 4 = H5 21 4 := hf23 21 4 rfl
  refine fz_if_eq (tgt := 32) kX5_readLine rfl (by decide) (fun c30 => ?_) (fun c30 => ?_)
  · have k31 : 0 ≤ H18 20 3 ∧ H18 20 3 ≤ 120 := hI22.1 20 _
    refine fz_aload_n kX5_readLine rfl rfl ?_
    refine fz_getR (t := 21) kX5_readLine rfl rfl ?_
    refine fz_bipush ⟨by decide, by decide⟩ kX5_readLine rfl ?_
    refine fz_iconst ⟨by decide, by decide⟩ kX5_readLine rfl ?_
    have b32 : 0 ≤ H18 21 4 ∧ H18 21 4 ≤ 128 := hI22.1 21 _
    refine fz_callV (d' := 0) (M' := mX3_add) (As := [fz_i 59, fz_i 0]) (st := []) kX5_readLine rfl rfl vX3_add rfl rfl rfl rfl (Nat.le_of_ble_eq_true rfl) (Nat.le_of_ble_eq_true rfl) (by decide) (sX3_add H18 hI22 59 0 ) (fun H33 r34 q35 o36 => ?_)
    obtain ⟨hI37, hf38, y42, rfl, f39, f40, f41⟩ := q35
    clear o36
    have hf43 := fz_fr_tr hf27 hf38 (show fz_su [(21, 4), (22, 99999), (23, 99999)] [(20, 3), (20, 4), (21, 4), (22, 99999), (23, 99999)] = true from rfl)
    have t44 : H33 20 3 = H18 20 3 := hf38 20 3 rfl
    have t45 : H33 20 4 = H18 20 4 := hf38 20 4 rfl
    refine fz_pop rfl kX5_readLine rfl ?_
    refine fz_aload_n kX5_readLine rfl rfl ?_
    refine fz_getR (t := 21) kX5_readLine rfl rfl ?_
    refine fz_iload_n kX5_readLine rfl rfl ?_
    refine fz_callV (d' := 0) (M' := mX3_leadHere) (As := [fz_i (-1)]) (st := []) kX5_readLine rfl rfl vX3_leadHere rfl rfl rfl rfl (Nat.le_of_ble_eq_true rfl) (Nat.le_of_ble_eq_true rfl) (by decide) (sX3_leadHere H33 hI37 (-1) ) (fun H46 r47 q48 o49 => ?_)
    obtain ⟨hI50, hf51, rfl, f52⟩ := q48
    clear o49
    have hf53 := fz_fr_tr hf43 hf51 (show fz_su [(23, 99999)] [(20, 3), (20, 4), (21, 4), (22, 99999), (23, 99999)] = true from rfl)
    have t54 : H46 20 3 = H33 20 3 := hf51 20 3 rfl
    have t55 : H46 20 4 = H33 20 4 := hf51 20 4 rfl
    have t56 : H46 21 4 = H33 21 4 := hf51 21 4 rfl
    exact fz_vret kX5_readLine rfl rfl ⟨hI50, hf53, rfl, (by omega), (by omega), (by first | exact fl_rl_2 f13 (fl_gC_e (funext fun s => hf10 26 s rfl) (hf10 20 2 rfl)) (by omega) (by omega) (hf23 20 4 rfl) (hf23 21 4 rfl) (funext fun s => hf23 22 s rfl) (funext fun s => hf23 23 s rfl) f41 (by omega) (lost 20 3 rfl) (lost 20 4 rfl) (fl_gC_e (funext fun s => lost 26 s rfl) (lost 20 2 rfl)) lost lost (by omega) (hf38 20 3 rfl) (hf38 20 4 rfl) f52 (hf51 20 3 rfl) (hf51 20 4 rfl) ⟨by omega, by omega, by omega⟩ ⟨by omega, by omega⟩ | exact fl_rl_1 f13 (fl_gC_e (funext fun s => hf10 26 s rfl) (hf10 20 2 rfl)) (by omega) (by omega) (hf23 20 4 rfl) (hf23 21 4 rfl) (funext fun s => hf23 22 s rfl) (funext fun s => hf23 23 s rfl) f41 (by omega) (hf38 20 3 rfl) (hf38 20 4 rfl) f52 (by omega) ⟨by omega, by omega⟩)⟩
  · refine fz_aload_n kX5_readLine rfl rfl ?_
    refine fz_getR (t := 21) kX5_readLine rfl rfl ?_
    refine fz_bipush ⟨by decide, by decide⟩ kX5_readLine rfl ?_
    refine fz_iconst ⟨by decide, by decide⟩ kX5_readLine rfl ?_
    have b58 : 0 ≤ H18 21 4 ∧ H18 21 4 ≤ 128 := hI22.1 21 _
    refine fz_callV (d' := 0) (M' := mX3_add) (As := [fz_i 63, fz_i 0]) (st := []) kX5_readLine rfl rfl vX3_add rfl rfl rfl rfl (Nat.le_of_ble_eq_true rfl) (Nat.le_of_ble_eq_true rfl) (by decide) (sX3_add H18 hI22 63 0 ) (fun H59 r60 q61 o62 => ?_)
    obtain ⟨hI63, hf64, y68, rfl, f65, f66, f67⟩ := q61
    clear o62
    have hf69 := fz_fr_tr hf27 hf64 (show fz_su [(21, 4), (22, 99999), (23, 99999)] [(20, 3), (20, 4), (21, 4), (22, 99999), (23, 99999)] = true from rfl)
    have t70 : H59 20 3 = H18 20 3 := hf64 20 3 rfl
    have t71 : H59 20 4 = H18 20 4 := hf64 20 4 rfl
    refine fz_istore_n (ls' := [(1, fz_i y68), (0, fz_r 20)]) kX5_readLine rfl (by decide) rfl ?_
    refine fz_aload_n kX5_readLine rfl rfl ?_
    refine fz_iconst ⟨by decide, by decide⟩ kX5_readLine rfl ?_
    have b72 : 0 ≤ H59 20 4 ∧ H59 20 4 ≤ 1 := hI63.1 20 _
    have b73 : 0 ≤ H59 21 4 ∧ H59 21 4 ≤ 128 := hI63.1 21 _
    have b74 : 0 ≤ H59 20 3 ∧ H59 20 3 ≤ 120 := hI63.1 20 _
    refine fz_callV (d' := 43) (M' := mX5_readE) (As := [fz_i 0]) (st := []) kX5_readLine rfl rfl vX5_readE rfl rfl rfl rfl (Nat.le_of_ble_eq_true rfl) (Nat.le_of_ble_eq_true rfl) (by decide) (sX5_readE_0 H59 hI63  (by omega)) (fun H75 r76 q77 o78 => ?_)
    obtain ⟨hI79, hf80, rfl, f81, f82, f83⟩ := q77
    clear o78
    have hf84 := fz_fr_tr hf69 hf80 (show fz_su [(20, 3), (20, 4), (21, 4), (22, 99999), (23, 99999)] [(20, 3), (20, 4), (21, 4), (22, 99999), (23, 99999)] = true from rfl)
    have k85 : 0 ≤ H75 20 3 ∧ H75 20 3 ≤ 120 := hI79.1 20 _
    refine fz_aload_n kX5_readLine rfl rfl ?_
    refine fz_getR (t := 21) kX5_readLine rfl rfl ?_
    refine fz_bipush ⟨by decide, by decide⟩ kX5_readLine rfl ?_
    refine fz_iconst ⟨by decide, by decide⟩ kX5_readLine rfl ?_
    have b86 : 0 ≤ H75 21 4 ∧ H75 21 4 ≤ 128 := hI79.1 21 _
    refine fz_callV (d' := 0) (M' := mX3_add) (As := [fz_i 59, fz_i 0]) (st := []) kX5_readLine rfl rfl vX3_add rfl rfl rfl rfl (Nat.le_of_ble_eq_true rfl) (Nat.le_of_ble_eq_true rfl) (by decide) (sX3_add H75 hI79 59 0 ) (fun H87 r88 q89 o90 => ?_)
    obtain ⟨hI91, hf92, y96, rfl, f93, f94, f95⟩ := q89
    clear o90
    have hf97 := fz_fr_tr hf84 hf92 (show fz_su [(21, 4), (22, 99999), (23, 99999)] [(20, 3), (20, 4), (21, 4), (22, 99999), (23, 99999)] = true from rfl)
    have t98 : H87 20 3 = H75 20 3 := hf92 20 3 rfl
    have t99 : H87 20 4 = H75 20 4 := hf92 20 4 rfl
    refine fz_pop rfl kX5_readLine rfl ?_
    refine fz_aload_n kX5_readLine rfl rfl ?_
    refine fz_getR (t := 21) kX5_readLine rfl rfl ?_
    refine fz_iload_n kX5_readLine rfl rfl ?_
    refine fz_callV (d' := 0) (M' := mX3_leadHere) (As := [fz_i y68]) (st := []) kX5_readLine rfl rfl vX3_leadHere rfl rfl rfl rfl (Nat.le_of_ble_eq_true rfl) (Nat.le_of_ble_eq_true rfl) (by decide) (sX3_leadHere H87 hI91 y68 ) (fun H100 r101 q102 o103 => ?_)
    obtain ⟨hI104, hf105, rfl, f106⟩ := q102
    clear o103
    have hf107 := fz_fr_tr hf97 hf105 (show fz_su [(23, 99999)] [(20, 3), (20, 4), (21, 4), (22, 99999), (23, 99999)] = true from rfl)
    have t108 : H100 20 3 = H87 20 3 := hf105 20 3 rfl
    have t109 : H100 20 4 = H87 20 4 := hf105 20 4 rfl
    have t110 : H100 21 4 = H87 21 4 := hf105 21 4 rfl
    exact fz_vret kX5_readLine rfl rfl ⟨hI104, hf107, rfl, (by omega), (by omega), (by first | exact fl_rl_2 f13 (fl_gC_e (funext fun s => hf10 26 s rfl) (hf10 20 2 rfl)) (by omega) (by omega) (hf23 20 4 rfl) (hf23 21 4 rfl) (funext fun s => hf23 22 s rfl) (funext fun s => hf23 23 s rfl) f67 (by omega) (hf64 20 3 rfl) (hf64 20 4 rfl) (fl_gC_e (funext fun s => hf69 26 s rfl) (hf69 20 2 rfl)) f83 f95 (by omega) (hf92 20 3 rfl) (hf92 20 4 rfl) f106 (hf105 20 3 rfl) (hf105 20 4 rfl) ⟨by omega, by omega, by omega⟩ ⟨by omega, by omega⟩ | exact fl_rl_1 f13 (fl_gC_e (funext fun s => hf10 26 s rfl) (hf10 20 2 rfl)) (by omega) (by omega) (hf23 20 4 rfl) (hf23 21 4 rfl) (funext fun s => hf23 22 s rfl) (funext fun s => hf23 23 s rfl) f67 (by omega) (hf92 20 3 rfl) (hf92 20 4 rfl) f106 (by omega) ⟨by omega, by omega⟩)⟩

abbrev qX5_readText (h : fz_H) : fz_H → Option fz_V → Prop := fun h' r0 => fz_Iv h' ∧ fz_fr [(20, 3), (20, 4), (21, 4), (22, 99999), (23, 99999)] h h' ∧ ∃ r : Int, r0 = some (fz_i r) ∧ ((-1) ≤ r ∧ r ≤ 120) ∧ (fl_rtC h h' r)
set_option maxHeartbeats 1000000 in
set_option maxRecDepth 100000 in
theorem sX5_readText (h : fz_H) (hI : fz_Iv h) : fz_R 45 mX5_readText 0 [(0, fz_r 20)] [] h (qX5_readText h) := by
  have hf : fz_fr [(20, 3), (20, 4), (21, 4), (22, 99999), (23, 99999)] h h := fz_fr_rf
  refine fz_aload_n kX5_readText rfl rfl ?_
  refine fz_iconst ⟨by decide, by decide⟩ kX5_readText rfl ?_
  refine fz_putI kX5_readText rfl rfl rfl ?_
  refine fz_nmu (S := [(20, 3), (20, 4), (21, 4), (22, 99999), (23, 99999)]) (h0 := h) (fz_Iv_up hI (by decide) (show (0 : Int) ≤ 0 by decide) (show (0 : Int) ≤ 120 by decide)) (fz_fr_up hf rfl) (fun H1 hI2 hf3 e4 => ?_)
  have k5 : H1 20 3 = 0 := by rw [e4]; exact fz_up_e
  have t6 : H1 20 4 = h 20 4 := by rw [e4]; exact fz_up_s (by decide)
  have t7 : H1 21 4 = h 21 4 := by rw [e4]; exact fz_up_o (by decide)
  refine fz_aload_n kX5_readText rfl rfl ?_
  refine fz_iconst ⟨by decide, by decide⟩ kX5_readText rfl ?_
  refine fz_putZ kX5_readText rfl rfl rfl (by omega) ?_
  refine fz_nmu (S := [(20, 3), (20, 4), (21, 4), (22, 99999), (23, 99999)]) (h0 := h) (fz_Iv_up hI2 (by decide) (show (0 : Int) ≤ 0 by decide) (show (0 : Int) ≤ 1 by decide)) (fz_fr_up hf3 rfl) (fun H8 hI9 hf10 e11 => ?_)
  have k12 : H8 20 3 = 0 := by rw [e11]; exact (fz_up_s (by decide)).trans k5
  have k13 : H8 20 4 = 0 := by rw [e11]; exact fz_up_e
  have t14 : H8 20 3 = H1 20 3 := by rw [e11]; exact fz_up_s (by decide)
  have t15 : H8 21 4 = H1 21 4 := by rw [e11]; exact fz_up_o (by decide)
  refine fz_aload_n kX5_readText rfl rfl ?_
  refine fz_getR (t := 21) kX5_readText rfl rfl ?_
  refine fz_callV (d' := 0) (M' := mX3_clear) (As := []) (st := []) kX5_readText rfl rfl vX3_clear rfl rfl rfl rfl (Nat.le_of_ble_eq_true rfl) (Nat.le_of_ble_eq_true rfl) (by decide) (sX3_clear H8 hI9  ) (fun H16 r17 q18 o19 => ?_)
  obtain ⟨hI20, hf21, rfl, f22⟩ := q18
  clear o19
  have hf23 := fz_fr_tr hf10 hf21 (show fz_su [(21, 4)] [(20, 3), (20, 4), (21, 4), (22, 99999), (23, 99999)] = true from rfl)
  have k24 : H16 20 3 = 0 := (hf21 20 3 rfl).trans k12
  have k25 : H16 20 4 = 0 := (hf21 20 4 rfl).trans k13
  have t26 : H16 20 3 = H8 20 3 := hf21 20 3 rfl
  have t27 : H16 20 4 = H8 20 4 := hf21 20 4 rfl
  refine fz_aload_n kX5_readText rfl rfl ?_
  have k28 : H16 20 2 = h 20 2 := hf23 20 2 rfl
  have b29 : 0 ≤ H16 20 4 ∧ H16 20 4 ≤ 1 := hI20.1 20 _
  have b30 : 0 ≤ H16 21 4 ∧ H16 21 4 ≤ 128 := hI20.1 21 _
  have b31 : 0 ≤ H16 20 3 ∧ H16 20 3 ≤ 120 := hI20.1 20 _
  have b32 : 0 ≤ h 20 2 ∧ h 20 2 ≤ 120 := hI.1 20 _
  have e33 : H16 20 2 = h 20 2 := hf23 20 2 rfl
  refine fz_callV (d' := 44) (M' := mX5_readLine) (As := []) (st := []) kX5_readText rfl rfl vX5_readLine rfl rfl rfl rfl (Nat.le_of_ble_eq_true rfl) (Nat.le_of_ble_eq_true rfl) (by decide) (sX5_readLine H16 hI20  (by omega) (by omega)) (fun H34 r35 q36 o37 => ?_)
  obtain ⟨hI38, hf39, rfl, f40, f41, f42⟩ := q36
  clear o37
  have hf43 := fz_fr_tr hf23 hf39 (show fz_su [(20, 3), (20, 4), (21, 4), (22, 99999), (23, 99999)] [(20, 3), (20, 4), (21, 4), (22, 99999), (23, 99999)] = true from rfl)
  have k44 := fl_txS_1 (h := h) (n := h 20 2) f42 (fl_gC_e (funext fun s => hf23 26 s rfl) (hf23 20 2 rfl)) (fl_gl_lt (f := h 26) (n := h 20 2)) (by omega) (by omega) (by omega) (by omega)
  have k46 : H34 20 4 = 0 → H34 20 3 ≤ h 20 2 := fl_txS_b k44
  have k47 : 0 ≤ H34 20 4 ∧ H34 20 4 ≤ 1 := hI38.1 20 _
  refine fz_iconst ⟨by decide, by decide⟩ kX5_readText rfl ?_
  refine fz_istore_n (ls' := [(1, fz_i 0), (0, fz_r 20)]) kX5_readText rfl (by decide) rfl ?_
  have lp53 : ∀ (n52 : Nat) (x48 : Int) (H49 : fz_H), fz_Iv H49 → fz_fr [(20, 3), (20, 4), (21, 4), (22, 99999), (23, 99999)] h H49 → (0 ≤ x48 ∧ x48 ≤ 2147483647) → (H49 20 4 = 1 ∨ (H49 21 4 ≤ H49 20 3 + 1 ∧ x48 + 1 ≤ H49 20 3 ∧ H49 20 3 ≤ h 20 2)) → (fl_txS (fl_gC h) (h 20 2) H16 H49 (199 - x48).toNat) → (120 - x48).toNat < n52 → fz_R 45 mX5_readText 23 [(1, fz_i x48), (0, fz_r 20)] [] H49 (qX5_readText h) := by
    intro n52
    induction n52 with
    | zero => intro x48 H49 hI50 hf51 hv56 hv57 hv58 hm55; exact absurd hm55 (by omega)
    | succ n52 ih54 =>
      intro x48 H49 hI50 hf51 hv56 hv57 hv58 hm55
      refine fz_iload_n kX5_readText rfl rfl ?_
      refine fz_bipush ⟨by decide, by decide⟩ kX5_readText rfl ?_
      refine fz_icmp_ge (tgt := 48) kX5_readText rfl (by decide) (fun c59 => ?_) (fun c59 => ?_)
      · have k60 : 0 ≤ H49 20 3 ∧ H49 20 3 ≤ 120 := hI50.1 20 _
        have k61 : 0 ≤ H49 20 4 ∧ H49 20 4 ≤ 1 := hI50.1 20 _
        refine fz_aload_n kX5_readText rfl rfl ?_
        obtain ⟨v62, e63⟩ : ∃ z, H49 20 (4) = z := ⟨_, rfl⟩
        refine fz_getV (v := v62) kX5_readText rfl rfl e63 ?_
        have b64 : 0 ≤ v62 ∧ v62 ≤ 1 := by rw [← e63]; exact hI50.1 20 _
        refine fz_if_ne (tgt := 66) kX5_readText rfl (by decide) (fun c65 => ?_) (fun c65 => ?_)
        · refine fz_aload_n kX5_readText rfl rfl ?_
          obtain ⟨v66, e67⟩ : ∃ z, H49 20 (3) = z := ⟨_, rfl⟩
          refine fz_getV (v := v66) kX5_readText rfl rfl e67 ?_
          have b68 : 0 ≤ v66 ∧ v66 ≤ 120 := by rw [← e67]; exact hI50.1 20 _
          refine fz_goto (tgt := 74) kX5_readText rfl (by decide) ?_
          exact fz_iret kX5_readText rfl rfl (fun _ => ⟨hI50, hf51, _, rfl, (by omega), (by first | exact fl_rt_in hv58 (fl_gC_e (funext fun s => lost 26 s rfl) (lost 20 2 rfl)) (by omega) (lost 20 2 rfl).symm (Or.inl ⟨by omega, by omega⟩) (by omega) (lost 20 4 rfl) (lost 21 4 rfl) (funext fun s => lost 22 s rfl) (funext fun s => lost 23 s rfl) (by omega) (by omega) | exact fl_rt_in hv58 (fl_gC_e (funext fun s => hf51 26 s rfl) (hf51 20 2 rfl)) (by omega) (hf51 20 2 rfl).symm (Or.inr (by omega)) rfl rfl rfl rfl rfl (by omega) (by omega))⟩)
        · refine fz_aload_n kX5_readText rfl rfl ?_
          obtain ⟨v70, e71⟩ : ∃ z, H49 20 (3) = z := ⟨_, rfl⟩
          refine fz_getV (v := v70) kX5_readText rfl rfl e71 ?_
          have b72 : 0 ≤ v70 ∧ v70 ≤ 120 := by rw [← e71]; exact hI50.1 20 _
          refine fz_aload_n kX5_readText rfl rfl ?_
          refine fz_getV (v := h 20 2) kX5_readText rfl rfl (hf51 20 2 rfl) ?_
          have b73 : 0 ≤ h 20 2 ∧ h 20 2 ≤ 120 := hI.1 20 _
          refine fz_icmp_ge (tgt := 73) kX5_readText rfl (by decide) (fun c74 => ?_) (fun c74 => ?_)
          · refine fz_iconst ⟨by decide, by decide⟩ kX5_readText rfl ?_
            exact fz_iret kX5_readText rfl rfl (fun _ => ⟨hI50, hf51, _, rfl, (by omega), (by first | exact fl_rt_in hv58 (fl_gC_e (funext fun s => lost 26 s rfl) (lost 20 2 rfl)) (by omega) (lost 20 2 rfl).symm (Or.inl ⟨by omega, by omega⟩) (by omega) (lost 20 4 rfl) (lost 21 4 rfl) (funext fun s => lost 22 s rfl) (funext fun s => lost 23 s rfl) (by omega) (by omega) | exact fl_rt_in hv58 (fl_gC_e (funext fun s => hf51 26 s rfl) (hf51 20 2 rfl)) (by omega) (hf51 20 2 rfl).symm (Or.inr (by omega)) rfl rfl rfl rfl rfl (by omega) (by omega))⟩)
          · refine fz_aload_n kX5_readText rfl rfl ?_
            refine fz_getV (v := v70) kX5_readText rfl rfl e71 ?_
            refine fz_goto (tgt := 74) kX5_readText rfl (by decide) ?_
            exact fz_iret kX5_readText rfl rfl (fun _ => ⟨hI50, hf51, _, rfl, (by omega), (by first | exact fl_rt_in hv58 (fl_gC_e (funext fun s => lost 26 s rfl) (lost 20 2 rfl)) (by omega) (lost 20 2 rfl).symm (Or.inl ⟨by omega, by omega⟩) (by omega) (lost 20 4 rfl) (lost 21 4 rfl) (funext fun s => lost 22 s rfl) (funext fun s => lost 23 s rfl) (by omega) (by omega) | exact fl_rt_in hv58 (fl_gC_e (funext fun s => hf51 26 s rfl) (hf51 20 2 rfl)) (by omega) (hf51 20 2 rfl).symm (Or.inr (by omega)) rfl rfl rfl rfl rfl (by omega) (by omega))⟩)
      · refine fz_aload_n kX5_readText rfl rfl ?_
        refine fz_bipush ⟨by decide, by decide⟩ kX5_readText rfl ?_
        have b77 : 0 ≤ H49 20 3 ∧ H49 20 3 ≤ 120 := hI50.1 20 _
        have b78 : 0 ≤ h 20 2 ∧ h 20 2 ≤ 120 := hI.1 20 _
        have e79 : H49 20 2 = h 20 2 := hf51 20 2 rfl
        refine fz_callV (d' := 1) (M' := mX5_goesOnWith) (As := [fz_i 59]) (st := []) kX5_readText rfl rfl vX5_goesOnWith rfl rfl rfl rfl (Nat.le_of_ble_eq_true rfl) (Nat.le_of_ble_eq_true rfl) (by decide) (sX5_goesOnWith H49 hI50 59 (by omega)) (fun H80 r81 q82 o83 => ?_)
        obtain ⟨hI84, hf85, y87, rfl, p88, f86⟩ := q82
        clear o83
        have hf89 := fz_fr_tr hf51 hf85 (show fz_su [(20, 3)] [(20, 3), (20, 4), (21, 4), (22, 99999), (23, 99999)] = true from rfl)
        have t90 : H80 20 4 = H49 20 4 := hf85 20 4 rfl
        have t91 : H80 21 4 = H49 21 4 := hf85 21 4 rfl
        refine fz_if_eq (tgt := 48) kX5_readText rfl (by decide) (fun c92 => ?_) (fun c92 => ?_)
        · have k93 : 0 ≤ H80 20 3 ∧ H80 20 3 ≤ 120 := hI84.1 20 _
          have k94 : 0 ≤ H80 20 4 ∧ H80 20 4 ≤ 1 := hI84.1 20 _
          refine fz_aload_n kX5_readText rfl rfl ?_
          obtain ⟨v95, e96⟩ : ∃ z, H80 20 (4) = z := ⟨_, rfl⟩
          refine fz_getV (v := v95) kX5_readText rfl rfl e96 ?_
          have b97 : 0 ≤ v95 ∧ v95 ≤ 1 := by rw [← e96]; exact hI84.1 20 _
          refine fz_if_ne (tgt := 66) kX5_readText rfl (by decide) (fun c98 => ?_) (fun c98 => ?_)
          · refine fz_aload_n kX5_readText rfl rfl ?_
            obtain ⟨v99, e100⟩ : ∃ z, H80 20 (3) = z := ⟨_, rfl⟩
            refine fz_getV (v := v99) kX5_readText rfl rfl e100 ?_
            have b101 : 0 ≤ v99 ∧ v99 ≤ 120 := by rw [← e100]; exact hI84.1 20 _
            refine fz_goto (tgt := 74) kX5_readText rfl (by decide) ?_
            exact fz_iret kX5_readText rfl rfl (fun _ => ⟨hI84, hf89, _, rfl, (by omega), (by first | exact fl_rt_in hv58 (fl_gC_e (funext fun s => hf51 26 s rfl) (hf51 20 2 rfl)) (by omega) (hf51 20 2 rfl).symm (Or.inl ⟨by omega, by omega⟩) (by omega) (hf85 20 4 rfl) (hf85 21 4 rfl) (funext fun s => hf85 22 s rfl) (funext fun s => hf85 23 s rfl) (by omega) (by omega) | exact fl_rt_in hv58 (fl_gC_e (funext fun s => hf89 26 s rfl) (hf89 20 2 rfl)) (by omega) (hf89 20 2 rfl).symm (Or.inr (by omega)) rfl rfl rfl rfl rfl (by omega) (by omega))⟩)
          · refine fz_aload_n kX5_readText rfl rfl ?_
            obtain ⟨v103, e104⟩ : ∃ z, H80 20 (3) = z := ⟨_, rfl⟩
            refine fz_getV (v := v103) kX5_readText rfl rfl e104 ?_
            have b105 : 0 ≤ v103 ∧ v103 ≤ 120 := by rw [← e104]; exact hI84.1 20 _
            refine fz_aload_n kX5_readText rfl rfl ?_
            refine fz_getV (v := h 20 2) kX5_readText rfl rfl (hf89 20 2 rfl) ?_
            have b106 : 0 ≤ h 20 2 ∧ h 20 2 ≤ 120 := hI.1 20 _
            refine fz_icmp_ge (tgt := 73) kX5_readText rfl (by decide) (fun c107 => ?_) (fun c107 => ?_)
            · refine fz_iconst ⟨by decide, by decide⟩ kX5_readText rfl ?_
              exact fz_iret kX5_readText rfl rfl (fun _ => ⟨hI84, hf89, _, rfl, (by omega), (by first | exact fl_rt_in hv58 (fl_gC_e (funext fun s => hf51 26 s rfl) (hf51 20 2 rfl)) (by omega) (hf51 20 2 rfl).symm (Or.inl ⟨by omega, by omega⟩) (by omega) (hf85 20 4 rfl) (hf85 21 4 rfl) (funext fun s => hf85 22 s rfl) (funext fun s => hf85 23 s rfl) (by omega) (by omega) | exact fl_rt_in hv58 (fl_gC_e (funext fun s => hf89 26 s rfl) (hf89 20 2 rfl)) (by omega) (hf89 20 2 rfl).symm (Or.inr (by omega)) rfl rfl rfl rfl rfl (by omega) (by omega))⟩)
            · refine fz_aload_n kX5_readText rfl rfl ?_
              refine fz_getV (v := v103) kX5_readText rfl rfl e104 ?_
              refine fz_goto (tgt := 74) kX5_readText rfl (by decide) ?_
              exact fz_iret kX5_readText rfl rfl (fun _ => ⟨hI84, hf89, _, rfl, (by omega), (by first | exact fl_rt_in hv58 (fl_gC_e (funext fun s => hf51 26 s rfl) (hf51 20 2 rfl)) (by omega) (hf51 20 2 rfl).symm (Or.inl ⟨by omega, by omega⟩) (by omega) (hf85 20 4 rfl) (hf85 21 4 rfl) (funext fun s => hf85 22 s rfl) (funext fun s => hf85 23 s rfl) (by omega) (by omega) | exact fl_rt_in hv58 (fl_gC_e (funext fun s => hf89 26 s rfl) (hf89 20 2 rfl)) (by omega) (hf89 20 2 rfl).symm (Or.inr (by omega)) rfl rfl rfl rfl rfl (by omega) (by omega))⟩)
        · refine fz_aload_n kX5_readText rfl rfl ?_
          have k110 : H80 20 2 = h 20 2 := hf89 20 2 rfl
          have b111 : 0 ≤ H80 20 4 ∧ H80 20 4 ≤ 1 := hI84.1 20 _
          have b112 : 0 ≤ H80 21 4 ∧ H80 21 4 ≤ 128 := hI84.1 21 _
          have b113 : 0 ≤ H80 20 3 ∧ H80 20 3 ≤ 120 := hI84.1 20 _
          have e114 : H80 20 2 = h 20 2 := hf89 20 2 rfl
          refine fz_callV (d' := 44) (M' := mX5_readLine) (As := []) (st := []) kX5_readText rfl rfl vX5_readLine rfl rfl rfl rfl (Nat.le_of_ble_eq_true rfl) (Nat.le_of_ble_eq_true rfl) (by decide) (sX5_readLine H80 hI84  (by omega) (by omega)) (fun H115 r116 q117 o118 => ?_)
          obtain ⟨hI119, hf120, rfl, f121, f122, f123⟩ := q117
          clear o118
          have hf124 := fz_fr_tr hf89 hf120 (show fz_su [(20, 3), (20, 4), (21, 4), (22, 99999), (23, 99999)] [(20, 3), (20, 4), (21, 4), (22, 99999), (23, 99999)] = true from rfl)
          have k125 := fl_txS_st (k := (199 - (x48 + 1)).toNat) (fl_txS_k hv58 (by omega)) (fl_gC_e (funext fun s => hf51 26 s rfl) (hf51 20 2 rfl)) (fl_gl_lt (f := h 26) (n := h 20 2)) (by omega) (by omega) (hf85 20 4 rfl) (hf85 21 4 rfl) (funext fun s => hf85 22 s rfl) (funext fun s => hf85 23 s rfl) (fl_gC_e (funext fun s => hf89 26 s rfl) (hf89 20 2 rfl)) f123 (by omega) (by omega)
          have k127 : H115 20 4 = 0 → H115 20 3 ≤ h 20 2 := fl_txS_b k125
          have k128 : 0 ≤ H115 20 4 ∧ H115 20 4 ≤ 1 := hI119.1 20 _
          refine fz_iincN (ls' := [(1, fz_i (x48 + 1)), (0, fz_r 20)]) kX5_readText rfl (by decide) rfl (by omega) rfl ?_
          refine fz_goto (tgt := 23) kX5_readText rfl (by decide) ?_
          exact ih54 (x48 + 1) H115 hI119 hf124 (by omega) (by omega) (k125) (by omega)
  exact lp53 _ 0 H34 hI38 hf43 (by omega) (by omega) (fl_txS_k k44 (by omega)) (Nat.lt_succ_self _)
