/-! ===== what the methods keep ===== -/
abbrev qX11_way (h : fz_H) (ab wh : Int) : fz_H → Option fz_V → Prop := fun h' r0 => fz_Iv h' ∧ fz_fr [(86, 99999), (87, 99999)] h h' ∧ fz_RM h' ∧ ∃ r : Int, r0 = some (fz_i r) ∧ ((-2147483648) ≤ r ∧ r ≤ 2147483647) ∧ (fz_wyM h h' ab wh r)
set_option maxHeartbeats 1000000 in
set_option maxRecDepth 100000 in
theorem sX11_way (h : fz_H) (hI : fz_Iv h) (ab wh : Int) (hRM : fz_RM h) : fz_R 3 mX11_way 0 [(0, fz_r 53), (1, fz_i ab), (2, fz_i wh)] [] h (qX11_way h ab wh) := by
  refine fz_knowl (fun hk => ?_)
  have hr_ab : -2147483648 ≤ ab ∧ ab < 2147483648 := hk _ (List.Mem.tail _ (List.Mem.head _))
  have hr_wh : -2147483648 ≤ wh ∧ wh < 2147483648 := hk _ (List.Mem.tail _ (List.Mem.tail _ (List.Mem.head _)))
  clear hk
  have hf : fz_fr [(86, 99999), (87, 99999)] h h := fz_fr_rf
  refine fz_aload_n kX11_way rfl rfl ?_
  refine fz_iload_n kX11_way rfl rfl ?_
  have b1 : 0 ≤ h 53 0 ∧ h 53 0 ≤ 8 := hI.1 53 _
  refine fz_callV (d' := 2) (M' := mX11_areTowns) (As := [fz_i ab]) (st := []) kX11_way rfl rfl vX11_areTowns rfl rfl rfl rfl (Nat.le_of_ble_eq_true rfl) (Nat.le_of_ble_eq_true rfl) (by decide) (sX11_areTowns h hI ab ) (fun H2 r3 q4 o5 => ?_)
  obtain ⟨e6, y7, rfl, p8⟩ := q4
  subst H2
  clear o5
  rcases p8 with ⟨rfl, c9⟩ | ⟨rfl, c9⟩
  · refine fz_if_eq (tgt := 17) kX11_way rfl (by decide) (fun c10 => ?_) (fun c10 => ?_)
    · exfalso; omega
    · refine fz_iload_n kX11_way rfl rfl ?_
      refine fz_iconst ⟨by decide, by decide⟩ kX11_way rfl ?_
      refine fz_iconst ⟨by decide, by decide⟩ kX11_way rfl ?_
      refine fz_callS (d' := 0) (M' := mX11_within) (As := [fz_i wh, fz_i 0, fz_i 1]) (st := []) kX11_way rfl rfl vX11_within rfl rfl (Nat.le_of_ble_eq_true rfl) (Nat.le_of_ble_eq_true rfl) (by decide) (sX11_within h hI wh 0 1 ) (fun H11 r12 q13 o14 => ?_)
      obtain ⟨e15, y16, rfl, p17⟩ := q13
      subst H11
      clear o14
      rcases p17 with ⟨rfl, c18⟩ | ⟨rfl, c18⟩
      · refine fz_if_ne (tgt := 19) kX11_way rfl (by decide) (fun c19 => ?_) (fun c19 => ?_)
        · refine fz_aload_n kX11_way rfl rfl ?_
          refine fz_iload_n kX11_way rfl rfl ?_
          refine fz_bipush ⟨by decide, by decide⟩ kX11_way rfl ?_
          refine fz_idivN kX11_way rfl (by omega) (by omega) (by omega) ?_
          refine fz_iload_n kX11_way rfl rfl ?_
          refine fz_iconst ⟨by decide, by decide⟩ kX11_way rfl ?_
          refine fz_icmp_ne (tgt := 33) kX11_way rfl (by decide) (fun c20 => ?_) (fun c20 => ?_)
          · refine fz_iconst ⟨by decide, by decide⟩ kX11_way rfl ?_
            refine fz_callV (d' := 1) (M' := mX11_goesFrom) (As := [fz_i (ab / 10), fz_i 0]) (st := []) kX11_way rfl rfl vX11_goesFrom rfl rfl rfl rfl (Nat.le_of_ble_eq_true rfl) (Nat.le_of_ble_eq_true rfl) (by decide) (sX11_goesFrom_k h hI (ab / 10) 0 hRM (by omega) (by omega)) (fun H21 r22 q23 o24 => ?_)
            obtain ⟨hI25, hf26, hRM27, rfl, f28, f29⟩ := q23
            clear o24
            have hf30 := fz_fr_tr hf hf26 (show fz_su [(86, 99999), (87, 99999)] [(86, 99999), (87, 99999)] = true from rfl)
            refine fz_aload_n kX11_way rfl rfl ?_
            refine fz_getR (t := 86) kX11_way rfl rfl ?_
            refine fz_iload_n kX11_way rfl rfl ?_
            refine fz_bipush ⟨by decide, by decide⟩ kX11_way rfl ?_
            refine fz_iremN kX11_way rfl (by omega) (by omega) (by omega) ?_
            obtain ⟨v31, e32⟩ : ∃ z, H21 86 ((ab % 10).toNat) = z := ⟨_, rfl⟩
            refine fz_ialdV (n := 8) (v := v31) kX11_way rfl rfl (by omega) (by omega) e32 ?_
            have b33 : (-2147483648) ≤ v31 ∧ v31 ≤ 2147483647 := by rw [← e32]; exact hI25.1 86 _
            exact fz_iret kX11_way rfl rfl (fun _ => ⟨hI25, hf30, hRM27, _, rfl, (by omega), (by first | exact Or.inr ⟨by omega, fz_gf_w f29 (by omega), e32.symm⟩ | exact Or.inl ⟨by omega, rfl⟩)⟩)
          · refine fz_iconst ⟨by decide, by decide⟩ kX11_way rfl ?_
            refine fz_goto (tgt := 34) kX11_way rfl (by decide) ?_
            refine fz_callV (d' := 1) (M' := mX11_goesFrom) (As := [fz_i (ab / 10), fz_i 1]) (st := []) kX11_way rfl rfl vX11_goesFrom rfl rfl rfl rfl (Nat.le_of_ble_eq_true rfl) (Nat.le_of_ble_eq_true rfl) (by decide) (sX11_goesFrom_k h hI (ab / 10) 1 hRM (by omega) (by omega)) (fun H35 r36 q37 o38 => ?_)
            obtain ⟨hI39, hf40, hRM41, rfl, f42, f43⟩ := q37
            clear o38
            have hf44 := fz_fr_tr hf hf40 (show fz_su [(86, 99999), (87, 99999)] [(86, 99999), (87, 99999)] = true from rfl)
            refine fz_aload_n kX11_way rfl rfl ?_
            refine fz_getR (t := 86) kX11_way rfl rfl ?_
            refine fz_iload_n kX11_way rfl rfl ?_
            refine fz_bipush ⟨by decide, by decide⟩ kX11_way rfl ?_
            refine fz_iremN kX11_way rfl (by omega) (by omega) (by omega) ?_
            obtain ⟨v45, e46⟩ : ∃ z, H35 86 ((ab % 10).toNat) = z := ⟨_, rfl⟩
            refine fz_ialdV (n := 8) (v := v45) kX11_way rfl rfl (by omega) (by omega) e46 ?_
            have b47 : (-2147483648) ≤ v45 ∧ v45 ≤ 2147483647 := by rw [← e46]; exact hI39.1 86 _
            exact fz_iret kX11_way rfl rfl (fun _ => ⟨hI39, hf44, hRM41, _, rfl, (by omega), (by first | exact Or.inr ⟨by omega, fz_gf_w f43 (by omega), e46.symm⟩ | exact Or.inl ⟨by omega, rfl⟩)⟩)
        · exfalso; omega
      · refine fz_if_ne (tgt := 19) kX11_way rfl (by decide) (fun c49 => ?_) (fun c49 => ?_)
        · exfalso; omega
        · refine fz_iconst ⟨by decide, by decide⟩ kX11_way rfl ?_
          exact fz_iret kX11_way rfl rfl (fun _ => ⟨hI, hf, hRM, _, rfl, (by omega), (by first | exact Or.inr ⟨by omega, fz_gf_w lost (by omega), lost.symm⟩ | exact Or.inl ⟨by omega, rfl⟩)⟩)
  · refine fz_if_eq (tgt := 17) kX11_way rfl (by decide) (fun c51 => ?_) (fun c51 => ?_)
    · refine fz_iconst ⟨by decide, by decide⟩ kX11_way rfl ?_
      exact fz_iret kX11_way rfl rfl (fun _ => ⟨hI, hf, hRM, _, rfl, (by omega), (by first | exact Or.inr ⟨by omega, fz_gf_w lost (by omega), lost.symm⟩ | exact Or.inl ⟨by omega, rfl⟩)⟩)
    · exfalso; omega

abbrev qX11_heardAt (h : fz_H) (d t : Int) : fz_H → Option fz_V → Prop := fun h' r0 => fz_Iv h' ∧ fz_fr [(86, 99999), (87, 99999)] h h' ∧ fz_RM h' ∧ ∃ r : Int, r0 = some (fz_i r) ∧ ((-2) ≤ r ∧ r ≤ 1200) ∧ (fz_heM h h' d t r)
set_option maxHeartbeats 1000000 in
set_option maxRecDepth 100000 in
theorem sX11_heardAt (h : fz_H) (hI : fz_Iv h) (d t : Int) (hRM : fz_RM h) (hp0 : 0 ≤ d ∧ d ≤ 10) (hp1 : 0 ≤ t ∧ t ≤ 7) : fz_R 2 mX11_heardAt 0 [(0, fz_r 53), (1, fz_i d), (2, fz_i t)] [] h (qX11_heardAt h d t) := by
  refine fz_knowl (fun hk => ?_)
  have hr_d : -2147483648 ≤ d ∧ d < 2147483648 := hk _ (List.Mem.tail _ (List.Mem.head _))
  have hr_t : -2147483648 ≤ t ∧ t < 2147483648 := hk _ (List.Mem.tail _ (List.Mem.tail _ (List.Mem.head _)))
  clear hk
  have hf : fz_fr [(86, 99999), (87, 99999)] h h := fz_fr_rf
  refine fz_aload_n kX11_heardAt rfl rfl ?_
  refine fz_aload_n kX11_heardAt rfl rfl ?_
  refine fz_getR (t := 61) kX11_heardAt rfl rfl ?_
  refine fz_iload_n kX11_heardAt rfl rfl ?_
  refine fz_ialdV (n := 11) (v := h 61 (d.toNat)) kX11_heardAt rfl rfl (by omega) (by omega) rfl ?_
  have b1 : 0 ≤ h 61 (d.toNat) ∧ h 61 (d.toNat) ≤ 7 := hI.1 61 _
  refine fz_iconst ⟨by decide, by decide⟩ kX11_heardAt rfl ?_
  refine fz_callV (d' := 1) (M' := mX11_goesFrom) (As := [fz_i (h 61 (d.toNat)), fz_i 1]) (st := []) kX11_heardAt rfl rfl vX11_goesFrom rfl rfl rfl rfl (Nat.le_of_ble_eq_true rfl) (Nat.le_of_ble_eq_true rfl) (by decide) (sX11_goesFrom_k h hI (h 61 (d.toNat)) 1 hRM (by omega) (by omega)) (fun H2 r3 q4 o5 => ?_)
  obtain ⟨hI6, hf7, hRM8, rfl, f9, f10⟩ := q4
  clear o5
  have hf11 := fz_fr_tr hf hf7 (show fz_su [(86, 99999), (87, 99999)] [(86, 99999), (87, 99999)] = true from rfl)
  refine fz_aload_n kX11_heardAt rfl rfl ?_
  refine fz_getR (t := 86) kX11_heardAt rfl rfl ?_
  refine fz_iload_n kX11_heardAt rfl rfl ?_
  obtain ⟨v12, e13⟩ : ∃ z, H2 86 (t.toNat) = z := ⟨_, rfl⟩
  refine fz_ialdV (n := 8) (v := v12) kX11_heardAt rfl rfl (by omega) (by omega) e13 ?_
  have b14 : (-2147483648) ≤ v12 ∧ v12 ≤ 2147483647 := by rw [← e13]; exact hI6.1 86 _
  refine fz_bipush ⟨by decide, by decide⟩ kX11_heardAt rfl ?_
  refine fz_icmp_ne (tgt := 27) kX11_heardAt rfl (by decide) (fun c15 => ?_) (fun c15 => ?_)
  · have k16 := fz_gf_nn f10 (b := t.toNat) (by omega)
    have k17 := f10.2.2 t.toNat (by omega)
    refine fz_aload_n kX11_heardAt rfl rfl ?_
    refine fz_getR (t := 62) kX11_heardAt rfl rfl ?_
    refine fz_iload_n kX11_heardAt rfl rfl ?_
    refine fz_ialdV (n := 11) (v := h 62 (d.toNat)) kX11_heardAt rfl rfl (by omega) (by omega) (hf11 62 _ rfl) ?_
    have b18 : 0 ≤ h 62 (d.toNat) ∧ h 62 (d.toNat) ≤ 999 := hI.1 62 _
    refine fz_aload_n kX11_heardAt rfl rfl ?_
    refine fz_getR (t := 86) kX11_heardAt rfl rfl ?_
    refine fz_iload_n kX11_heardAt rfl rfl ?_
    obtain ⟨v19, e20⟩ : ∃ z, H2 86 (t.toNat) = z := ⟨_, rfl⟩
    refine fz_ialdV (n := 8) (v := v19) kX11_heardAt rfl rfl (by omega) (by omega) e20 ?_
    have b21 : (-2147483648) ≤ v19 ∧ v19 ≤ 2147483647 := by rw [← e20]; exact hI6.1 86 _
    have k23 : 0 ≤ v19 ∧ v19 ≤ 192 := by omega
    refine fz_iaddN kX11_heardAt rfl (by omega) ?_
    refine fz_aload_n kX11_heardAt rfl rfl ?_
    refine fz_getR (t := 54) kX11_heardAt rfl rfl ?_
    refine fz_iload_n kX11_heardAt rfl rfl ?_
    refine fz_ialdV (n := 8) (v := h 54 (t.toNat)) kX11_heardAt rfl rfl (by omega) (by omega) (hf11 54 _ rfl) ?_
    have b24 : 0 ≤ h 54 (t.toNat) ∧ h 54 (t.toNat) ≤ 9 := hI.1 54 _
    refine fz_iaddN kX11_heardAt rfl (by omega) ?_
    exact fz_iret kX11_heardAt rfl rfl (fun _ => ⟨hI6, hf11, hRM8, _, rfl, (by omega), (by exact ⟨f10, (by first | exact fz_hh_n e13.symm (by omega) | exact fz_hh_y e20.symm (by omega) (by omega))⟩)⟩)
  · refine fz_bipush ⟨by decide, by decide⟩ kX11_heardAt rfl ?_
    refine fz_goto (tgt := 47) kX11_heardAt rfl (by decide) ?_
    exact fz_iret kX11_heardAt rfl rfl (fun _ => ⟨hI6, hf11, hRM8, _, rfl, (by omega), (by exact ⟨f10, (by first | exact fz_hh_n e13.symm (by omega) | exact fz_hh_y lost.symm (by omega) (by omega))⟩)⟩)

abbrev qX11_hears (h : fz_H) (d : Int) : fz_H → Option fz_V → Prop := fun h' r0 => fz_Iv h' ∧ fz_fr [(86, 99999), (87, 99999), (88, 99999)] h h' ∧ fz_RM h' ∧ r0 = none ∧ fl_he1 h h' d
set_option maxHeartbeats 1000000 in
set_option maxRecDepth 100000 in
theorem sX11_hears (h : fz_H) (hI : fz_Iv h) (d : Int) (hRM : fz_RM h) (hp0 : 0 ≤ d ∧ d ≤ 10) (hp1 : h 61 d.toNat < h 53 0) : fz_R 2 mX11_hears 0 [(0, fz_r 53), (1, fz_i d)] [] h (qX11_hears h d) := by
  refine fz_knowl (fun hk => ?_)
  have hr_d : -2147483648 ≤ d ∧ d < 2147483648 := hk _ (List.Mem.tail _ (List.Mem.head _))
  clear hk
  have hf : fz_fr [(86, 99999), (87, 99999), (88, 99999)] h h := fz_fr_rf
  have b1 : 0 ≤ h 53 0 ∧ h 53 0 ≤ 8 := hI.1 53 _
  have k2 : 0 ≤ h 53 0 ∧ h 53 0 ≤ 8 := hI.1 53 _
  have k3 : 0 ≤ h 61 d.toNat := (hI.1 61 _).1
  refine fz_aload_n kX11_hears rfl rfl ?_
  refine fz_aload_n kX11_hears rfl rfl ?_
  refine fz_getR (t := 61) kX11_hears rfl rfl ?_
  refine fz_iload_n kX11_hears rfl rfl ?_
  refine fz_ialdV (n := 11) (v := h 61 (d.toNat)) kX11_hears rfl rfl (by omega) (by omega) rfl ?_
  have b4 : 0 ≤ h 61 (d.toNat) ∧ h 61 (d.toNat) ≤ 7 := hI.1 61 _
  refine fz_iconst ⟨by decide, by decide⟩ kX11_hears rfl ?_
  refine fz_callV (d' := 1) (M' := mX11_goesFrom) (As := [fz_i (h 61 (d.toNat)), fz_i 1]) (st := []) kX11_hears rfl rfl vX11_goesFrom rfl rfl rfl rfl (Nat.le_of_ble_eq_true rfl) (Nat.le_of_ble_eq_true rfl) (by decide) (sX11_goesFrom_k h hI (h 61 (d.toNat)) 1 hRM (by omega) (by omega)) (fun H5 r6 q7 o8 => ?_)
  obtain ⟨hI9, hf10, hRM11, rfl, f12, f13⟩ := q7
  clear o8
  have hf14 := fz_fr_tr hf hf10 (show fz_su [(86, 99999), (87, 99999)] [(86, 99999), (87, 99999), (88, 99999)] = true from rfl)
  refine fz_iconst ⟨by decide, by decide⟩ kX11_hears rfl ?_
  refine fz_istore_n (ls' := [(2, fz_i 0), (0, fz_r 53), (1, fz_i d)]) kX11_hears rfl (by decide) rfl ?_
  have lp21 : ∀ (n20 : Nat) (x15 : Int) (H17 : fz_H), fz_Iv H17 → fz_fr [(86, 99999), (87, 99999), (88, 99999)] h H17 → fz_RM H17 → (0 ≤ x15 ∧ x15 ≤ 2147483647) → (H17 86 = H5 86) → (fl_hrI h H17 d x15) → ((h 53 0) - x15).toNat < n20 → fz_R 2 mX11_hears 13 [(2, fz_i x15), (0, fz_r 53), (1, fz_i d)] [] H17 (qX11_hears h d) := by
    intro n20
    induction n20 with
    | zero => intro x15 H17 hI18 hf19 hRM16 hv24 hv25 hv26 hm23; exact absurd hm23 (by omega)
    | succ n20 ih22 =>
      intro x15 H17 hI18 hf19 hRM16 hv24 hv25 hv26 hm23
      refine fz_iload_n kX11_hears rfl rfl ?_
      refine fz_aload_n kX11_hears rfl rfl ?_
      refine fz_getV (v := h 53 0) kX11_hears rfl rfl (hf19 53 0 rfl) ?_
      have b27 : 0 ≤ h 53 0 ∧ h 53 0 ≤ 8 := hI.1 53 _
      refine fz_icmp_ge (tgt := 74) kX11_hears rfl (by decide) (fun c28 => ?_) (fun c28 => ?_)
      · exact fz_vret kX11_hears rfl rfl ⟨hI18, hf19, hRM16, rfl, (by exact fl_he1_in hv26 (by omega))⟩
      · refine fz_aload_n kX11_hears rfl rfl ?_
        refine fz_getR (t := 88) kX11_hears rfl rfl ?_
        refine fz_bipush ⟨by decide, by decide⟩ kX11_hears rfl ?_
        refine fz_iload_n kX11_hears rfl rfl ?_
        refine fz_imulN kX11_hears rfl (by omega) ?_
        refine fz_iload_n kX11_hears rfl rfl ?_
        refine fz_iaddN kX11_hears rfl (by omega) ?_
        refine fz_aload_n kX11_hears rfl rfl ?_
        refine fz_getR (t := 86) kX11_hears rfl rfl ?_
        refine fz_iload_n kX11_hears rfl rfl ?_
        obtain ⟨v30, e31⟩ : ∃ z, H17 86 (x15.toNat) = z := ⟨_, rfl⟩
        refine fz_ialdV (n := 8) (v := v30) kX11_hears rfl rfl (by omega) (by omega) e31 ?_
        have b32 : (-2147483648) ≤ v30 ∧ v30 ≤ 2147483647 := by rw [← e31]; exact hI18.1 86 _
        have k33 : v30 = H5 86 (x15).toNat := e31.symm.trans (congrFun hv25 _)
        have k35 := fz_gf_nn f13 (b := (x15).toNat) (by omega)
        have k36 := f13.2.2 (x15).toNat (by omega)
        refine fz_bipush ⟨by decide, by decide⟩ kX11_hears rfl ?_
        refine fz_icmp_ne (tgt := 47) kX11_hears rfl (by decide) (fun c37 => ?_) (fun c37 => ?_)
        · refine fz_aload_n kX11_hears rfl rfl ?_
          refine fz_getR (t := 62) kX11_hears rfl rfl ?_
          refine fz_iload_n kX11_hears rfl rfl ?_
          refine fz_ialdV (n := 11) (v := h 62 (d.toNat)) kX11_hears rfl rfl (by omega) (by omega) (hf19 62 _ rfl) ?_
          have b38 : 0 ≤ h 62 (d.toNat) ∧ h 62 (d.toNat) ≤ 999 := hI.1 62 _
          refine fz_aload_n kX11_hears rfl rfl ?_
          refine fz_getR (t := 86) kX11_hears rfl rfl ?_
          refine fz_iload_n kX11_hears rfl rfl ?_
          obtain ⟨v39, e40⟩ : ∃ z, H17 86 (x15.toNat) = z := ⟨_, rfl⟩
          refine fz_ialdV (n := 8) (v := v39) kX11_hears rfl rfl (by omega) (by omega) e40 ?_
          have b41 : (-2147483648) ≤ v39 ∧ v39 ≤ 2147483647 := by rw [← e40]; exact hI18.1 86 _
          have k42 : v39 = H5 86 (x15).toNat := e40.symm.trans (congrFun hv25 _)
          have k45 : 0 ≤ v39 ∧ v39 ≤ 192 := by omega
          refine fz_iaddN kX11_hears rfl (by omega) ?_
          refine fz_aload_n kX11_hears rfl rfl ?_
          refine fz_getR (t := 54) kX11_hears rfl rfl ?_
          refine fz_iload_n kX11_hears rfl rfl ?_
          refine fz_ialdV (n := 8) (v := h 54 (x15.toNat)) kX11_hears rfl rfl (by omega) (by omega) (hf19 54 _ rfl) ?_
          have b46 : 0 ≤ h 54 (x15.toNat) ∧ h 54 (x15.toNat) ≤ 9 := hI.1 54 _
          refine fz_iaddN kX11_hears rfl (by omega) ?_
          refine fz_iast (n := 88) kX11_hears rfl rfl (by omega) (by omega) ?_
          refine fz_nmu (S := [(86, 99999), (87, 99999), (88, 99999)]) (h0 := h) (fz_Iv_up hI18 (by decide) (show ((-2147483648) : Int) ≤ (((h 62 (d.toNat)) + v39) + (h 54 (x15.toNat))) by omega) (show ((((h 62 (d.toNat)) + v39) + (h 54 (x15.toNat))) : Int) ≤ 2147483647 by omega)) (fz_fr_up hf19 rfl) (fun H47 hI48 hf49 e50 => ?_)
          have hRM51 : fz_RM H47 := fz_RM_eq (by rw [e50]; exact fz_up_ne (by decide)) (by rw [e50]; exact fz_up_ne (by decide)) (by rw [e50]; exact fz_up_o (by decide)) (by rw [e50]; exact fz_up_o (by decide)) hRM16
          refine fz_iincN (ls' := [(2, fz_i (x15 + 1)), (0, fz_r 53), (1, fz_i d)]) kX11_hears rfl (by decide) rfl (by omega) rfl ?_
          refine fz_goto (tgt := 13) kX11_hears rfl (by decide) ?_
          exact ih22 (x15 + 1) H47 hI48 hf49 hRM51 (by omega) (by rw [e50]; exact (fz_up_ne (by decide)).trans hv25) (by first | exact fl_hrI_st hv26 ⟨by omega, by omega⟩ (by omega) ⟨by omega, by omega⟩ (by omega) f13 (fz_EM_d hRM (fun r => (hI.1 57 r).1) (fun r => ⟨(hI.1 55 r).1, (hI.1 56 r).1⟩)) (fun q => ⟨(hI.1 55 q).1, (hI.1 56 q).1⟩) k42 (by omega) e50 (Or.inr ⟨by omega, by omega⟩) | exact fl_hrI_st hv26 ⟨by omega, by omega⟩ (by omega) ⟨by omega, by omega⟩ (by omega) f13 (fz_EM_d hRM (fun r => (hI.1 57 r).1) (fun r => ⟨(hI.1 55 r).1, (hI.1 56 r).1⟩)) (fun q => ⟨(hI.1 55 q).1, (hI.1 56 q).1⟩) k33 (by omega) e50 (Or.inl ⟨by omega, by omega⟩)) (by omega)
        · refine fz_bipush ⟨by decide, by decide⟩ kX11_hears rfl ?_
          refine fz_goto (tgt := 67) kX11_hears rfl (by decide) ?_
          refine fz_iast (n := 88) kX11_hears rfl rfl (by omega) (by omega) ?_
          refine fz_nmu (S := [(86, 99999), (87, 99999), (88, 99999)]) (h0 := h) (fz_Iv_up hI18 (by decide) (show ((-2147483648) : Int) ≤ (-2) by decide) (show ((-2) : Int) ≤ 2147483647 by decide)) (fz_fr_up hf19 rfl) (fun H54 hI55 hf56 e57 => ?_)
          have hRM58 : fz_RM H54 := fz_RM_eq (by rw [e57]; exact fz_up_ne (by decide)) (by rw [e57]; exact fz_up_ne (by decide)) (by rw [e57]; exact fz_up_o (by decide)) (by rw [e57]; exact fz_up_o (by decide)) hRM16
          refine fz_iincN (ls' := [(2, fz_i (x15 + 1)), (0, fz_r 53), (1, fz_i d)]) kX11_hears rfl (by decide) rfl (by omega) rfl ?_
          refine fz_goto (tgt := 13) kX11_hears rfl (by decide) ?_
          exact ih22 (x15 + 1) H54 hI55 hf56 hRM58 (by omega) (by rw [e57]; exact (fz_up_ne (by decide)).trans hv25) (by first | exact fl_hrI_st hv26 ⟨by omega, by omega⟩ (by omega) ⟨by omega, by omega⟩ (by omega) f13 (fz_EM_d hRM (fun r => (hI.1 57 r).1) (fun r => ⟨(hI.1 55 r).1, (hI.1 56 r).1⟩)) (fun q => ⟨(hI.1 55 q).1, (hI.1 56 q).1⟩) lost (by omega) e57 (Or.inr ⟨by omega, by omega⟩) | exact fl_hrI_st hv26 ⟨by omega, by omega⟩ (by omega) ⟨by omega, by omega⟩ (by omega) f13 (fz_EM_d hRM (fun r => (hI.1 57 r).1) (fun r => ⟨(hI.1 55 r).1, (hI.1 56 r).1⟩)) (fun q => ⟨(hI.1 55 q).1, (hI.1 56 q).1⟩) k33 (by omega) e57 (Or.inl ⟨by omega, by omega⟩)) (by omega)
  exact lp21 _ 0 H5 hI9 hf14 hRM11 (by omega) (rfl) (fl_hrI_0 (funext fun s => hf10 88 s rfl)) (Nat.lt_succ_self _)

abbrev qX11_allHear (h : fz_H) : fz_H → Option fz_V → Prop := fun h' r0 => fz_Iv h' ∧ fz_fr [(86, 99999), (87, 99999), (88, 99999)] h h' ∧ fz_RM h' ∧ fl_RPm h' ∧ r0 = none ∧ fl_HT h h' (h 53 10)
set_option maxHeartbeats 1000000 in
set_option maxRecDepth 100000 in
theorem sX11_allHear (h : fz_H) (hI : fz_Iv h) (hRM : fz_RM h) (hRPm : fl_RPm h) : fz_R 3 mX11_allHear 0 [(0, fz_r 53)] [] h (qX11_allHear h) := by
  have hf : fz_fr [(86, 99999), (87, 99999), (88, 99999)] h h := fz_fr_rf
  have b1 : 0 ≤ h 53 10 ∧ h 53 10 ≤ 11 := hI.1 53 _
  have k2 : 0 ≤ h 53 0 ∧ h 53 0 ≤ 8 := hI.1 53 _
  refine fz_iconst ⟨by decide, by decide⟩ kX11_allHear rfl ?_
  refine fz_istore_n (ls' := [(1, fz_i 0), (0, fz_r 53)]) kX11_allHear rfl (by decide) rfl ?_
  have lp10 : ∀ (n9 : Nat) (x3 : Int) (H6 : fz_H), fz_Iv H6 → fz_fr [(86, 99999), (87, 99999), (88, 99999)] h H6 → fz_RM H6 → fl_RPm H6 → (0 ≤ x3 ∧ x3 ≤ 2147483647) → (fl_HT h H6 x3) → ((h 53 10) - x3).toNat < n9 → fz_R 3 mX11_allHear 2 [(1, fz_i x3), (0, fz_r 53)] [] H6 (qX11_allHear h) := by
    intro n9
    induction n9 with
    | zero => intro x3 H6 hI7 hf8 hRM4 hRPm5 hv13 hv14 hm12; exact absurd hm12 (by omega)
    | succ n9 ih11 =>
      intro x3 H6 hI7 hf8 hRM4 hRPm5 hv13 hv14 hm12
      refine fz_iload_n kX11_allHear rfl rfl ?_
      refine fz_aload_n kX11_allHear rfl rfl ?_
      refine fz_getV (v := h 53 10) kX11_allHear rfl rfl (hf8 53 10 rfl) ?_
      have b15 : 0 ≤ h 53 10 ∧ h 53 10 ≤ 11 := hI.1 53 _
      refine fz_icmp_ge (tgt := 21) kX11_allHear rfl (by decide) (fun c16 => ?_) (fun c16 => ?_)
      · exact fz_vret kX11_allHear rfl rfl ⟨hI7, hf8, hRM4, hRPm5, rfl, (by exact fl_HT_le hv14 (by omega))⟩
      · have k18 : H6 53 10 = h 53 10 := hf8 53 10 rfl
        have k19 := fl_RPm_i (d := x3) hRPm5 (by omega)
        refine fz_aload_n kX11_allHear rfl rfl ?_
        refine fz_iload_n kX11_allHear rfl rfl ?_
        have b20 : 0 ≤ h 53 0 ∧ h 53 0 ≤ 8 := hI.1 53 _
        have e21 : H6 53 0 = h 53 0 := hf8 53 0 rfl
        have e22 : H6 61 x3.toNat = h 61 x3.toNat := hf8 61 _ rfl
        refine fz_callV (d' := 2) (M' := mX11_hears) (As := [fz_i x3]) (st := []) kX11_allHear rfl rfl vX11_hears rfl rfl rfl rfl (Nat.le_of_ble_eq_true rfl) (Nat.le_of_ble_eq_true rfl) (by decide) (sX11_hears H6 hI7 x3 hRM4 (by omega) (by omega)) (fun H23 r24 q25 o26 => ?_)
        obtain ⟨hI27, hf28, hRM29, rfl, f30⟩ := q25
        clear o26
        have hf31 := fz_fr_tr hf8 hf28 (show fz_su [(86, 99999), (87, 99999), (88, 99999)] [(86, 99999), (87, 99999), (88, 99999)] = true from rfl)
        have hRPm32 : fl_RPm H23 := fl_RPm_eq (funext fun s => hf28 61 s rfl) (hf28 53 10 rfl) (hf28 53 0 rfl) hRPm5
        refine fz_iincN (ls' := [(1, fz_i (x3 + 1)), (0, fz_r 53)]) kX11_allHear rfl (by decide) rfl (by omega) rfl ?_
        refine fz_goto (tgt := 2) kX11_allHear rfl (by decide) ?_
        exact ih11 (x3 + 1) H23 hI27 hf31 hRM29 hRPm32 (by omega) (fl_HT_nx hv14 (by omega) (by omega) (fl_hM_e (funext fun s => hf8 55 s rfl) (funext fun s => hf8 56 s rfl) (funext fun s => hf8 57 s rfl) (funext fun s => hf8 58 s rfl) (hf8 53 2 rfl) (hf8 53 0 rfl) (funext fun s => hf8 54 s rfl) (funext fun s => hf8 61 s rfl) (funext fun s => hf8 62 s rfl)) (hf8 53 0 rfl) f30) (by omega)
  exact lp10 _ 0 h hI hf hRM hRPm (by omega) (fl_HT_0) (Nat.lt_succ_self _)

abbrev qX11_heard (h : fz_H) (d t : Int) : fz_H → Option fz_V → Prop := fun h' r0 => fz_Iv h' ∧ fz_fr [(86, 99999), (87, 99999)] h h' ∧ fz_RM h' ∧ ∃ r : Int, r0 = some (fz_i r) ∧ ((-2) ≤ r ∧ r ≤ 1200) ∧ (((0 ≤ d ∧ d < h 53 10 ∧ 0 ≤ t ∧ t < h 53 0) ∧ fz_heM h h' d t r) ∨ (¬ (0 ≤ d ∧ d < h 53 10 ∧ 0 ≤ t ∧ t < h 53 0) ∧ r = -1))
set_option maxHeartbeats 1000000 in
set_option maxRecDepth 100000 in
theorem sX11_heard (h : fz_H) (hI : fz_Iv h) (d t : Int) (hRM : fz_RM h) : fz_R 3 mX11_heard 0 [(0, fz_r 53), (1, fz_i d), (2, fz_i t)] [] h (qX11_heard h d t) := by
  refine fz_knowl (fun hk => ?_)
  have hr_d : -2147483648 ≤ d ∧ d < 2147483648 := hk _ (List.Mem.tail _ (List.Mem.head _))
  have hr_t : -2147483648 ≤ t ∧ t < 2147483648 := hk _ (List.Mem.tail _ (List.Mem.tail _ (List.Mem.head _)))
  clear hk
  have hf : fz_fr [(86, 99999), (87, 99999)] h h := fz_fr_rf
  have b1 : 0 ≤ h 53 10 ∧ h 53 10 ≤ 11 := hI.1 53 _
  have b2 : 0 ≤ h 53 0 ∧ h 53 0 ≤ 8 := hI.1 53 _
  have k3 : 0 ≤ h 53 0 ∧ h 53 0 ≤ 8 := hI.1 53 _
  have k4 : 0 ≤ h 53 10 ∧ h 53 10 ≤ 11 := hI.1 53 _
  refine fz_aload_n kX11_heard rfl rfl ?_
  refine fz_iload_n kX11_heard rfl rfl ?_
  refine fz_callV (d' := 1) (M' := mX11_isDeed) (As := [fz_i d]) (st := []) kX11_heard rfl rfl vX11_isDeed rfl rfl rfl rfl (Nat.le_of_ble_eq_true rfl) (Nat.le_of_ble_eq_true rfl) (by decide) (sX11_isDeed h hI d ) (fun H5 r6 q7 o8 => ?_)
  obtain ⟨e9, y10, rfl, p11⟩ := q7
  subst H5
  clear o8
  rcases p11 with ⟨rfl, c12⟩ | ⟨rfl, c12⟩
  · refine fz_if_eq (tgt := 25) kX11_heard rfl (by decide) (fun c13 => ?_) (fun c13 => ?_)
    · exfalso; omega
    · refine fz_aload_n kX11_heard rfl rfl ?_
      refine fz_iload_n kX11_heard rfl rfl ?_
      refine fz_callV (d' := 1) (M' := mX11_isTown) (As := [fz_i t]) (st := []) kX11_heard rfl rfl vX11_isTown rfl rfl rfl rfl (Nat.le_of_ble_eq_true rfl) (Nat.le_of_ble_eq_true rfl) (by decide) (sX11_isTown h hI t ) (fun H14 r15 q16 o17 => ?_)
      obtain ⟨e18, y19, rfl, p20⟩ := q16
      subst H14
      clear o17
      rcases p20 with ⟨rfl, c21⟩ | ⟨rfl, c21⟩
      · refine fz_if_eq (tgt := 25) kX11_heard rfl (by decide) (fun c22 => ?_) (fun c22 => ?_)
        · exfalso; omega
        · refine fz_aload_n kX11_heard rfl rfl ?_
          refine fz_iload_n kX11_heard rfl rfl ?_
          refine fz_iload_n kX11_heard rfl rfl ?_
          refine fz_callV (d' := 2) (M' := mX11_heardAt) (As := [fz_i d, fz_i t]) (st := []) kX11_heard rfl rfl vX11_heardAt rfl rfl rfl rfl (Nat.le_of_ble_eq_true rfl) (Nat.le_of_ble_eq_true rfl) (by decide) (sX11_heardAt h hI d t hRM (by omega) (by omega)) (fun H23 r24 q25 o26 => ?_)
          obtain ⟨hI27, hf28, hRM29, y32, rfl, f30, f31⟩ := q25
          clear o26
          have hf33 := fz_fr_tr hf hf28 (show fz_su [(86, 99999), (87, 99999)] [(86, 99999), (87, 99999)] = true from rfl)
          refine fz_goto (tgt := 26) kX11_heard rfl (by decide) ?_
          exact fz_iret kX11_heard rfl rfl (fun _ => ⟨hI27, hf33, hRM29, _, rfl, (by omega), (by first | exact Or.inl ⟨by omega, f31⟩ | exact Or.inr ⟨by omega, rfl⟩)⟩)
      · refine fz_if_eq (tgt := 25) kX11_heard rfl (by decide) (fun c35 => ?_) (fun c35 => ?_)
        · refine fz_iconst ⟨by decide, by decide⟩ kX11_heard rfl ?_
          exact fz_iret kX11_heard rfl rfl (fun _ => ⟨hI, hf, hRM, _, rfl, (by omega), (by first | exact Or.inl ⟨by omega, lost⟩ | exact Or.inr ⟨by omega, rfl⟩)⟩)
        · exfalso; omega
  · refine fz_if_eq (tgt := 25) kX11_heard rfl (by decide) (fun c37 => ?_) (fun c37 => ?_)
    · refine fz_iconst ⟨by decide, by decide⟩ kX11_heard rfl ?_
      exact fz_iret kX11_heard rfl rfl (fun _ => ⟨hI, hf, hRM, _, rfl, (by omega), (by first | exact Or.inl ⟨by omega, lost⟩ | exact Or.inr ⟨by omega, rfl⟩)⟩)
    · exfalso; omega

abbrev qX11_loudness (h : fz_H) (d t hr pe : Int) : fz_H → Option fz_V → Prop := fun h' r0 => fz_Iv h' ∧ fz_fr [(74, 99999), (75, 99999)] h h' ∧ fz_Xw h' ∧ ∃ r : Int, r0 = some (fz_i r) ∧ (0 ≤ r ∧ r ≤ 99) ∧ (r = fl_ltM h pe t hr d)
set_option maxHeartbeats 1000000 in
set_option maxRecDepth 100000 in
theorem sX11_loudness (h : fz_H) (hI : fz_Iv h) (d t hr pe : Int) (hXw : fz_Xw h) (hp0 : 0 ≤ d ∧ d ≤ 10) (hp1 : 0 ≤ t ∧ t ≤ 7) (hp2 : d < h 53 10 ∧ t < h 53 0) (hp3 : h 88 (8 * d + t).toNat = -2 ∨ h 62 d.toNat ≤ h 88 (8 * d + t).toNat) : fz_R 2 mX11_loudness 0 [(0, fz_r 53), (1, fz_i d), (2, fz_i t), (3, fz_i hr), (4, fz_i pe)] [] h (qX11_loudness h d t hr pe) := by
  refine fz_knowl (fun hk => ?_)
  have hr_d : -2147483648 ≤ d ∧ d < 2147483648 := hk _ (List.Mem.tail _ (List.Mem.head _))
  have hr_t : -2147483648 ≤ t ∧ t < 2147483648 := hk _ (List.Mem.tail _ (List.Mem.tail _ (List.Mem.head _)))
  have hr_hr : -2147483648 ≤ hr ∧ hr < 2147483648 := hk _ (List.Mem.tail _ (List.Mem.tail _ (List.Mem.tail _ (List.Mem.head _))))
  have hr_pe : -2147483648 ≤ pe ∧ pe < 2147483648 := hk _ (List.Mem.tail _ (List.Mem.tail _ (List.Mem.tail _ (List.Mem.tail _ (List.Mem.head _)))))
  clear hk
  have hf : fz_fr [(74, 99999), (75, 99999)] h h := fz_fr_rf
  have b1 : 0 ≤ h 53 10 ∧ h 53 10 ≤ 11 := hI.1 53 _
  have b2 : 0 ≤ h 53 0 ∧ h 53 0 ≤ 8 := hI.1 53 _
  refine fz_aload_n kX11_loudness rfl rfl ?_
  refine fz_getR (t := 88) kX11_loudness rfl rfl ?_
  refine fz_bipush ⟨by decide, by decide⟩ kX11_loudness rfl ?_
  refine fz_iload_n kX11_loudness rfl rfl ?_
  refine fz_imulN kX11_loudness rfl (by omega) ?_
  refine fz_iload_n kX11_loudness rfl rfl ?_
  refine fz_iaddN kX11_loudness rfl (by omega) ?_
  refine fz_ialdV (n := 88) (v := h 88 (((8 * d) + t).toNat)) kX11_loudness rfl rfl (by omega) (by omega) rfl ?_
  have b3 : (-2147483648) ≤ h 88 (((8 * d) + t).toNat) ∧ h 88 (((8 * d) + t).toNat) ≤ 2147483647 := hI.1 88 _
  refine fz_istore (ls' := [(5, fz_i (h 88 (((8 * d) + t).toNat))), (0, fz_r 53), (1, fz_i d), (2, fz_i t), (3, fz_i hr), (4, fz_i pe)]) kX11_loudness rfl (by decide) rfl ?_
  refine fz_iload kX11_loudness rfl rfl ?_
  refine fz_bipush ⟨by decide, by decide⟩ kX11_loudness rfl ?_
  refine fz_icmp_eq (tgt := 26) kX11_loudness rfl (by decide) (fun c4 => ?_) (fun c4 => ?_)
  · refine fz_iconst ⟨by decide, by decide⟩ kX11_loudness rfl ?_
    exact fz_iret kX11_loudness rfl rfl (fun _ => ⟨hI, hf, hXw, _, rfl, (by omega), (by first | exact fl_lv_v lost lost lost lost rfl rfl rfl (by omega) (by omega) rfl | exact fl_lv_1 (by omega) (by omega) (fl_li_say lost (by omega) (Or.inr ⟨_, (fl_wk_use lost (funext fun s => lost 69 s rfl) lost lost.2.1 (by omega)), by omega⟩) (fl_wk_use lost (funext fun s => lost 69 s rfl) ((congrArg fl_n6 (funext fun s => lost 75 s rfl)).trans lost) lost.2.2 (by omega)) rfl) | exact fl_lv_1 (by omega) (by omega) (fl_li_say lost (by omega) (Or.inl (by omega)) (fl_wk_use lost (funext fun s => lost 69 s rfl) lost lost.2.2 (by omega)) rfl) | exact fl_lv_1 (by omega) (by omega) (fl_li_end lost (by omega)) | exact fl_lv_n (by omega))⟩)
  · refine fz_iload kX11_loudness rfl rfl ?_
    refine fz_iload_n kX11_loudness rfl rfl ?_
    refine fz_icmp_le (tgt := 28) kX11_loudness rfl (by decide) (fun c6 => ?_) (fun c6 => ?_)
    · have k7 : 0 ≤ h 62 d.toNat := (hI.1 62 _).1
      have k9 : 0 ≤ (h 88 (((8 * d) + t).toNat)) ∧ (h 88 (((8 * d) + t).toNat)) ≤ 2147483647 := by omega
      have k11 : 0 ≤ hr ∧ hr ≤ 2147483647 := by omega
      refine fz_aload_n kX11_loudness rfl rfl ?_
      refine fz_getR (t := 75) kX11_loudness rfl rfl ?_
      refine fz_iconst ⟨by decide, by decide⟩ kX11_loudness rfl ?_
      refine fz_aload_n kX11_loudness rfl rfl ?_
      refine fz_getR (t := 64) kX11_loudness rfl rfl ?_
      refine fz_iload_n kX11_loudness rfl rfl ?_
      refine fz_ialdV (n := 11) (v := h 64 (d.toNat)) kX11_loudness rfl rfl (by omega) (by omega) rfl ?_
      have b12 : 0 ≤ h 64 (d.toNat) ∧ h 64 (d.toNat) ≤ 9 := hI.1 64 _
      refine fz_iast (n := 6) kX11_loudness rfl rfl (by omega) (by omega) ?_
      refine fz_nmu (S := [(74, 99999), (75, 99999)]) (h0 := h) (fz_Iv_up hI (by decide) (show ((-2147483648) : Int) ≤ (h 64 (d.toNat)) by omega) (show ((h 64 (d.toNat)) : Int) ≤ 2147483647 by omega)) (fz_fr_up hf rfl) (fun H13 hI14 hf15 e16 => ?_)
      have hXw17 : fz_Xw H13 := fz_Xw_eq (by rw [e16]; exact fz_up_o (by decide)) (by rw [e16]; exact fz_up_ne (by decide)) (by rw [e16]; exact fz_up_ne (by decide)) (by rw [e16]; exact fz_up_ne (by decide)) (by rw [e16]; exact fz_up_ne (by decide)) hXw
      refine fz_aload_n kX11_loudness rfl rfl ?_
      refine fz_getR (t := 75) kX11_loudness rfl rfl ?_
      refine fz_iconst ⟨by decide, by decide⟩ kX11_loudness rfl ?_
      refine fz_iload_n kX11_loudness rfl rfl ?_
      refine fz_iload kX11_loudness rfl rfl ?_
      refine fz_isubN kX11_loudness rfl (by omega) ?_
      refine fz_iast (n := 6) kX11_loudness rfl rfl (by omega) (by omega) ?_
      refine fz_nmu (S := [(74, 99999), (75, 99999)]) (h0 := h) (fz_Iv_up hI14 (by decide) (show ((-2147483648) : Int) ≤ (hr - (h 88 (((8 * d) + t).toNat))) by omega) (show ((hr - (h 88 (((8 * d) + t).toNat))) : Int) ≤ 2147483647 by omega)) (fz_fr_up hf15 rfl) (fun H18 hI19 hf20 e21 => ?_)
      have hXw22 : fz_Xw H18 := fz_Xw_eq (by rw [e21]; exact fz_up_o (by decide)) (by rw [e21]; exact fz_up_ne (by decide)) (by rw [e21]; exact fz_up_ne (by decide)) (by rw [e21]; exact fz_up_ne (by decide)) (by rw [e21]; exact fz_up_ne (by decide)) hXw17
      refine fz_aload_n kX11_loudness rfl rfl ?_
      refine fz_getR (t := 75) kX11_loudness rfl rfl ?_
      refine fz_iconst ⟨by decide, by decide⟩ kX11_loudness rfl ?_
      refine fz_iload kX11_loudness rfl rfl ?_
      refine fz_aload_n kX11_loudness rfl rfl ?_
      refine fz_getR (t := 62) kX11_loudness rfl rfl ?_
      refine fz_iload_n kX11_loudness rfl rfl ?_
      refine fz_ialdV (n := 11) (v := h 62 (d.toNat)) kX11_loudness rfl rfl (by omega) (by omega) (hf20 62 _ rfl) ?_
      have b23 : 0 ≤ h 62 (d.toNat) ∧ h 62 (d.toNat) ≤ 999 := hI.1 62 _
      refine fz_isubN kX11_loudness rfl (by omega) ?_
      refine fz_iast (n := 6) kX11_loudness rfl rfl (by omega) (by omega) ?_
      refine fz_nmu (S := [(74, 99999), (75, 99999)]) (h0 := h) (fz_Iv_up hI19 (by decide) (show ((-2147483648) : Int) ≤ ((h 88 (((8 * d) + t).toNat)) - (h 62 (d.toNat))) by omega) (show (((h 88 (((8 * d) + t).toNat)) - (h 62 (d.toNat))) : Int) ≤ 2147483647 by omega)) (fz_fr_up hf20 rfl) (fun H24 hI25 hf26 e27 => ?_)
      have hXw28 : fz_Xw H24 := fz_Xw_eq (by rw [e27]; exact fz_up_o (by decide)) (by rw [e27]; exact fz_up_ne (by decide)) (by rw [e27]; exact fz_up_ne (by decide)) (by rw [e27]; exact fz_up_ne (by decide)) (by rw [e27]; exact fz_up_ne (by decide)) hXw22
      refine fz_aload_n kX11_loudness rfl rfl ?_
      refine fz_getR (t := 75) kX11_loudness rfl rfl ?_
      refine fz_iconst ⟨by decide, by decide⟩ kX11_loudness rfl ?_
      refine fz_aload_n kX11_loudness rfl rfl ?_
      refine fz_getR (t := 63) kX11_loudness rfl rfl ?_
      refine fz_iload_n kX11_loudness rfl rfl ?_
      refine fz_ialdV (n := 11) (v := h 63 (d.toNat)) kX11_loudness rfl rfl (by omega) (by omega) (hf26 63 _ rfl) ?_
      have b29 : 0 ≤ h 63 (d.toNat) ∧ h 63 (d.toNat) ≤ 4 := hI.1 63 _
      refine fz_iast (n := 6) kX11_loudness rfl rfl (by omega) (by omega) ?_
      refine fz_nmu (S := [(74, 99999), (75, 99999)]) (h0 := h) (fz_Iv_up hI25 (by decide) (show ((-2147483648) : Int) ≤ (h 63 (d.toNat)) by omega) (show ((h 63 (d.toNat)) : Int) ≤ 2147483647 by omega)) (fz_fr_up hf26 rfl) (fun H30 hI31 hf32 e33 => ?_)
      have hXw34 : fz_Xw H30 := fz_Xw_eq (by rw [e33]; exact fz_up_o (by decide)) (by rw [e33]; exact fz_up_ne (by decide)) (by rw [e33]; exact fz_up_ne (by decide)) (by rw [e33]; exact fz_up_ne (by decide)) (by rw [e33]; exact fz_up_ne (by decide)) hXw28
      refine fz_aload_n kX11_loudness rfl rfl ?_
      refine fz_getR (t := 75) kX11_loudness rfl rfl ?_
      refine fz_iconst ⟨by decide, by decide⟩ kX11_loudness rfl ?_
      refine fz_iload_n kX11_loudness rfl rfl ?_
      refine fz_iast (n := 6) kX11_loudness rfl rfl (by omega) (by omega) ?_
      refine fz_nmu (S := [(74, 99999), (75, 99999)]) (h0 := h) (fz_Iv_up hI31 (by decide) (show ((-2147483648) : Int) ≤ t by omega) (show (t : Int) ≤ 2147483647 by omega)) (fz_fr_up hf32 rfl) (fun H35 hI36 hf37 e38 => ?_)
      have hXw39 : fz_Xw H35 := fz_Xw_eq (by rw [e38]; exact fz_up_o (by decide)) (by rw [e38]; exact fz_up_ne (by decide)) (by rw [e38]; exact fz_up_ne (by decide)) (by rw [e38]; exact fz_up_ne (by decide)) (by rw [e38]; exact fz_up_ne (by decide)) hXw34
      refine fz_aload_n kX11_loudness rfl rfl ?_
      refine fz_getR (t := 75) kX11_loudness rfl rfl ?_
      refine fz_iconst ⟨by decide, by decide⟩ kX11_loudness rfl ?_
      refine fz_iload kX11_loudness rfl rfl ?_
      refine fz_iast (n := 6) kX11_loudness rfl rfl (by omega) (by omega) ?_
      refine fz_nmu (S := [(74, 99999), (75, 99999)]) (h0 := h) (fz_Iv_up hI36 (by decide) (show ((-2147483648) : Int) ≤ pe by omega) (show (pe : Int) ≤ 2147483647 by omega)) (fz_fr_up hf37 rfl) (fun H40 hI41 hf42 e43 => ?_)
      have hXw44 : fz_Xw H40 := fz_Xw_eq (by rw [e43]; exact fz_up_o (by decide)) (by rw [e43]; exact fz_up_ne (by decide)) (by rw [e43]; exact fz_up_ne (by decide)) (by rw [e43]; exact fz_up_ne (by decide)) (by rw [e43]; exact fz_up_ne (by decide)) hXw39
      have k45 := fl_n6_in e16 e21 e27 e33 e38 e43
      have k47 := fl_n6_k k45
      refine fz_aload_n kX11_loudness rfl rfl ?_
      refine fz_getV (v := h 53 18) kX11_loudness rfl rfl (hf42 53 18 rfl) ?_
      have b49 : 0 ≤ h 53 18 ∧ h 53 18 ≤ 1 := hI.1 53 _
      refine fz_if_ne (tgt := 131) kX11_loudness rfl (by decide) (fun c50 => ?_) (fun c50 => ?_)
      · refine fz_iconst ⟨by decide, by decide⟩ kX11_loudness rfl ?_
        refine fz_istore (ls' := [(6, fz_i 0), (5, fz_i (h 88 (((8 * d) + t).toNat))), (0, fz_r 53), (1, fz_i d), (2, fz_i t), (3, fz_i hr), (4, fz_i pe)]) kX11_loudness rfl (by decide) rfl ?_
        have lp57 : ∀ (n56 : Nat) (x51 : Int) (H53 : fz_H), fz_Iv H53 → fz_fr [(74, 99999), (75, 99999)] h H53 → fz_Xw H53 → (0 ≤ x51 ∧ x51 ≤ 2147483647) → (fl_n6 (H53 75) = (fl_nv (h 64 d.toNat) (hr - (h 88 (((8 * d) + t).toNat))) ((h 88 (((8 * d) + t).toNat)) - h 62 d.toNat) (h 63 d.toNat) t pe)) → (fl_li h (fl_nv (h 64 d.toNat) (hr - (h 88 (((8 * d) + t).toNat))) ((h 88 (((8 * d) + t).toNat)) - h 62 d.toNat) (h 63 d.toNat) t pe) x51) → ((h 53 19) - x51).toNat < n56 → fz_R 2 mX11_loudness 134 [(6, fz_i x51), (5, fz_i (h 88 (((8 * d) + t).toNat))), (0, fz_r 53), (1, fz_i d), (2, fz_i t), (3, fz_i hr), (4, fz_i pe)] [] H53 (qX11_loudness h d t hr pe) := by
          intro n56
          induction n56 with
          | zero => intro x51 H53 hI54 hf55 hXw52 hv60 hv61 hv62 hm59; exact absurd hm59 (by omega)
          | succ n56 ih58 =>
            intro x51 H53 hI54 hf55 hXw52 hv60 hv61 hv62 hm59
            refine fz_iload kX11_loudness rfl rfl ?_
            refine fz_aload_n kX11_loudness rfl rfl ?_
            refine fz_getV (v := h 53 19) kX11_loudness rfl rfl (hf55 53 19 rfl) ?_
            have b63 : 0 ≤ h 53 19 ∧ h 53 19 ≤ 60 := hI.1 53 _
            refine fz_icmp_ge (tgt := 218) kX11_loudness rfl (by decide) (fun c64 => ?_) (fun c64 => ?_)
            · refine fz_iconst ⟨by decide, by decide⟩ kX11_loudness rfl ?_
              exact fz_iret kX11_loudness rfl rfl (fun _ => ⟨hI54, hf55, hXw52, _, rfl, (by omega), (by first | exact fl_lv_v k47 lost lost lost rfl rfl rfl (by omega) (by omega) rfl | exact fl_lv_1 (by omega) (by omega) (fl_li_say hv62 (by omega) (Or.inr ⟨_, (fl_wk_use lost (funext fun s => lost 69 s rfl) hv61 lost.2.1 (by omega)), by omega⟩) (fl_wk_use lost (funext fun s => lost 69 s rfl) ((congrArg fl_n6 (funext fun s => lost 75 s rfl)).trans hv61) lost.2.2 (by omega)) rfl) | exact fl_lv_1 (by omega) (by omega) (fl_li_say hv62 (by omega) (Or.inl (by omega)) (fl_wk_use lost (funext fun s => lost 69 s rfl) hv61 lost.2.2 (by omega)) rfl) | exact fl_lv_1 (by omega) (by omega) (fl_li_end hv62 (by omega)) | exact fl_lv_n (by omega))⟩)
            · have k66 := fz_Xw_i (x := x51) hXw (by omega)
              have k68 := k66.1
              refine fz_aload_n kX11_loudness rfl rfl ?_
              refine fz_getR (t := 67) kX11_loudness rfl rfl ?_
              refine fz_iload kX11_loudness rfl rfl ?_
              refine fz_ialdV (n := 60) (v := h 67 (x51.toNat)) kX11_loudness rfl rfl (by omega) (by omega) (hf55 67 _ rfl) ?_
              have b69 : 0 ≤ h 67 (x51.toNat) ∧ h 67 (x51.toNat) ≤ 200 := hI.1 67 _
              refine fz_aload_n kX11_loudness rfl rfl ?_
              refine fz_getR (t := 66) kX11_loudness rfl rfl ?_
              refine fz_iload kX11_loudness rfl rfl ?_
              refine fz_ialdV (n := 60) (v := h 66 (x51.toNat)) kX11_loudness rfl rfl (by omega) (by omega) (hf55 66 _ rfl) ?_
              have b70 : 0 ≤ h 66 (x51.toNat) ∧ h 66 (x51.toNat) ≤ 200 := hI.1 66 _
              refine fz_icmp_le (tgt := 184) kX11_loudness rfl (by decide) (fun c71 => ?_) (fun c71 => ?_)
              · refine fz_iconst ⟨by decide, by decide⟩ kX11_loudness rfl ?_
                refine fz_bipush ⟨by decide, by decide⟩ kX11_loudness rfl ?_
                refine fz_aload_n kX11_loudness rfl rfl ?_
                refine fz_aload_n kX11_loudness rfl rfl ?_
                refine fz_getR (t := 67) kX11_loudness rfl rfl ?_
                refine fz_iload kX11_loudness rfl rfl ?_
                refine fz_ialdV (n := 60) (v := h 67 (x51.toNat)) kX11_loudness rfl rfl (by omega) (by omega) (hf55 67 _ rfl) ?_
                refine fz_aload_n kX11_loudness rfl rfl ?_
                refine fz_getR (t := 68) kX11_loudness rfl rfl ?_
                refine fz_iload kX11_loudness rfl rfl ?_
                refine fz_ialdV (n := 60) (v := h 68 (x51.toNat)) kX11_loudness rfl rfl (by omega) (by omega) (hf55 68 _ rfl) ?_
                have b72 : 0 ≤ h 68 (x51.toNat) ∧ h 68 (x51.toNat) ≤ 200 := hI.1 68 _
                have k73 := fz_Sg_h (funext fun s => hf55 69 s rfl) k66.2.2
                refine fz_callV (d' := 1) (M' := mX11_worked) (As := [fz_i (h 67 (x51.toNat)), fz_i (h 68 (x51.toNat))]) (st := [fz_i 99, fz_i 0]) kX11_loudness rfl rfl vX11_worked rfl rfl rfl rfl (Nat.le_of_ble_eq_true rfl) (Nat.le_of_ble_eq_true rfl) (by decide) (sX11_worked H53 hI54 (h 67 (x51.toNat)) (h 68 (x51.toNat)) (by omega) k73) (fun H75 r76 q77 o78 => ?_)
                obtain ⟨hI79, hf80, y83, rfl, f81, f82⟩ := q77
                clear o78
                have hf84 := fz_fr_tr hf55 hf80 (show fz_su [(74, 99999)] [(74, 99999), (75, 99999)] = true from rfl)
                have hXw85 : fz_Xw H75 := fz_Xw_eq (hf80 53 19 rfl) (funext fun s => hf80 66 s rfl) (funext fun s => hf80 67 s rfl) (funext fun s => hf80 68 s rfl) (funext fun s => hf80 69 s rfl) hXw52
                refine fz_min kX11_loudness rfl rfl fz_sMn fz_iMm fz_cMn (by decide) (Nat.le_of_ble_eq_true rfl) ?_
                refine fz_max kX11_loudness rfl rfl fz_sMx fz_iMm fz_cMx (by decide) (Nat.le_of_ble_eq_true rfl) ?_
                exact fz_iret kX11_loudness rfl rfl (fun _ => ⟨hI79, hf84, hXw85, _, rfl, (by omega), (by first | exact fl_lv_v k47 lost lost lost rfl rfl rfl (by omega) (by omega) rfl | exact fl_lv_1 (by omega) (by omega) (fl_li_say hv62 (by omega) (Or.inr ⟨_, (fl_wk_use f82 (funext fun s => lost 69 s rfl) hv61 k66.2.1 (by omega)), by omega⟩) (fl_wk_use lost (funext fun s => hf55 69 s rfl) ((congrArg fl_n6 (funext fun s => lost 75 s rfl)).trans hv61) k66.2.2 (by omega)) rfl) | exact fl_lv_1 (by omega) (by omega) (fl_li_say hv62 (by omega) (Or.inl (by omega)) (fl_wk_use f82 (funext fun s => hf55 69 s rfl) hv61 k66.2.2 (by omega)) rfl) | exact fl_lv_1 (by omega) (by omega) (fl_li_end hv62 (by omega)) | exact fl_lv_n (by omega))⟩)
              · refine fz_aload_n kX11_loudness rfl rfl ?_
                refine fz_aload_n kX11_loudness rfl rfl ?_
                refine fz_getR (t := 66) kX11_loudness rfl rfl ?_
                refine fz_iload kX11_loudness rfl rfl ?_
                refine fz_ialdV (n := 60) (v := h 66 (x51.toNat)) kX11_loudness rfl rfl (by omega) (by omega) (hf55 66 _ rfl) ?_
                refine fz_aload_n kX11_loudness rfl rfl ?_
                refine fz_getR (t := 67) kX11_loudness rfl rfl ?_
                refine fz_iload kX11_loudness rfl rfl ?_
                refine fz_ialdV (n := 60) (v := h 67 (x51.toNat)) kX11_loudness rfl rfl (by omega) (by omega) (hf55 67 _ rfl) ?_
                have k87 := fz_Sg_h (funext fun s => hf55 69 s rfl) k66.2.1
                refine fz_callV (d' := 1) (M' := mX11_worked) (As := [fz_i (h 66 (x51.toNat)), fz_i (h 67 (x51.toNat))]) (st := []) kX11_loudness rfl rfl vX11_worked rfl rfl rfl rfl (Nat.le_of_ble_eq_true rfl) (Nat.le_of_ble_eq_true rfl) (by decide) (sX11_worked H53 hI54 (h 66 (x51.toNat)) (h 67 (x51.toNat)) (by omega) k87) (fun H89 r90 q91 o92 => ?_)
                obtain ⟨hI93, hf94, y97, rfl, f95, f96⟩ := q91
                clear o92
                have hf98 := fz_fr_tr hf55 hf94 (show fz_su [(74, 99999)] [(74, 99999), (75, 99999)] = true from rfl)
                have hXw99 : fz_Xw H89 := fz_Xw_eq (hf94 53 19 rfl) (funext fun s => hf94 66 s rfl) (funext fun s => hf94 67 s rfl) (funext fun s => hf94 68 s rfl) (funext fun s => hf94 69 s rfl) hXw52
                refine fz_if_ne (tgt := 184) kX11_loudness rfl (by decide) (fun c100 => ?_) (fun c100 => ?_)
                · refine fz_iconst ⟨by decide, by decide⟩ kX11_loudness rfl ?_
                  refine fz_bipush ⟨by decide, by decide⟩ kX11_loudness rfl ?_
                  refine fz_aload_n kX11_loudness rfl rfl ?_
                  refine fz_aload_n kX11_loudness rfl rfl ?_
                  refine fz_getR (t := 67) kX11_loudness rfl rfl ?_
                  refine fz_iload kX11_loudness rfl rfl ?_
                  refine fz_ialdV (n := 60) (v := h 67 (x51.toNat)) kX11_loudness rfl rfl (by omega) (by omega) (hf98 67 _ rfl) ?_
                  refine fz_aload_n kX11_loudness rfl rfl ?_
                  refine fz_getR (t := 68) kX11_loudness rfl rfl ?_
                  refine fz_iload kX11_loudness rfl rfl ?_
                  refine fz_ialdV (n := 60) (v := h 68 (x51.toNat)) kX11_loudness rfl rfl (by omega) (by omega) (hf98 68 _ rfl) ?_
                  have b101 : 0 ≤ h 68 (x51.toNat) ∧ h 68 (x51.toNat) ≤ 200 := hI.1 68 _
                  have k102 := fz_Sg_h (funext fun s => hf98 69 s rfl) k66.2.2
                  refine fz_callV (d' := 1) (M' := mX11_worked) (As := [fz_i (h 67 (x51.toNat)), fz_i (h 68 (x51.toNat))]) (st := [fz_i 99, fz_i 0]) kX11_loudness rfl rfl vX11_worked rfl rfl rfl rfl (Nat.le_of_ble_eq_true rfl) (Nat.le_of_ble_eq_true rfl) (by decide) (sX11_worked H89 hI93 (h 67 (x51.toNat)) (h 68 (x51.toNat)) (by omega) k102) (fun H104 r105 q106 o107 => ?_)
                  obtain ⟨hI108, hf109, y112, rfl, f110, f111⟩ := q106
                  clear o107
                  have hf113 := fz_fr_tr hf98 hf109 (show fz_su [(74, 99999)] [(74, 99999), (75, 99999)] = true from rfl)
                  have hXw114 : fz_Xw H104 := fz_Xw_eq (hf109 53 19 rfl) (funext fun s => hf109 66 s rfl) (funext fun s => hf109 67 s rfl) (funext fun s => hf109 68 s rfl) (funext fun s => hf109 69 s rfl) hXw99
                  refine fz_min kX11_loudness rfl rfl fz_sMn fz_iMm fz_cMn (by decide) (Nat.le_of_ble_eq_true rfl) ?_
                  refine fz_max kX11_loudness rfl rfl fz_sMx fz_iMm fz_cMx (by decide) (Nat.le_of_ble_eq_true rfl) ?_
                  exact fz_iret kX11_loudness rfl rfl (fun _ => ⟨hI108, hf113, hXw114, _, rfl, (by omega), (by first | exact fl_lv_v k47 lost lost lost rfl rfl rfl (by omega) (by omega) rfl | exact fl_lv_1 (by omega) (by omega) (fl_li_say hv62 (by omega) (Or.inr ⟨_, (fl_wk_use f96 (funext fun s => hf55 69 s rfl) hv61 k66.2.1 (by omega)), by omega⟩) (fl_wk_use f111 (funext fun s => hf98 69 s rfl) ((congrArg fl_n6 (funext fun s => hf94 75 s rfl)).trans hv61) k66.2.2 (by omega)) rfl) | exact fl_lv_1 (by omega) (by omega) (fl_li_say hv62 (by omega) (Or.inl (by omega)) (fl_wk_use f96 (funext fun s => hf98 69 s rfl) hv61 k66.2.2 (by omega)) rfl) | exact fl_lv_1 (by omega) (by omega) (fl_li_end hv62 (by omega)) | exact fl_lv_n (by omega))⟩)
                · refine fz_goto (tgt := 212) kX11_loudness rfl (by decide) ?_
                  refine fz_iincN (ls' := [(6, fz_i (x51 + 1)), (5, fz_i (h 88 (((8 * d) + t).toNat))), (0, fz_r 53), (1, fz_i d), (2, fz_i t), (3, fz_i hr), (4, fz_i pe)]) kX11_loudness rfl (by decide) rfl (by omega) rfl ?_
                  refine fz_goto (tgt := 134) kX11_loudness rfl (by decide) ?_
                  exact ih58 (x51 + 1) H89 hI93 hf98 hXw99 (by omega) (by first | exact ((congrArg fl_n6 (funext fun s => hf94 75 s rfl)).trans hv61) | exact hv61) (fl_li_skip hv62 (by omega) (by omega) (fl_wk_use f96 (funext fun s => hf55 69 s rfl) hv61 k66.2.1 (by omega)) (by omega)) (by omega)
        exact lp57 _ 0 H40 hI41 hf42 hXw44 (by omega) (k45) (fl_li_0) (Nat.lt_succ_self _)
      · refine fz_iconst ⟨by decide, by decide⟩ kX11_loudness rfl ?_
        refine fz_iconst ⟨by decide, by decide⟩ kX11_loudness rfl ?_
        refine fz_aload_n kX11_loudness rfl rfl ?_
        refine fz_getR (t := 75) kX11_loudness rfl rfl ?_
        refine fz_iconst ⟨by decide, by decide⟩ kX11_loudness rfl ?_
        obtain ⟨v120, e121⟩ : ∃ z, H40 75 (0) = z := ⟨_, rfl⟩
        refine fz_ialdV (n := 6) (v := v120) kX11_loudness rfl rfl (by omega) (by omega) e121 ?_
        have b122 : (-2147483648) ≤ v120 ∧ v120 ≤ 2147483647 := by rw [← e121]; exact hI41.1 75 _
        have k123 : v120 = h 64 d.toNat := e121.symm.trans k47.1
        have k124 : 0 ≤ h 64 d.toNat ∧ h 64 d.toNat ≤ 9 := hI.1 64 _
        have k126 : 0 ≤ v120 ∧ v120 ≤ 9 := by omega
        refine fz_imulN kX11_loudness rfl (by omega) ?_
        refine fz_aload_n kX11_loudness rfl rfl ?_
        refine fz_getR (t := 75) kX11_loudness rfl rfl ?_
        refine fz_iconst ⟨by decide, by decide⟩ kX11_loudness rfl ?_
        obtain ⟨v127, e128⟩ : ∃ z, H40 75 (1) = z := ⟨_, rfl⟩
        refine fz_ialdV (n := 6) (v := v127) kX11_loudness rfl rfl (by omega) (by omega) e128 ?_
        have b129 : (-2147483648) ≤ v127 ∧ v127 ≤ 2147483647 := by rw [← e128]; exact hI41.1 75 _
        have k130 : v127 = hr - (h 88 (((8 * d) + t).toNat)) := e128.symm.trans k47.2.1
        have k132 : 0 ≤ v127 ∧ v127 ≤ 2147483647 := by omega
        refine fz_bipush ⟨by decide, by decide⟩ kX11_loudness rfl ?_
        refine fz_idivN kX11_loudness rfl (by omega) (by omega) (by omega) ?_
        refine fz_isubN kX11_loudness rfl (by omega) ?_
        refine fz_aload_n kX11_loudness rfl rfl ?_
        refine fz_getR (t := 75) kX11_loudness rfl rfl ?_
        refine fz_iconst ⟨by decide, by decide⟩ kX11_loudness rfl ?_
        obtain ⟨v133, e134⟩ : ∃ z, H40 75 (2) = z := ⟨_, rfl⟩
        refine fz_ialdV (n := 6) (v := v133) kX11_loudness rfl rfl (by omega) (by omega) e134 ?_
        have b135 : (-2147483648) ≤ v133 ∧ v133 ≤ 2147483647 := by rw [← e134]; exact hI41.1 75 _
        have k136 : v133 = (h 88 (((8 * d) + t).toNat)) - h 62 d.toNat := e134.symm.trans k47.2.2
        have k138 : 0 ≤ v133 ∧ v133 ≤ 2147483647 := by omega
        refine fz_iconst ⟨by decide, by decide⟩ kX11_loudness rfl ?_
        refine fz_idivN kX11_loudness rfl (by omega) (by omega) (by omega) ?_
        refine fz_isubN kX11_loudness rfl (by omega) ?_
        refine fz_max kX11_loudness rfl rfl fz_sMx fz_iMm fz_cMx (by decide) (Nat.le_of_ble_eq_true rfl) ?_
        exact fz_iret kX11_loudness rfl rfl (fun _ => ⟨hI41, hf42, hXw44, _, rfl, (by omega), (by first | exact fl_lv_v k47 e121 e128 e134 rfl rfl rfl (by omega) (by omega) rfl | exact fl_lv_1 (by omega) (by omega) (fl_li_say lost (by omega) (Or.inr ⟨_, (fl_wk_use lost (funext fun s => lost 69 s rfl) k45 lost.2.1 (by omega)), by omega⟩) (fl_wk_use lost (funext fun s => lost 69 s rfl) ((congrArg fl_n6 (funext fun s => lost 75 s rfl)).trans k45) lost.2.2 (by omega)) rfl) | exact fl_lv_1 (by omega) (by omega) (fl_li_say lost (by omega) (Or.inl (by omega)) (fl_wk_use lost (funext fun s => lost 69 s rfl) k45 lost.2.2 (by omega)) rfl) | exact fl_lv_1 (by omega) (by omega) (fl_li_end lost (by omega)) | exact fl_lv_n (by omega))⟩)
    · refine fz_iconst ⟨by decide, by decide⟩ kX11_loudness rfl ?_
      exact fz_iret kX11_loudness rfl rfl (fun _ => ⟨hI, hf, hXw, _, rfl, (by omega), (by first | exact fl_lv_v lost lost lost lost rfl rfl rfl (by omega) (by omega) rfl | exact fl_lv_1 (by omega) (by omega) (fl_li_say lost (by omega) (Or.inr ⟨_, (fl_wk_use lost (funext fun s => lost 69 s rfl) lost lost.2.1 (by omega)), by omega⟩) (fl_wk_use lost (funext fun s => lost 69 s rfl) ((congrArg fl_n6 (funext fun s => lost 75 s rfl)).trans lost) lost.2.2 (by omega)) rfl) | exact fl_lv_1 (by omega) (by omega) (fl_li_say lost (by omega) (Or.inl (by omega)) (fl_wk_use lost (funext fun s => lost 69 s rfl) lost lost.2.2 (by omega)) rfl) | exact fl_lv_1 (by omega) (by omega) (fl_li_end lost (by omega)) | exact fl_lv_n (by omega))⟩)

abbrev qX11_loud (h : fz_H) (d th : Int) : fz_H → Option fz_V → Prop := fun h' r0 => fz_Iv h' ∧ fz_fr [(74, 99999), (75, 99999), (86, 99999), (87, 99999), (88, 99999)] h h' ∧ fz_Xw h' ∧ fz_RM h' ∧ fl_RPm h' ∧ ∃ r : Int, r0 = some (fz_i r) ∧ ((-1) ≤ r ∧ r ≤ 99) ∧ (fl_loM h d th r)
set_option maxHeartbeats 1000000 in
set_option maxRecDepth 100000 in
theorem sX11_loud (h : fz_H) (hI : fz_Iv h) (d th : Int) (hXw : fz_Xw h) (hRM : fz_RM h) (hRPm : fl_RPm h) : fz_R 3 mX11_loud 0 [(0, fz_r 53), (1, fz_i d), (2, fz_i th)] [] h (qX11_loud h d th) := by
  refine fz_knowl (fun hk => ?_)
  have hr_d : -2147483648 ≤ d ∧ d < 2147483648 := hk _ (List.Mem.tail _ (List.Mem.head _))
  have hr_th : -2147483648 ≤ th ∧ th < 2147483648 := hk _ (List.Mem.tail _ (List.Mem.tail _ (List.Mem.head _)))
  clear hk
  have hf : fz_fr [(74, 99999), (75, 99999), (86, 99999), (87, 99999), (88, 99999)] h h := fz_fr_rf
  refine fz_aload_n kX11_loud rfl rfl ?_
  refine fz_iload_n kX11_loud rfl rfl ?_
  have b1 : 0 ≤ h 53 10 ∧ h 53 10 ≤ 11 := hI.1 53 _
  refine fz_callV (d' := 1) (M' := mX11_isDeed) (As := [fz_i d]) (st := []) kX11_loud rfl rfl vX11_isDeed rfl rfl rfl rfl (Nat.le_of_ble_eq_true rfl) (Nat.le_of_ble_eq_true rfl) (by decide) (sX11_isDeed h hI d ) (fun H2 r3 q4 o5 => ?_)
  obtain ⟨e6, y7, rfl, p8⟩ := q4
  subst H2
  clear o5
  rcases p8 with ⟨rfl, c9⟩ | ⟨rfl, c9⟩
  · refine fz_if_eq (tgt := 16) kX11_loud rfl (by decide) (fun c10 => ?_) (fun c10 => ?_)
    · exfalso; omega
    · refine fz_aload_n kX11_loud rfl rfl ?_
      refine fz_iload_n kX11_loud rfl rfl ?_
      have b11 : 0 ≤ h 53 0 ∧ h 53 0 ≤ 8 := hI.1 53 _
      refine fz_callV (d' := 2) (M' := mX11_isWhen) (As := [fz_i th]) (st := []) kX11_loud rfl rfl vX11_isWhen rfl rfl rfl rfl (Nat.le_of_ble_eq_true rfl) (Nat.le_of_ble_eq_true rfl) (by decide) (sX11_isWhen h hI th ) (fun H12 r13 q14 o15 => ?_)
      obtain ⟨e16, y17, rfl, p18⟩ := q14
      subst H12
      clear o15
      rcases p18 with ⟨rfl, c19⟩ | ⟨rfl, c19⟩
      · refine fz_if_ne (tgt := 18) kX11_loud rfl (by decide) (fun c20 => ?_) (fun c20 => ?_)
        · have k21 := fl_RPm_i (d := d) hRPm (by omega)
          refine fz_aload_n kX11_loud rfl rfl ?_
          refine fz_iload_n kX11_loud rfl rfl ?_
          refine fz_callV (d' := 2) (M' := mX11_hears) (As := [fz_i d]) (st := []) kX11_loud rfl rfl vX11_hears rfl rfl rfl rfl (Nat.le_of_ble_eq_true rfl) (Nat.le_of_ble_eq_true rfl) (by decide) (sX11_hears h hI d hRM (by omega) (by omega)) (fun H22 r23 q24 o25 => ?_)
          obtain ⟨hI26, hf27, hRM28, rfl, f29⟩ := q24
          clear o25
          have hf30 := fz_fr_tr hf hf27 (show fz_su [(86, 99999), (87, 99999), (88, 99999)] [(74, 99999), (75, 99999), (86, 99999), (87, 99999), (88, 99999)] = true from rfl)
          have hXw31 : fz_Xw H22 := fz_Xw_eq (hf27 53 19 rfl) (funext fun s => hf27 66 s rfl) (funext fun s => hf27 67 s rfl) (funext fun s => hf27 68 s rfl) (funext fun s => hf27 69 s rfl) hXw
          have hRPm32 : fl_RPm H22 := fl_RPm_eq (funext fun s => hf27 61 s rfl) (hf27 53 10 rfl) (hf27 53 0 rfl) hRPm
          refine fz_aload_n kX11_loud rfl rfl ?_
          refine fz_iload_n kX11_loud rfl rfl ?_
          refine fz_iload_n kX11_loud rfl rfl ?_
          refine fz_sipush ⟨by decide, by decide⟩ kX11_loud rfl ?_
          refine fz_idivN kX11_loud rfl (by omega) (by omega) (by omega) ?_
          refine fz_iload_n kX11_loud rfl rfl ?_
          refine fz_sipush ⟨by decide, by decide⟩ kX11_loud rfl ?_
          refine fz_iremN kX11_loud rfl (by omega) (by omega) (by omega) ?_
          have k33 := fl_he_b (t := th / 1000) f29 (funext fun s => hf27 62 s rfl) (fun q => (hI.1 54 q).1) (by omega) ⟨by omega, by omega⟩
          refine fz_aload_n kX11_loud rfl rfl ?_
          refine fz_getR (t := 60) kX11_loud rfl rfl ?_
          refine fz_iload_n kX11_loud rfl rfl ?_
          refine fz_ialdV (n := 11) (v := h 60 (d.toNat)) kX11_loud rfl rfl (by omega) (by omega) (hf30 60 _ rfl) ?_
          have b35 : (-2147483648) ≤ h 60 (d.toNat) ∧ h 60 (d.toNat) ≤ 2147483647 := hI.1 60 _
          have e36 : H22 53 10 = h 53 10 := hf30 53 10 rfl
          have e37 : H22 53 0 = h 53 0 := hf30 53 0 rfl
          have e38 : H22 62 d.toNat = h 62 d.toNat := hf30 62 _ rfl
          refine fz_callV (d' := 2) (M' := mX11_loudness) (As := [fz_i d, fz_i (th / 1000), fz_i (th % 1000), fz_i (h 60 (d.toNat))]) (st := []) kX11_loud rfl rfl vX11_loudness rfl rfl rfl rfl (Nat.le_of_ble_eq_true rfl) (Nat.le_of_ble_eq_true rfl) (by decide) (sX11_loudness H22 hI26 d (th / 1000) (th % 1000) (h 60 (d.toNat)) hXw31 (by omega) (by omega) (by omega) k33) (fun H39 r40 q41 o42 => ?_)
          obtain ⟨hI43, hf44, hXw45, y48, rfl, f46, f47⟩ := q41
          clear o42
          have hf49 := fz_fr_tr hf30 hf44 (show fz_su [(74, 99999), (75, 99999)] [(74, 99999), (75, 99999), (86, 99999), (87, 99999), (88, 99999)] = true from rfl)
          have hRM50 : fz_RM H39 := fz_RM_eq (funext fun s => hf44 55 s rfl) (funext fun s => hf44 56 s rfl) (hf44 53 0 rfl) (hf44 53 2 rfl) hRM28
          have hRPm51 : fl_RPm H39 := fl_RPm_eq (funext fun s => hf44 61 s rfl) (hf44 53 10 rfl) (hf44 53 0 rfl) hRPm32
          exact fz_iret kX11_loud rfl rfl (fun _ => ⟨hI43, hf49, hXw45, hRM50, hRPm51, _, rfl, (by omega), (by first | exact Or.inl ⟨(by unfold fl_oL; omega), f47.trans (fl_lt_he f29 (funext fun s => hf27 62 s rfl) (funext fun s => hf27 63 s rfl) (funext fun s => hf27 64 s rfl) (funext fun s => hf27 66 s rfl) (funext fun s => hf27 67 s rfl) (funext fun s => hf27 68 s rfl) (funext fun s => hf27 69 s rfl) (hf27 53 18 rfl) (hf27 53 19 rfl) (by omega) ⟨by omega, by omega⟩)⟩ | exact Or.inr ⟨(by unfold fl_oL; omega), rfl⟩)⟩)
        · exfalso; omega
      · refine fz_if_ne (tgt := 18) kX11_loud rfl (by decide) (fun c53 => ?_) (fun c53 => ?_)
        · exfalso; omega
        · refine fz_iconst ⟨by decide, by decide⟩ kX11_loud rfl ?_
          exact fz_iret kX11_loud rfl rfl (fun _ => ⟨hI, hf, hXw, hRM, hRPm, _, rfl, (by omega), (by first | exact Or.inl ⟨(by unfold fl_oL; omega), lost.trans (fl_lt_he lost (funext fun s => lost 62 s rfl) (funext fun s => lost 63 s rfl) (funext fun s => lost 64 s rfl) (funext fun s => lost 66 s rfl) (funext fun s => lost 67 s rfl) (funext fun s => lost 68 s rfl) (funext fun s => lost 69 s rfl) (lost 53 18 rfl) (lost 53 19 rfl) (by omega) ⟨by omega, by omega⟩)⟩ | exact Or.inr ⟨(by unfold fl_oL; omega), rfl⟩)⟩)
  · refine fz_if_eq (tgt := 16) kX11_loud rfl (by decide) (fun c55 => ?_) (fun c55 => ?_)
    · refine fz_iconst ⟨by decide, by decide⟩ kX11_loud rfl ?_
      exact fz_iret kX11_loud rfl rfl (fun _ => ⟨hI, hf, hXw, hRM, hRPm, _, rfl, (by omega), (by first | exact Or.inl ⟨(by unfold fl_oL; omega), lost.trans (fl_lt_he lost (funext fun s => lost 62 s rfl) (funext fun s => lost 63 s rfl) (funext fun s => lost 64 s rfl) (funext fun s => lost 66 s rfl) (funext fun s => lost 67 s rfl) (funext fun s => lost 68 s rfl) (funext fun s => lost 69 s rfl) (lost 53 18 rfl) (lost 53 19 rfl) (by omega) ⟨by omega, by omega⟩)⟩ | exact Or.inr ⟨(by unfold fl_oL; omega), rfl⟩)⟩)
    · exfalso; omega

abbrev qX11_saidOf (h : fz_H) (pe mk t hr : Int) : fz_H → Option fz_V → Prop := fun h' r0 => fz_Iv h' ∧ fz_fr [(74, 99999), (75, 99999)] h h' ∧ fz_Xw h' ∧ fl_HB h' ∧ ∃ r : Int, r0 = some (fz_i r) ∧ ((-2147483648) ≤ r ∧ r ≤ 2147483647) ∧ (r = fl_ST h pe mk t hr)
set_option maxHeartbeats 1000000 in
set_option maxRecDepth 100000 in
theorem sX11_saidOf (h : fz_H) (hI : fz_Iv h) (pe mk t hr : Int) (hXw : fz_Xw h) (hHB : fl_HB h) (hp0 : 0 ≤ t ∧ t ≤ 7) (hp1 : t < h 53 0) : fz_R 3 mX11_saidOf 0 [(0, fz_r 53), (1, fz_i pe), (2, fz_i mk), (3, fz_i t), (4, fz_i hr)] [] h (qX11_saidOf h pe mk t hr) := by
  refine fz_knowl (fun hk => ?_)
  have hr_pe : -2147483648 ≤ pe ∧ pe < 2147483648 := hk _ (List.Mem.tail _ (List.Mem.head _))
  have hr_mk : -2147483648 ≤ mk ∧ mk < 2147483648 := hk _ (List.Mem.tail _ (List.Mem.tail _ (List.Mem.head _)))
  have hr_t : -2147483648 ≤ t ∧ t < 2147483648 := hk _ (List.Mem.tail _ (List.Mem.tail _ (List.Mem.tail _ (List.Mem.head _))))
  have hr_hr : -2147483648 ≤ hr ∧ hr < 2147483648 := hk _ (List.Mem.tail _ (List.Mem.tail _ (List.Mem.tail _ (List.Mem.tail _ (List.Mem.head _)))))
  clear hk
  have hf : fz_fr [(74, 99999), (75, 99999)] h h := fz_fr_rf
  have b1 : 0 ≤ h 53 0 ∧ h 53 0 ≤ 8 := hI.1 53 _
  have k2 : 0 ≤ h 53 10 ∧ h 53 10 ≤ 11 := hI.1 53 _
  refine fz_iconst ⟨by decide, by decide⟩ kX11_saidOf rfl ?_
  refine fz_istore (ls' := [(5, fz_i 0), (0, fz_r 53), (1, fz_i pe), (2, fz_i mk), (3, fz_i t), (4, fz_i hr)]) kX11_saidOf rfl (by decide) rfl ?_
  refine fz_iconst ⟨by decide, by decide⟩ kX11_saidOf rfl ?_
  refine fz_istore (ls' := [(6, fz_i 0), (5, fz_i 0), (0, fz_r 53), (1, fz_i pe), (2, fz_i mk), (3, fz_i t), (4, fz_i hr)]) kX11_saidOf rfl (by decide) rfl ?_
  have lp11 : ∀ (n10 : Nat) (x3 : Int) (x4 : Int) (H7 : fz_H), fz_Iv H7 → fz_fr [(74, 99999), (75, 99999)] h H7 → fz_Xw H7 → fl_HB H7 → (0 ≤ x3 ∧ x3 ≤ 2147483647) → ((-2147483648) ≤ x4 ∧ x4 ≤ 2147483647) → (x3 ≤ h 53 10) → (x4 = fl_sl (h 60) (h 63) (fl_ltM h pe t hr) pe pe mk (x3).toNat) → ((h 53 10) - x3).toNat < n10 → fz_R 3 mX11_saidOf 6 [(6, fz_i x3), (5, fz_i x4), (0, fz_r 53), (1, fz_i pe), (2, fz_i mk), (3, fz_i t), (4, fz_i hr)] [] H7 (qX11_saidOf h pe mk t hr) := by
    intro n10
    induction n10 with
    | zero => intro x3 x4 H7 hI8 hf9 hXw5 hHB6 hv14 hv15 hv16 hv17 hm13; exact absurd hm13 (by omega)
    | succ n10 ih12 =>
      intro x3 x4 H7 hI8 hf9 hXw5 hHB6 hv14 hv15 hv16 hv17 hm13
      refine fz_iload kX11_saidOf rfl rfl ?_
      refine fz_aload_n kX11_saidOf rfl rfl ?_
      refine fz_getV (v := h 53 10) kX11_saidOf rfl rfl (hf9 53 10 rfl) ?_
      have b18 : 0 ≤ h 53 10 ∧ h 53 10 ≤ 11 := hI.1 53 _
      refine fz_icmp_ge (tgt := 60) kX11_saidOf rfl (by decide) (fun c19 => ?_) (fun c19 => ?_)
      · refine fz_iload kX11_saidOf rfl rfl ?_
        exact fz_iret kX11_saidOf rfl rfl (fun _ => ⟨hI8, hf9, hXw5, hHB6, _, rfl, (by omega), (by exact fl_sl_e hv17 (by omega))⟩)
      · refine fz_aload_n kX11_saidOf rfl rfl ?_
        refine fz_getR (t := 60) kX11_saidOf rfl rfl ?_
        refine fz_iload kX11_saidOf rfl rfl ?_
        refine fz_ialdV (n := 11) (v := h 60 (x3.toNat)) kX11_saidOf rfl rfl (by omega) (by omega) (hf9 60 _ rfl) ?_
        have b21 : (-2147483648) ≤ h 60 (x3.toNat) ∧ h 60 (x3.toNat) ≤ 2147483647 := hI.1 60 _
        refine fz_iload_n kX11_saidOf rfl rfl ?_
        refine fz_icmp_ne (tgt := 54) kX11_saidOf rfl (by decide) (fun c22 => ?_) (fun c22 => ?_)
        · refine fz_iincN (ls' := [(6, fz_i (x3 + 1)), (5, fz_i x4), (0, fz_r 53), (1, fz_i pe), (2, fz_i mk), (3, fz_i t), (4, fz_i hr)]) kX11_saidOf rfl (by decide) rfl (by omega) rfl ?_
          refine fz_goto (tgt := 6) kX11_saidOf rfl (by decide) ?_
          exact ih12 (x3 + 1) x4 H7 hI8 hf9 hXw5 hHB6 (by omega) (by omega) (by omega) (by first | exact fl_sl_y hv17 (by omega) ⟨Or.inl (by omega), by omega⟩ lost | exact fl_sl_n hv17 (by omega) (by omega)) (by omega)
        · refine fz_aload_n kX11_saidOf rfl rfl ?_
          refine fz_getR (t := 63) kX11_saidOf rfl rfl ?_
          refine fz_iload kX11_saidOf rfl rfl ?_
          refine fz_ialdV (n := 11) (v := h 63 (x3.toNat)) kX11_saidOf rfl rfl (by omega) (by omega) (hf9 63 _ rfl) ?_
          have b24 : 0 ≤ h 63 (x3.toNat) ∧ h 63 (x3.toNat) ≤ 4 := hI.1 63 _
          refine fz_iload_n kX11_saidOf rfl rfl ?_
          refine fz_icmp_ne (tgt := 54) kX11_saidOf rfl (by decide) (fun c25 => ?_) (fun c25 => ?_)
          · refine fz_iincN (ls' := [(6, fz_i (x3 + 1)), (5, fz_i x4), (0, fz_r 53), (1, fz_i pe), (2, fz_i mk), (3, fz_i t), (4, fz_i hr)]) kX11_saidOf rfl (by decide) rfl (by omega) rfl ?_
            refine fz_goto (tgt := 6) kX11_saidOf rfl (by decide) ?_
            exact ih12 (x3 + 1) x4 H7 hI8 hf9 hXw5 hHB6 (by omega) (by omega) (by omega) (by first | exact fl_sl_y hv17 (by omega) ⟨Or.inl (by omega), by omega⟩ lost | exact fl_sl_n hv17 (by omega) (by omega)) (by omega)
          · have k27 : H7 53 10 = h 53 10 := hf9 53 10 rfl
            have k28 : H7 53 0 = h 53 0 := hf9 53 0 rfl
            have k29 := fl_HB_i hHB6 (d := x3) (t := t) ⟨by omega, by omega⟩ ⟨by omega, by omega⟩
            refine fz_iload kX11_saidOf rfl rfl ?_
            refine fz_aload_n kX11_saidOf rfl rfl ?_
            refine fz_iload kX11_saidOf rfl rfl ?_
            refine fz_iload_n kX11_saidOf rfl rfl ?_
            refine fz_iload kX11_saidOf rfl rfl ?_
            refine fz_iload_n kX11_saidOf rfl rfl ?_
            have b31 : 0 ≤ h 53 0 ∧ h 53 0 ≤ 8 := hI.1 53 _
            have e32 : H7 53 10 = h 53 10 := hf9 53 10 rfl
            have e33 : H7 53 0 = h 53 0 := hf9 53 0 rfl
            have e34 : H7 62 x3.toNat = h 62 x3.toNat := hf9 62 _ rfl
            refine fz_callV (d' := 2) (M' := mX11_loudness) (As := [fz_i x3, fz_i t, fz_i hr, fz_i pe]) (st := [fz_i x4]) kX11_saidOf rfl rfl vX11_loudness rfl rfl rfl rfl (Nat.le_of_ble_eq_true rfl) (Nat.le_of_ble_eq_true rfl) (by decide) (sX11_loudness H7 hI8 x3 t hr pe hXw5 (by omega) (by omega) (by omega) k29) (fun H35 r36 q37 o38 => ?_)
            obtain ⟨hI39, hf40, hXw41, y44, rfl, f42, f43⟩ := q37
            clear o38
            have hf45 := fz_fr_tr hf9 hf40 (show fz_su [(74, 99999), (75, 99999)] [(74, 99999), (75, 99999)] = true from rfl)
            have hHB46 : fl_HB H35 := fl_HB_eq (funext fun s => hf40 88 s rfl) (funext fun s => hf40 62 s rfl) (hf40 53 10 rfl) (hf40 53 0 rfl) hHB6
            have k47 : y44 = fl_ltM h pe t hr x3 := by rw [← fl_ltM_fr hf9 rfl]; exact f43
            refine fz_max kX11_saidOf rfl rfl fz_sMx fz_iMm fz_cMx (by decide) (Nat.le_of_ble_eq_true rfl) ?_
            refine fz_istore (ls' := [(5, fz_i (max x4 y44)), (6, fz_i x3), (0, fz_r 53), (1, fz_i pe), (2, fz_i mk), (3, fz_i t), (4, fz_i hr)]) kX11_saidOf rfl (by decide) rfl ?_
            refine fz_iincN (ls' := [(6, fz_i (x3 + 1)), (5, fz_i (max x4 y44)), (0, fz_r 53), (1, fz_i pe), (2, fz_i mk), (3, fz_i t), (4, fz_i hr)]) kX11_saidOf rfl (by decide) rfl (by omega) rfl ?_
            refine fz_goto (tgt := 6) kX11_saidOf rfl (by decide) ?_
            exact ih12 (x3 + 1) (max x4 y44) H35 hI39 hf45 hXw41 hHB46 (by omega) (by omega) (by omega) (by first | exact fl_sl_y hv17 (by omega) ⟨Or.inl (by omega), by omega⟩ k47 | exact fl_sl_n hv17 (by omega) (by omega)) (by omega)
  exact lp11 _ 0 0 h hI hf hXw hHB (by omega) (by omega) (by omega) (rfl) (Nat.lt_succ_self _)

abbrev qX11_said (h : fz_H) (pm th : Int) : fz_H → Option fz_V → Prop := fun h' r0 => fz_Iv h' ∧ fz_fr [(74, 99999), (75, 99999), (86, 99999), (87, 99999), (88, 99999)] h h' ∧ fz_Xw h' ∧ fz_RM h' ∧ fl_RPm h' ∧ ∃ r : Int, r0 = some (fz_i r) ∧ ((-2147483648) ≤ r ∧ r ≤ 2147483647) ∧ (fl_saM h pm th r)
set_option maxHeartbeats 1000000 in
set_option maxRecDepth 100000 in
theorem sX11_said (h : fz_H) (hI : fz_Iv h) (pm th : Int) (hXw : fz_Xw h) (hRM : fz_RM h) (hRPm : fl_RPm h) : fz_R 4 mX11_said 0 [(0, fz_r 53), (1, fz_i pm), (2, fz_i th)] [] h (qX11_said h pm th) := by
  refine fz_knowl (fun hk => ?_)
  have hr_pm : -2147483648 ≤ pm ∧ pm < 2147483648 := hk _ (List.Mem.tail _ (List.Mem.head _))
  have hr_th : -2147483648 ≤ th ∧ th < 2147483648 := hk _ (List.Mem.tail _ (List.Mem.tail _ (List.Mem.head _)))
  clear hk
  have hf : fz_fr [(74, 99999), (75, 99999), (86, 99999), (87, 99999), (88, 99999)] h h := fz_fr_rf
  refine fz_iload_n kX11_said rfl rfl ?_
  refine fz_callS (d' := 2) (M' := mX11_isMarked) (As := [fz_i pm]) (st := []) kX11_said rfl rfl vX11_isMarked rfl rfl (Nat.le_of_ble_eq_true rfl) (Nat.le_of_ble_eq_true rfl) (by decide) (sX11_isMarked h hI pm ) (fun H1 r2 q3 o4 => ?_)
  obtain ⟨e5, y6, rfl, p7⟩ := q3
  subst H1
  clear o4
  rcases p7 with ⟨rfl, c8⟩ | ⟨rfl, c8⟩
  · refine fz_if_eq (tgt := 15) kX11_said rfl (by decide) (fun c9 => ?_) (fun c9 => ?_)
    · exfalso; omega
    · refine fz_aload_n kX11_said rfl rfl ?_
      refine fz_iload_n kX11_said rfl rfl ?_
      have b10 : 0 ≤ h 53 0 ∧ h 53 0 ≤ 8 := hI.1 53 _
      refine fz_callV (d' := 2) (M' := mX11_isWhen) (As := [fz_i th]) (st := []) kX11_said rfl rfl vX11_isWhen rfl rfl rfl rfl (Nat.le_of_ble_eq_true rfl) (Nat.le_of_ble_eq_true rfl) (by decide) (sX11_isWhen h hI th ) (fun H11 r12 q13 o14 => ?_)
      obtain ⟨e15, y16, rfl, p17⟩ := q13
      subst H11
      clear o14
      rcases p17 with ⟨rfl, c18⟩ | ⟨rfl, c18⟩
      · refine fz_if_ne (tgt := 17) kX11_said rfl (by decide) (fun c19 => ?_) (fun c19 => ?_)
        · refine fz_aload_n kX11_said rfl rfl ?_
          have b20 : 0 ≤ h 53 10 ∧ h 53 10 ≤ 11 := hI.1 53 _
          refine fz_callV (d' := 3) (M' := mX11_allHear) (As := []) (st := []) kX11_said rfl rfl vX11_allHear rfl rfl rfl rfl (Nat.le_of_ble_eq_true rfl) (Nat.le_of_ble_eq_true rfl) (by decide) (sX11_allHear h hI  hRM hRPm) (fun H21 r22 q23 o24 => ?_)
          obtain ⟨hI25, hf26, hRM27, hRPm28, rfl, f29⟩ := q23
          clear o24
          have hf30 := fz_fr_tr hf hf26 (show fz_su [(86, 99999), (87, 99999), (88, 99999)] [(74, 99999), (75, 99999), (86, 99999), (87, 99999), (88, 99999)] = true from rfl)
          have hXw31 : fz_Xw H21 := fz_Xw_eq (hf26 53 19 rfl) (funext fun s => hf26 66 s rfl) (funext fun s => hf26 67 s rfl) (funext fun s => hf26 68 s rfl) (funext fun s => hf26 69 s rfl) hXw
          have hHB32 : fl_HB H21 := fl_HB_of2 f29 (funext fun s => hf26 62 s rfl) (hf26 53 10 rfl) (hf26 53 0 rfl) (funext fun s => hf26 54 s rfl) (fun q => (hI25.1 54 q).1)
          refine fz_aload_n kX11_said rfl rfl ?_
          refine fz_iload_n kX11_said rfl rfl ?_
          refine fz_bipush ⟨by decide, by decide⟩ kX11_said rfl ?_
          refine fz_idivN kX11_said rfl (by omega) (by omega) (by omega) ?_
          refine fz_iload_n kX11_said rfl rfl ?_
          refine fz_bipush ⟨by decide, by decide⟩ kX11_said rfl ?_
          refine fz_iremN kX11_said rfl (by omega) (by omega) (by omega) ?_
          refine fz_iload_n kX11_said rfl rfl ?_
          refine fz_sipush ⟨by decide, by decide⟩ kX11_said rfl ?_
          refine fz_idivN kX11_said rfl (by omega) (by omega) (by omega) ?_
          refine fz_iload_n kX11_said rfl rfl ?_
          refine fz_sipush ⟨by decide, by decide⟩ kX11_said rfl ?_
          refine fz_iremN kX11_said rfl (by omega) (by omega) (by omega) ?_
          have e34 : H21 53 0 = h 53 0 := hf30 53 0 rfl
          refine fz_callV (d' := 3) (M' := mX11_saidOf) (As := [fz_i (pm / 10), fz_i (pm % 10), fz_i (th / 1000), fz_i (th % 1000)]) (st := []) kX11_said rfl rfl vX11_saidOf rfl rfl rfl rfl (Nat.le_of_ble_eq_true rfl) (Nat.le_of_ble_eq_true rfl) (by decide) (sX11_saidOf H21 hI25 (pm / 10) (pm % 10) (th / 1000) (th % 1000) hXw31 hHB32 (by omega) (by omega)) (fun H35 r36 q37 o38 => ?_)
          obtain ⟨hI39, hf40, hXw41, hHB42, y45, rfl, f43, f44⟩ := q37
          clear o38
          have hf46 := fz_fr_tr hf30 hf40 (show fz_su [(74, 99999), (75, 99999)] [(74, 99999), (75, 99999), (86, 99999), (87, 99999), (88, 99999)] = true from rfl)
          have hRM47 : fz_RM H35 := fz_RM_eq (funext fun s => hf40 55 s rfl) (funext fun s => hf40 56 s rfl) (hf40 53 0 rfl) (hf40 53 2 rfl) hRM27
          have hRPm48 : fl_RPm H35 := fl_RPm_eq (funext fun s => hf40 61 s rfl) (hf40 53 10 rfl) (hf40 53 0 rfl) hRPm28
          exact fz_iret kX11_said rfl rfl (fun _ => ⟨hI39, hf46, hXw41, hRM47, hRPm48, _, rfl, (by omega), (by first | exact Or.inl ⟨(by unfold fl_oS_; omega), f44.trans (fl_ST_HT f29 (funext fun s => hf26 60 s rfl) (funext fun s => hf26 62 s rfl) (funext fun s => hf26 63 s rfl) (funext fun s => hf26 64 s rfl) (funext fun s => hf26 66 s rfl) (funext fun s => hf26 67 s rfl) (funext fun s => hf26 68 s rfl) (funext fun s => hf26 69 s rfl) (hf26 53 10 rfl) (hf26 53 18 rfl) (hf26 53 19 rfl) ⟨by omega, by omega⟩)⟩ | exact Or.inr ⟨(by unfold fl_oS_; omega), rfl⟩)⟩)
        · exfalso; omega
      · refine fz_if_ne (tgt := 17) kX11_said rfl (by decide) (fun c50 => ?_) (fun c50 => ?_)
        · exfalso; omega
        · refine fz_iconst ⟨by decide, by decide⟩ kX11_said rfl ?_
          exact fz_iret kX11_said rfl rfl (fun _ => ⟨hI, hf, hXw, hRM, hRPm, _, rfl, (by omega), (by first | exact Or.inl ⟨(by unfold fl_oS_; omega), lost.trans (fl_ST_HT lost (funext fun s => lost 60 s rfl) (funext fun s => lost 62 s rfl) (funext fun s => lost 63 s rfl) (funext fun s => lost 64 s rfl) (funext fun s => lost 66 s rfl) (funext fun s => lost 67 s rfl) (funext fun s => lost 68 s rfl) (funext fun s => lost 69 s rfl) (lost 53 10 rfl) (lost 53 18 rfl) (lost 53 19 rfl) ⟨by omega, by omega⟩)⟩ | exact Or.inr ⟨(by unfold fl_oS_; omega), rfl⟩)⟩)
  · refine fz_if_eq (tgt := 15) kX11_said rfl (by decide) (fun c52 => ?_) (fun c52 => ?_)
    · refine fz_iconst ⟨by decide, by decide⟩ kX11_said rfl ?_
      exact fz_iret kX11_said rfl rfl (fun _ => ⟨hI, hf, hXw, hRM, hRPm, _, rfl, (by omega), (by first | exact Or.inl ⟨(by unfold fl_oS_; omega), lost.trans (fl_ST_HT lost (funext fun s => lost 60 s rfl) (funext fun s => lost 62 s rfl) (funext fun s => lost 63 s rfl) (funext fun s => lost 64 s rfl) (funext fun s => lost 66 s rfl) (funext fun s => lost 67 s rfl) (funext fun s => lost 68 s rfl) (funext fun s => lost 69 s rfl) (lost 53 10 rfl) (lost 53 18 rfl) (lost 53 19 rfl) ⟨by omega, by omega⟩)⟩ | exact Or.inr ⟨(by unfold fl_oS_; omega), rfl⟩)⟩)
    · exfalso; omega

abbrev qX11_receivedIn (h : fz_H) (pe t hr : Int) : fz_H → Option fz_V → Prop := fun h' r0 => fz_Iv h' ∧ fz_fr [(74, 99999), (75, 99999)] h h' ∧ fz_Xw h' ∧ fl_HB h' ∧ ∃ r : Int, r0 = some (fz_i r) ∧ ((-2147483648) ≤ r ∧ r ≤ 2147483647) ∧ (r = fl_rp (fun k => fl_ST h pe (k : Int) t hr) (h 59) 5)
set_option maxHeartbeats 1000000 in
set_option maxRecDepth 100000 in
theorem sX11_receivedIn (h : fz_H) (hI : fz_Iv h) (pe t hr : Int) (hXw : fz_Xw h) (hHB : fl_HB h) (hp0 : 0 ≤ t ∧ t ≤ 7) (hp1 : t < h 53 0) : fz_R 4 mX11_receivedIn 0 [(0, fz_r 53), (1, fz_i pe), (2, fz_i t), (3, fz_i hr)] [] h (qX11_receivedIn h pe t hr) := by
  refine fz_knowl (fun hk => ?_)
  have hr_pe : -2147483648 ≤ pe ∧ pe < 2147483648 := hk _ (List.Mem.tail _ (List.Mem.head _))
  have hr_t : -2147483648 ≤ t ∧ t < 2147483648 := hk _ (List.Mem.tail _ (List.Mem.tail _ (List.Mem.head _)))
  have hr_hr : -2147483648 ≤ hr ∧ hr < 2147483648 := hk _ (List.Mem.tail _ (List.Mem.tail _ (List.Mem.tail _ (List.Mem.head _))))
  clear hk
  have hf : fz_fr [(74, 99999), (75, 99999)] h h := fz_fr_rf
  have b1 : 0 ≤ h 53 0 ∧ h 53 0 ≤ 8 := hI.1 53 _
  refine fz_iconst ⟨by decide, by decide⟩ kX11_receivedIn rfl ?_
  refine fz_istore (ls' := [(4, fz_i 0), (0, fz_r 53), (1, fz_i pe), (2, fz_i t), (3, fz_i hr)]) kX11_receivedIn rfl (by decide) rfl ?_
  refine fz_iconst ⟨by decide, by decide⟩ kX11_receivedIn rfl ?_
  refine fz_istore (ls' := [(5, fz_i 0), (4, fz_i 0), (0, fz_r 53), (1, fz_i pe), (2, fz_i t), (3, fz_i hr)]) kX11_receivedIn rfl (by decide) rfl ?_
  have lp10 : ∀ (n9 : Nat) (x2 : Int) (x3 : Int) (H6 : fz_H), fz_Iv H6 → fz_fr [(74, 99999), (75, 99999)] h H6 → fz_Xw H6 → fl_HB H6 → (0 ≤ x2 ∧ x2 ≤ 5) → ((-2147483648) ≤ x3 ∧ x3 ≤ 2147483647) → (x3 = fl_rp (fun k => fl_ST h pe (k : Int) t hr) (h 59) (x2).toNat) → (5 - x2).toNat < n9 → fz_R 4 mX11_receivedIn 6 [(5, fz_i x2), (4, fz_i x3), (0, fz_r 53), (1, fz_i pe), (2, fz_i t), (3, fz_i hr)] [] H6 (qX11_receivedIn h pe t hr) := by
    intro n9
    induction n9 with
    | zero => intro x2 x3 H6 hI7 hf8 hXw4 hHB5 hv13 hv14 hv15 hm12; exact absurd hm12 (by omega)
    | succ n9 ih11 =>
      intro x2 x3 H6 hI7 hf8 hXw4 hHB5 hv13 hv14 hv15 hm12
      refine fz_iload kX11_receivedIn rfl rfl ?_
      refine fz_iconst ⟨by decide, by decide⟩ kX11_receivedIn rfl ?_
      refine fz_icmp_ge (tgt := 40) kX11_receivedIn rfl (by decide) (fun c16 => ?_) (fun c16 => ?_)
      · refine fz_iload kX11_receivedIn rfl rfl ?_
        exact fz_iret kX11_receivedIn rfl rfl (fun _ => ⟨hI7, hf8, hXw4, hHB5, _, rfl, (by omega), (by exact fl_at (f := fl_rp (fun k => fl_ST h pe (k : Int) t hr) (h 59)) (n := 5) hv15 (by omega))⟩)
      · refine fz_iload kX11_receivedIn rfl rfl ?_
        refine fz_aload_n kX11_receivedIn rfl rfl ?_
        refine fz_iload_n kX11_receivedIn rfl rfl ?_
        refine fz_iload kX11_receivedIn rfl rfl ?_
        refine fz_iload_n kX11_receivedIn rfl rfl ?_
        refine fz_iload_n kX11_receivedIn rfl rfl ?_
        have b18 : 0 ≤ h 53 0 ∧ h 53 0 ≤ 8 := hI.1 53 _
        have e19 : H6 53 0 = h 53 0 := hf8 53 0 rfl
        refine fz_callV (d' := 3) (M' := mX11_saidOf) (As := [fz_i pe, fz_i x2, fz_i t, fz_i hr]) (st := [fz_i x3]) kX11_receivedIn rfl rfl vX11_saidOf rfl rfl rfl rfl (Nat.le_of_ble_eq_true rfl) (Nat.le_of_ble_eq_true rfl) (by decide) (sX11_saidOf H6 hI7 pe x2 t hr hXw4 hHB5 (by omega) (by omega)) (fun H20 r21 q22 o23 => ?_)
        obtain ⟨hI24, hf25, hXw26, hHB27, y30, rfl, f28, f29⟩ := q22
        clear o23
        have hf31 := fz_fr_tr hf8 hf25 (show fz_su [(74, 99999), (75, 99999)] [(74, 99999), (75, 99999)] = true from rfl)
        have k32 : y30 = fl_ST h pe x2 t hr := by rw [← fl_ST_fr hf8 rfl]; exact f29
        refine fz_aload_n kX11_receivedIn rfl rfl ?_
        refine fz_getR (t := 59) kX11_receivedIn rfl rfl ?_
        refine fz_iload kX11_receivedIn rfl rfl ?_
        refine fz_ialdV (n := 5) (v := h 59 (x2.toNat)) kX11_receivedIn rfl rfl (by omega) (by omega) (hf31 59 _ rfl) ?_
        have b34 : (-9) ≤ h 59 (x2.toNat) ∧ h 59 (x2.toNat) ≤ 9 := hI.1 59 _
        refine fz_imul kX11_receivedIn rfl ?_
        have b35 := fz_w_b (y30 * (h 59 (x2.toNat)))
        refine fz_iadd kX11_receivedIn rfl ?_
        have b36 := fz_w_b (x3 + (fz_w (y30 * (h 59 (x2.toNat)))))
        refine fz_istore (ls' := [(4, fz_i (fz_w (x3 + (fz_w (y30 * (h 59 (x2.toNat))))))), (5, fz_i x2), (0, fz_r 53), (1, fz_i pe), (2, fz_i t), (3, fz_i hr)]) kX11_receivedIn rfl (by decide) rfl ?_
        refine fz_iincN (ls' := [(5, fz_i (x2 + 1)), (4, fz_i (fz_w (x3 + (fz_w (y30 * (h 59 (x2.toNat))))))), (0, fz_r 53), (1, fz_i pe), (2, fz_i t), (3, fz_i hr)]) kX11_receivedIn rfl (by decide) rfl (by omega) rfl ?_
        refine fz_goto (tgt := 6) kX11_receivedIn rfl (by decide) ?_
        exact ih11 (x2 + 1) (fz_w (x3 + (fz_w (y30 * (h 59 (x2.toNat)))))) H20 hI24 hf31 hXw26 hHB27 (by omega) (by omega) (fl_rp_s hv15 (by omega) (fl_stk k32 (by omega)) rfl) (by omega)
  exact lp10 _ 0 0 h hI hf hXw hHB (by omega) (by omega) (rfl) (Nat.lt_succ_self _)

abbrev qX11_isArrested (h : fz_H) (pe t hr : Int) : fz_H → Option fz_V → Prop := fun h' r0 => fz_Iv h' ∧ fz_fr [(74, 99999), (75, 99999)] h h' ∧ fz_Xw h' ∧ fl_HB h' ∧ ∃ r : Int, r0 = some (fz_i r) ∧ (r = 0 ∨ r = 1) ∧ ((r = 1 ∧ 0 < fl_ST h pe 1 t hr ∧ h 53 8 ≤ fl_ST h pe 1 t hr) ∨ (r = 0 ∧ ¬ (0 < fl_ST h pe 1 t hr ∧ h 53 8 ≤ fl_ST h pe 1 t hr)))
set_option maxHeartbeats 1000000 in
set_option maxRecDepth 100000 in
theorem sX11_isArrested (h : fz_H) (hI : fz_Iv h) (pe t hr : Int) (hXw : fz_Xw h) (hHB : fl_HB h) (hp0 : 0 ≤ t ∧ t ≤ 7) (hp1 : t < h 53 0) : fz_R 4 mX11_isArrested 0 [(0, fz_r 53), (1, fz_i pe), (2, fz_i t), (3, fz_i hr)] [] h (qX11_isArrested h pe t hr) := by
  refine fz_knowl (fun hk => ?_)
  have hr_pe : -2147483648 ≤ pe ∧ pe < 2147483648 := hk _ (List.Mem.tail _ (List.Mem.head _))
  have hr_t : -2147483648 ≤ t ∧ t < 2147483648 := hk _ (List.Mem.tail _ (List.Mem.tail _ (List.Mem.head _)))
  have hr_hr : -2147483648 ≤ hr ∧ hr < 2147483648 := hk _ (List.Mem.tail _ (List.Mem.tail _ (List.Mem.tail _ (List.Mem.head _))))
  clear hk
  have hf : fz_fr [(74, 99999), (75, 99999)] h h := fz_fr_rf
  have b1 : 0 ≤ h 53 0 ∧ h 53 0 ≤ 8 := hI.1 53 _
  have b2 : 0 ≤ h 53 8 ∧ h 53 8 ≤ 99 := hI.1 53 _
  refine fz_aload_n kX11_isArrested rfl rfl ?_
  refine fz_iload_n kX11_isArrested rfl rfl ?_
  refine fz_iconst ⟨by decide, by decide⟩ kX11_isArrested rfl ?_
  refine fz_iload_n kX11_isArrested rfl rfl ?_
  refine fz_iload_n kX11_isArrested rfl rfl ?_
  refine fz_callV (d' := 3) (M' := mX11_saidOf) (As := [fz_i pe, fz_i 1, fz_i t, fz_i hr]) (st := []) kX11_isArrested rfl rfl vX11_saidOf rfl rfl rfl rfl (Nat.le_of_ble_eq_true rfl) (Nat.le_of_ble_eq_true rfl) (by decide) (sX11_saidOf h hI pe 1 t hr hXw hHB (by omega) (by omega)) (fun H3 r4 q5 o6 => ?_)
  obtain ⟨hI7, hf8, hXw9, hHB10, y13, rfl, f11, f12⟩ := q5
  clear o6
  have hf14 := fz_fr_tr hf hf8 (show fz_su [(74, 99999), (75, 99999)] [(74, 99999), (75, 99999)] = true from rfl)
  have k15 : y13 = fl_ST h pe 1 t hr := by rw [← fl_ST_fr hf rfl]; exact f12
  refine fz_istore (ls' := [(4, fz_i y13), (0, fz_r 53), (1, fz_i pe), (2, fz_i t), (3, fz_i hr)]) kX11_isArrested rfl (by decide) rfl ?_
  refine fz_iload kX11_isArrested rfl rfl ?_
  refine fz_if_le (tgt := 28) kX11_isArrested rfl (by decide) (fun c17 => ?_) (fun c17 => ?_)
  · refine fz_iconst ⟨by decide, by decide⟩ kX11_isArrested rfl ?_
    exact fz_zret kX11_isArrested rfl rfl (by omega) ⟨hI7, hf14, hXw9, hHB10, _, rfl, (by omega), (by omega)⟩
  · refine fz_iload kX11_isArrested rfl rfl ?_
    refine fz_aload_n kX11_isArrested rfl rfl ?_
    refine fz_getV (v := h 53 8) kX11_isArrested rfl rfl (hf14 53 8 rfl) ?_
    have b19 : 0 ≤ h 53 8 ∧ h 53 8 ≤ 99 := hI.1 53 _
    refine fz_icmp_lt (tgt := 28) kX11_isArrested rfl (by decide) (fun c20 => ?_) (fun c20 => ?_)
    · refine fz_iconst ⟨by decide, by decide⟩ kX11_isArrested rfl ?_
      exact fz_zret kX11_isArrested rfl rfl (by omega) ⟨hI7, hf14, hXw9, hHB10, _, rfl, (by omega), (by omega)⟩
    · refine fz_iconst ⟨by decide, by decide⟩ kX11_isArrested rfl ?_
      refine fz_goto (tgt := 29) kX11_isArrested rfl (by decide) ?_
      exact fz_zret kX11_isArrested rfl rfl (by omega) ⟨hI7, hf14, hXw9, hHB10, _, rfl, (by omega), (by omega)⟩

abbrev qX11_marksIn (h : fz_H) (pe t hr : Int) : fz_H → Option fz_V → Prop := fun h' r0 => fz_Iv h' ∧ fz_fr [(74, 99999), (75, 99999)] h h' ∧ fz_Xw h' ∧ fl_HB h' ∧ ∃ r : Int, r0 = some (fz_i r) ∧ (0 ≤ r ∧ r ≤ 5) ∧ (r = fl_ms (fun k => fl_ST h pe (k : Int) t hr) 5)
set_option maxHeartbeats 1000000 in
set_option maxRecDepth 100000 in
theorem sX11_marksIn (h : fz_H) (hI : fz_Iv h) (pe t hr : Int) (hXw : fz_Xw h) (hHB : fl_HB h) (hp0 : 0 ≤ t ∧ t ≤ 7) (hp1 : t < h 53 0) : fz_R 4 mX11_marksIn 0 [(0, fz_r 53), (1, fz_i pe), (2, fz_i t), (3, fz_i hr)] [] h (qX11_marksIn h pe t hr) := by
  refine fz_knowl (fun hk => ?_)
  have hr_pe : -2147483648 ≤ pe ∧ pe < 2147483648 := hk _ (List.Mem.tail _ (List.Mem.head _))
  have hr_t : -2147483648 ≤ t ∧ t < 2147483648 := hk _ (List.Mem.tail _ (List.Mem.tail _ (List.Mem.head _)))
  have hr_hr : -2147483648 ≤ hr ∧ hr < 2147483648 := hk _ (List.Mem.tail _ (List.Mem.tail _ (List.Mem.tail _ (List.Mem.head _))))
  clear hk
  have hf : fz_fr [(74, 99999), (75, 99999)] h h := fz_fr_rf
  have b1 : 0 ≤ h 53 0 ∧ h 53 0 ≤ 8 := hI.1 53 _
  refine fz_iconst ⟨by decide, by decide⟩ kX11_marksIn rfl ?_
  refine fz_istore (ls' := [(4, fz_i 0), (0, fz_r 53), (1, fz_i pe), (2, fz_i t), (3, fz_i hr)]) kX11_marksIn rfl (by decide) rfl ?_
  refine fz_iconst ⟨by decide, by decide⟩ kX11_marksIn rfl ?_
  refine fz_istore (ls' := [(5, fz_i 0), (4, fz_i 0), (0, fz_r 53), (1, fz_i pe), (2, fz_i t), (3, fz_i hr)]) kX11_marksIn rfl (by decide) rfl ?_
  have lp10 : ∀ (n9 : Nat) (x2 : Int) (x3 : Int) (H6 : fz_H), fz_Iv H6 → fz_fr [(74, 99999), (75, 99999)] h H6 → fz_Xw H6 → fl_HB H6 → (0 ≤ x2 ∧ x2 ≤ 5) → (0 ≤ x3 ∧ x3 ≤ 5) → (x3 ≤ x2) → (x3 = fl_ms (fun k => fl_ST h pe (k : Int) t hr) (x2).toNat) → (5 - x2).toNat < n9 → fz_R 4 mX11_marksIn 6 [(5, fz_i x2), (4, fz_i x3), (0, fz_r 53), (1, fz_i pe), (2, fz_i t), (3, fz_i hr)] [] H6 (qX11_marksIn h pe t hr) := by
    intro n9
    induction n9 with
    | zero => intro x2 x3 H6 hI7 hf8 hXw4 hHB5 hv13 hv14 hv15 hv16 hm12; exact absurd hm12 (by omega)
    | succ n9 ih11 =>
      intro x2 x3 H6 hI7 hf8 hXw4 hHB5 hv13 hv14 hv15 hv16 hm12
      refine fz_iload kX11_marksIn rfl rfl ?_
      refine fz_iconst ⟨by decide, by decide⟩ kX11_marksIn rfl ?_
      refine fz_icmp_ge (tgt := 33) kX11_marksIn rfl (by decide) (fun c17 => ?_) (fun c17 => ?_)
      · refine fz_iload kX11_marksIn rfl rfl ?_
        exact fz_iret kX11_marksIn rfl rfl (fun _ => ⟨hI7, hf8, hXw4, hHB5, _, rfl, (by omega), (by exact fl_at (f := fl_ms (fun k => fl_ST h pe (k : Int) t hr)) (n := 5) hv16 (by omega))⟩)
      · refine fz_aload_n kX11_marksIn rfl rfl ?_
        refine fz_iload_n kX11_marksIn rfl rfl ?_
        refine fz_iload kX11_marksIn rfl rfl ?_
        refine fz_iload_n kX11_marksIn rfl rfl ?_
        refine fz_iload_n kX11_marksIn rfl rfl ?_
        have b19 : 0 ≤ h 53 0 ∧ h 53 0 ≤ 8 := hI.1 53 _
        have e20 : H6 53 0 = h 53 0 := hf8 53 0 rfl
        refine fz_callV (d' := 3) (M' := mX11_saidOf) (As := [fz_i pe, fz_i x2, fz_i t, fz_i hr]) (st := []) kX11_marksIn rfl rfl vX11_saidOf rfl rfl rfl rfl (Nat.le_of_ble_eq_true rfl) (Nat.le_of_ble_eq_true rfl) (by decide) (sX11_saidOf H6 hI7 pe x2 t hr hXw4 hHB5 (by omega) (by omega)) (fun H21 r22 q23 o24 => ?_)
        obtain ⟨hI25, hf26, hXw27, hHB28, y31, rfl, f29, f30⟩ := q23
        clear o24
        have hf32 := fz_fr_tr hf8 hf26 (show fz_su [(74, 99999), (75, 99999)] [(74, 99999), (75, 99999)] = true from rfl)
        have k33 : y31 = fl_ST h pe x2 t hr := by rw [← fl_ST_fr hf8 rfl]; exact f30
        refine fz_if_le (tgt := 27) kX11_marksIn rfl (by decide) (fun c35 => ?_) (fun c35 => ?_)
        · refine fz_iincN (ls' := [(5, fz_i (x2 + 1)), (4, fz_i x3), (0, fz_r 53), (1, fz_i pe), (2, fz_i t), (3, fz_i hr)]) kX11_marksIn rfl (by decide) rfl (by omega) rfl ?_
          refine fz_goto (tgt := 6) kX11_marksIn rfl (by decide) ?_
          exact ih11 (x2 + 1) x3 H21 hI25 hf32 hXw27 hHB28 (by omega) (by omega) (by omega) (fl_ms_s hv16 (by omega) (fl_stk k33 (by omega)) (by omega)) (by omega)
        · refine fz_iincN (ls' := [(4, fz_i (x3 + 1)), (5, fz_i x2), (0, fz_r 53), (1, fz_i pe), (2, fz_i t), (3, fz_i hr)]) kX11_marksIn rfl (by decide) rfl (by omega) rfl ?_
          refine fz_iincN (ls' := [(5, fz_i (x2 + 1)), (4, fz_i (x3 + 1)), (0, fz_r 53), (1, fz_i pe), (2, fz_i t), (3, fz_i hr)]) kX11_marksIn rfl (by decide) rfl (by omega) rfl ?_
          refine fz_goto (tgt := 6) kX11_marksIn rfl (by decide) ?_
          exact ih11 (x2 + 1) (x3 + 1) H21 hI25 hf32 hXw27 hHB28 (by omega) (by omega) (by omega) (fl_ms_s hv16 (by omega) (fl_stk k33 (by omega)) (by omega)) (by omega)
  exact lp10 _ 0 0 h hI hf hXw hHB (by omega) (by omega) (by omega) (rfl) (Nat.lt_succ_self _)

abbrev qX11_loudestIn (h : fz_H) (pe t hr : Int) : fz_H → Option fz_V → Prop := fun h' r0 => fz_Iv h' ∧ fz_fr [(74, 99999), (75, 99999)] h h' ∧ fz_Xw h' ∧ fl_HB h' ∧ ∃ r : Int, r0 = some (fz_i r) ∧ ((-2) ≤ r ∧ r ≤ 4) ∧ (r = (fl_lm (fun k => fl_ST h pe (k : Int) t hr) 5).1)
set_option maxHeartbeats 1000000 in
set_option maxRecDepth 100000 in
theorem sX11_loudestIn (h : fz_H) (hI : fz_Iv h) (pe t hr : Int) (hXw : fz_Xw h) (hHB : fl_HB h) (hp0 : 0 ≤ t ∧ t ≤ 7) (hp1 : t < h 53 0) : fz_R 4 mX11_loudestIn 0 [(0, fz_r 53), (1, fz_i pe), (2, fz_i t), (3, fz_i hr)] [] h (qX11_loudestIn h pe t hr) := by
  refine fz_knowl (fun hk => ?_)
  have hr_pe : -2147483648 ≤ pe ∧ pe < 2147483648 := hk _ (List.Mem.tail _ (List.Mem.head _))
  have hr_t : -2147483648 ≤ t ∧ t < 2147483648 := hk _ (List.Mem.tail _ (List.Mem.tail _ (List.Mem.head _)))
  have hr_hr : -2147483648 ≤ hr ∧ hr < 2147483648 := hk _ (List.Mem.tail _ (List.Mem.tail _ (List.Mem.tail _ (List.Mem.head _))))
  clear hk
  have hf : fz_fr [(74, 99999), (75, 99999)] h h := fz_fr_rf
  have b1 : 0 ≤ h 53 0 ∧ h 53 0 ≤ 8 := hI.1 53 _
  refine fz_bipush ⟨by decide, by decide⟩ kX11_loudestIn rfl ?_
  refine fz_istore (ls' := [(4, fz_i (-2)), (0, fz_r 53), (1, fz_i pe), (2, fz_i t), (3, fz_i hr)]) kX11_loudestIn rfl (by decide) rfl ?_
  refine fz_iconst ⟨by decide, by decide⟩ kX11_loudestIn rfl ?_
  refine fz_istore (ls' := [(5, fz_i 0), (4, fz_i (-2)), (0, fz_r 53), (1, fz_i pe), (2, fz_i t), (3, fz_i hr)]) kX11_loudestIn rfl (by decide) rfl ?_
  refine fz_iconst ⟨by decide, by decide⟩ kX11_loudestIn rfl ?_
  refine fz_istore (ls' := [(6, fz_i 0), (5, fz_i 0), (4, fz_i (-2)), (0, fz_r 53), (1, fz_i pe), (2, fz_i t), (3, fz_i hr)]) kX11_loudestIn rfl (by decide) rfl ?_
  have lp11 : ∀ (n10 : Nat) (x2 : Int) (x3 : Int) (x4 : Int) (H7 : fz_H), fz_Iv H7 → fz_fr [(74, 99999), (75, 99999)] h H7 → fz_Xw H7 → fl_HB H7 → (0 ≤ x2 ∧ x2 ≤ 5) → ((-2147483648) ≤ x3 ∧ x3 ≤ 2147483647) → ((-2) ≤ x4 ∧ x4 ≤ 4) → ((x4, x3) = fl_lm (fun k => fl_ST h pe (k : Int) t hr) (x2).toNat) → (5 - x2).toNat < n10 → fz_R 4 mX11_loudestIn 10 [(6, fz_i x2), (5, fz_i x3), (4, fz_i x4), (0, fz_r 53), (1, fz_i pe), (2, fz_i t), (3, fz_i hr)] [] H7 (qX11_loudestIn h pe t hr) := by
    intro n10
    induction n10 with
    | zero => intro x2 x3 x4 H7 hI8 hf9 hXw5 hHB6 hv14 hv15 hv16 hv17 hm13; exact absurd hm13 (by omega)
    | succ n10 ih12 =>
      intro x2 x3 x4 H7 hI8 hf9 hXw5 hHB6 hv14 hv15 hv16 hv17 hm13
      refine fz_iload kX11_loudestIn rfl rfl ?_
      refine fz_iconst ⟨by decide, by decide⟩ kX11_loudestIn rfl ?_
      refine fz_icmp_ge (tgt := 51) kX11_loudestIn rfl (by decide) (fun c18 => ?_) (fun c18 => ?_)
      · refine fz_iload kX11_loudestIn rfl rfl ?_
        exact fz_iret kX11_loudestIn rfl rfl (fun _ => ⟨hI8, hf9, hXw5, hHB6, _, rfl, (by omega), (by exact fl_lm_e hv17 (by omega))⟩)
      · refine fz_aload_n kX11_loudestIn rfl rfl ?_
        refine fz_iload_n kX11_loudestIn rfl rfl ?_
        refine fz_iload kX11_loudestIn rfl rfl ?_
        refine fz_iload_n kX11_loudestIn rfl rfl ?_
        refine fz_iload_n kX11_loudestIn rfl rfl ?_
        have b20 : 0 ≤ h 53 0 ∧ h 53 0 ≤ 8 := hI.1 53 _
        have e21 : H7 53 0 = h 53 0 := hf9 53 0 rfl
        refine fz_callV (d' := 3) (M' := mX11_saidOf) (As := [fz_i pe, fz_i x2, fz_i t, fz_i hr]) (st := []) kX11_loudestIn rfl rfl vX11_saidOf rfl rfl rfl rfl (Nat.le_of_ble_eq_true rfl) (Nat.le_of_ble_eq_true rfl) (by decide) (sX11_saidOf H7 hI8 pe x2 t hr hXw5 hHB6 (by omega) (by omega)) (fun H22 r23 q24 o25 => ?_)
        obtain ⟨hI26, hf27, hXw28, hHB29, y32, rfl, f30, f31⟩ := q24
        clear o25
        have hf33 := fz_fr_tr hf9 hf27 (show fz_su [(74, 99999), (75, 99999)] [(74, 99999), (75, 99999)] = true from rfl)
        have k34 : y32 = fl_ST h pe x2 t hr := by rw [← fl_ST_fr hf9 rfl]; exact f31
        refine fz_istore (ls' := [(7, fz_i y32), (6, fz_i x2), (5, fz_i x3), (4, fz_i x4), (0, fz_r 53), (1, fz_i pe), (2, fz_i t), (3, fz_i hr)]) kX11_loudestIn rfl (by decide) rfl ?_
        refine fz_iload kX11_loudestIn rfl rfl ?_
        refine fz_iload kX11_loudestIn rfl rfl ?_
        refine fz_icmp_gt (tgt := 37) kX11_loudestIn rfl (by decide) (fun c36 => ?_) (fun c36 => ?_)
        · refine fz_iload kX11_loudestIn rfl rfl ?_
          refine fz_istore (ls' := [(5, fz_i y32), (7, fz_i y32), (6, fz_i x2), (4, fz_i x4), (0, fz_r 53), (1, fz_i pe), (2, fz_i t), (3, fz_i hr)]) kX11_loudestIn rfl (by decide) rfl ?_
          refine fz_iload kX11_loudestIn rfl rfl ?_
          refine fz_istore (ls' := [(4, fz_i x2), (5, fz_i y32), (7, fz_i y32), (6, fz_i x2), (0, fz_r 53), (1, fz_i pe), (2, fz_i t), (3, fz_i hr)]) kX11_loudestIn rfl (by decide) rfl ?_
          refine fz_iincN (ls' := [(6, fz_i (x2 + 1)), (4, fz_i x2), (5, fz_i y32), (7, fz_i y32), (0, fz_r 53), (1, fz_i pe), (2, fz_i t), (3, fz_i hr)]) kX11_loudestIn rfl (by decide) rfl (by omega) rfl ?_
          refine fz_goto (tgt := 10) kX11_loudestIn rfl (by decide) ?_
          refine fz_sub (fz_pk_sub (ls' := [(6, fz_i (x2 + 1)), (5, fz_i y32), (4, fz_i x2), (0, fz_r 53), (1, fz_i pe), (2, fz_i t), (3, fz_i hr)]) [0, 2, 1, 4, 5, 6, 7] rfl) ?_
          exact ih12 (x2 + 1) y32 x2 H22 hI26 hf33 hXw28 hHB29 (by omega) (by omega) (by omega) (by first | exact fl_lm_y hv17 (by omega) (fl_stk k34 (by omega)) (by omega) | exact fl_lm_n hv17 (by omega) (fl_stk k34 (by omega)) (by omega)) (by omega)
        · refine fz_goto (tgt := 45) kX11_loudestIn rfl (by decide) ?_
          refine fz_iincN (ls' := [(6, fz_i (x2 + 1)), (7, fz_i y32), (5, fz_i x3), (4, fz_i x4), (0, fz_r 53), (1, fz_i pe), (2, fz_i t), (3, fz_i hr)]) kX11_loudestIn rfl (by decide) rfl (by omega) rfl ?_
          refine fz_goto (tgt := 10) kX11_loudestIn rfl (by decide) ?_
          refine fz_sub (fz_pk_sub (ls' := [(6, fz_i (x2 + 1)), (5, fz_i x3), (4, fz_i x4), (0, fz_r 53), (1, fz_i pe), (2, fz_i t), (3, fz_i hr)]) [0, 2, 3, 4, 5, 6, 7] rfl) ?_
          exact ih12 (x2 + 1) x3 x4 H22 hI26 hf33 hXw28 hHB29 (by omega) (by omega) (by omega) (by first | exact fl_lm_y hv17 (by omega) (fl_stk k34 (by omega)) (by omega) | exact fl_lm_n hv17 (by omega) (fl_stk k34 (by omega)) (by omega)) (by omega)
  exact lp11 _ 0 0 (-2) h hI hf hXw hHB (by omega) (by omega) (by omega) (rfl) (Nat.lt_succ_self _)

abbrev qX11_received (h : fz_H) (on th wh : Int) : fz_H → Option fz_V → Prop := fun h' r0 => fz_Iv h' ∧ fz_fr [(74, 99999), (75, 99999), (86, 99999), (87, 99999), (88, 99999)] h h' ∧ fz_Xw h' ∧ fz_RM h' ∧ fl_RPm h' ∧ ∃ r : Int, r0 = some (fz_i r) ∧ ((-2147483648) ≤ r ∧ r ≤ 2147483647) ∧ (fl_rcM h on th wh r)
set_option maxHeartbeats 1000000 in
set_option maxRecDepth 100000 in
theorem sX11_received (h : fz_H) (hI : fz_Iv h) (on th wh : Int) (hXw : fz_Xw h) (hRM : fz_RM h) (hRPm : fl_RPm h) : fz_R 5 mX11_received 0 [(0, fz_r 53), (1, fz_i on), (2, fz_i th), (3, fz_i wh)] [] h (qX11_received h on th wh) := by
  refine fz_knowl (fun hk => ?_)
  have hr_on : -2147483648 ≤ on ∧ on < 2147483648 := hk _ (List.Mem.tail _ (List.Mem.head _))
  have hr_th : -2147483648 ≤ th ∧ th < 2147483648 := hk _ (List.Mem.tail _ (List.Mem.tail _ (List.Mem.head _)))
  have hr_wh : -2147483648 ≤ wh ∧ wh < 2147483648 := hk _ (List.Mem.tail _ (List.Mem.tail _ (List.Mem.tail _ (List.Mem.head _))))
  clear hk
  have hf : fz_fr [(74, 99999), (75, 99999), (86, 99999), (87, 99999), (88, 99999)] h h := fz_fr_rf
  refine fz_iload_n kX11_received rfl rfl ?_
  refine fz_callS (d' := 1) (M' := mX11_isPerson) (As := [fz_i on]) (st := []) kX11_received rfl rfl vX11_isPerson rfl rfl (Nat.le_of_ble_eq_true rfl) (Nat.le_of_ble_eq_true rfl) (by decide) (sX11_isPerson h hI on ) (fun H1 r2 q3 o4 => ?_)
  obtain ⟨e5, y6, rfl, p7⟩ := q3
  subst H1
  clear o4
  rcases p7 with ⟨rfl, c8⟩ | ⟨rfl, c8⟩
  · refine fz_if_eq (tgt := 15) kX11_received rfl (by decide) (fun c9 => ?_) (fun c9 => ?_)
    · exfalso; omega
    · refine fz_aload_n kX11_received rfl rfl ?_
      refine fz_iload_n kX11_received rfl rfl ?_
      have b10 : 0 ≤ h 53 0 ∧ h 53 0 ≤ 8 := hI.1 53 _
      refine fz_callV (d' := 2) (M' := mX11_isWhen) (As := [fz_i th]) (st := []) kX11_received rfl rfl vX11_isWhen rfl rfl rfl rfl (Nat.le_of_ble_eq_true rfl) (Nat.le_of_ble_eq_true rfl) (by decide) (sX11_isWhen h hI th ) (fun H11 r12 q13 o14 => ?_)
      obtain ⟨e15, y16, rfl, p17⟩ := q13
      subst H11
      clear o14
      rcases p17 with ⟨rfl, c18⟩ | ⟨rfl, c18⟩
      · refine fz_if_ne (tgt := 18) kX11_received rfl (by decide) (fun c19 => ?_) (fun c19 => ?_)
        · refine fz_aload_n kX11_received rfl rfl ?_
          have b20 : 0 ≤ h 53 10 ∧ h 53 10 ≤ 11 := hI.1 53 _
          refine fz_callV (d' := 3) (M' := mX11_allHear) (As := []) (st := []) kX11_received rfl rfl vX11_allHear rfl rfl rfl rfl (Nat.le_of_ble_eq_true rfl) (Nat.le_of_ble_eq_true rfl) (by decide) (sX11_allHear h hI  hRM hRPm) (fun H21 r22 q23 o24 => ?_)
          obtain ⟨hI25, hf26, hRM27, hRPm28, rfl, f29⟩ := q23
          clear o24
          have hf30 := fz_fr_tr hf hf26 (show fz_su [(86, 99999), (87, 99999), (88, 99999)] [(74, 99999), (75, 99999), (86, 99999), (87, 99999), (88, 99999)] = true from rfl)
          have hXw31 : fz_Xw H21 := fz_Xw_eq (hf26 53 19 rfl) (funext fun s => hf26 66 s rfl) (funext fun s => hf26 67 s rfl) (funext fun s => hf26 68 s rfl) (funext fun s => hf26 69 s rfl) hXw
          have hHB32 : fl_HB H21 := fl_HB_of2 f29 (funext fun s => hf26 62 s rfl) (hf26 53 10 rfl) (hf26 53 0 rfl) (funext fun s => hf26 54 s rfl) (fun q => (hI25.1 54 q).1)
          refine fz_iload_n kX11_received rfl rfl ?_
          rcases (show wh = 0 ∨ wh = 1 ∨ wh = 2 ∨ wh = 3 ∨ (wh < 0 ∨ 3 < wh) by omega) with c34 | c34 | c34 | c34 | c34
          · refine fz_tswC (j := 0) (tgt := 52) kX11_received rfl c34 (by decide) (by decide) rfl (by decide) ?_
            refine fz_aload_n kX11_received rfl rfl ?_
            refine fz_iload_n kX11_received rfl rfl ?_
            refine fz_iload_n kX11_received rfl rfl ?_
            refine fz_sipush ⟨by decide, by decide⟩ kX11_received rfl ?_
            refine fz_idivN kX11_received rfl (by omega) (by omega) (by omega) ?_
            refine fz_iload_n kX11_received rfl rfl ?_
            refine fz_sipush ⟨by decide, by decide⟩ kX11_received rfl ?_
            refine fz_iremN kX11_received rfl (by omega) (by omega) (by omega) ?_
            have e35 : H21 53 0 = h 53 0 := hf30 53 0 rfl
            refine fz_callV (d' := 4) (M' := mX11_receivedIn) (As := [fz_i on, fz_i (th / 1000), fz_i (th % 1000)]) (st := []) kX11_received rfl rfl vX11_receivedIn rfl rfl rfl rfl (Nat.le_of_ble_eq_true rfl) (Nat.le_of_ble_eq_true rfl) (by decide) (sX11_receivedIn H21 hI25 on (th / 1000) (th % 1000) hXw31 hHB32 (by omega) (by omega)) (fun H36 r37 q38 o39 => ?_)
            obtain ⟨hI40, hf41, hXw42, hHB43, y46, rfl, f44, f45⟩ := q38
            clear o39
            have hf47 := fz_fr_tr hf30 hf41 (show fz_su [(74, 99999), (75, 99999)] [(74, 99999), (75, 99999), (86, 99999), (87, 99999), (88, 99999)] = true from rfl)
            have hRM48 : fz_RM H36 := fz_RM_eq (funext fun s => hf41 55 s rfl) (funext fun s => hf41 56 s rfl) (hf41 53 0 rfl) (hf41 53 2 rfl) hRM27
            have hRPm49 : fl_RPm H36 := fl_RPm_eq (funext fun s => hf41 61 s rfl) (hf41 53 10 rfl) (hf41 53 0 rfl) hRPm28
            exact fz_iret kX11_received rfl rfl (fun _ => ⟨hI40, hf47, hXw42, hRM48, hRPm49, _, rfl, (by omega), (by first | exact Or.inl ⟨(by unfold fl_oR; omega), (f45.trans (fl_re_0 (ar := h 53 8) (by omega)).symm).trans (fl_re_eq (fun k _ => (fl_ST_HT f29 (funext fun s => hf26 60 s rfl) (funext fun s => hf26 62 s rfl) (funext fun s => hf26 63 s rfl) (funext fun s => hf26 64 s rfl) (funext fun s => hf26 66 s rfl) (funext fun s => hf26 67 s rfl) (funext fun s => hf26 68 s rfl) (funext fun s => hf26 69 s rfl) (hf26 53 10 rfl) (hf26 53 18 rfl) (hf26 53 19 rfl) ⟨by omega, by omega⟩)) (funext fun s => hf26 59 s rfl))⟩ | exact Or.inl ⟨(by unfold fl_oR; omega), (fl_re_1 (w := H21 59) (ar := h 53 8) (by omega) (by have e : H21 53 8 = h 53 8 := hf26 53 8 rfl; rw [← e]; exact fl_ia lost (by omega))).trans (fl_re_eq (fun k _ => (fl_ST_HT f29 (funext fun s => hf26 60 s rfl) (funext fun s => hf26 62 s rfl) (funext fun s => hf26 63 s rfl) (funext fun s => hf26 64 s rfl) (funext fun s => hf26 66 s rfl) (funext fun s => hf26 67 s rfl) (funext fun s => hf26 68 s rfl) (funext fun s => hf26 69 s rfl) (hf26 53 10 rfl) (hf26 53 18 rfl) (hf26 53 19 rfl) ⟨by omega, by omega⟩)) (funext fun s => hf26 59 s rfl))⟩ | exact Or.inl ⟨(by unfold fl_oR; omega), (lost.trans (fl_re_2 (w := H21 59) (ar := h 53 8) (by omega)).symm).trans (fl_re_eq (fun k _ => (fl_ST_HT f29 (funext fun s => hf26 60 s rfl) (funext fun s => hf26 62 s rfl) (funext fun s => hf26 63 s rfl) (funext fun s => hf26 64 s rfl) (funext fun s => hf26 66 s rfl) (funext fun s => hf26 67 s rfl) (funext fun s => hf26 68 s rfl) (funext fun s => hf26 69 s rfl) (hf26 53 10 rfl) (hf26 53 18 rfl) (hf26 53 19 rfl) ⟨by omega, by omega⟩)) (funext fun s => hf26 59 s rfl))⟩ | exact Or.inl ⟨(by unfold fl_oR; omega), (lost.trans (fl_re_3 (w := H21 59) (ar := h 53 8) (by omega)).symm).trans (fl_re_eq (fun k _ => (fl_ST_HT f29 (funext fun s => hf26 60 s rfl) (funext fun s => hf26 62 s rfl) (funext fun s => hf26 63 s rfl) (funext fun s => hf26 64 s rfl) (funext fun s => hf26 66 s rfl) (funext fun s => hf26 67 s rfl) (funext fun s => hf26 68 s rfl) (funext fun s => hf26 69 s rfl) (hf26 53 10 rfl) (hf26 53 18 rfl) (hf26 53 19 rfl) ⟨by omega, by omega⟩)) (funext fun s => hf26 59 s rfl))⟩ | exact Or.inr ⟨(by unfold fl_oR; omega), rfl⟩)⟩)
          · refine fz_tswC (j := 1) (tgt := 68) kX11_received rfl c34 (by decide) (by decide) rfl (by decide) ?_
            refine fz_aload_n kX11_received rfl rfl ?_
            refine fz_iload_n kX11_received rfl rfl ?_
            refine fz_iload_n kX11_received rfl rfl ?_
            refine fz_sipush ⟨by decide, by decide⟩ kX11_received rfl ?_
            refine fz_idivN kX11_received rfl (by omega) (by omega) (by omega) ?_
            refine fz_iload_n kX11_received rfl rfl ?_
            refine fz_sipush ⟨by decide, by decide⟩ kX11_received rfl ?_
            refine fz_iremN kX11_received rfl (by omega) (by omega) (by omega) ?_
            have b51 : 0 ≤ h 53 8 ∧ h 53 8 ≤ 99 := hI.1 53 _
            have e52 : H21 53 0 = h 53 0 := hf30 53 0 rfl
            have e53 : H21 53 8 = h 53 8 := hf30 53 8 rfl
            refine fz_callV (d' := 4) (M' := mX11_isArrested) (As := [fz_i on, fz_i (th / 1000), fz_i (th % 1000)]) (st := []) kX11_received rfl rfl vX11_isArrested rfl rfl rfl rfl (Nat.le_of_ble_eq_true rfl) (Nat.le_of_ble_eq_true rfl) (by decide) (sX11_isArrested H21 hI25 on (th / 1000) (th % 1000) hXw31 hHB32 (by omega) (by omega)) (fun H54 r55 q56 o57 => ?_)
            obtain ⟨hI58, hf59, hXw60, hHB61, y63, rfl, p64, f62⟩ := q56
            clear o57
            have hf65 := fz_fr_tr hf30 hf59 (show fz_su [(74, 99999), (75, 99999)] [(74, 99999), (75, 99999), (86, 99999), (87, 99999), (88, 99999)] = true from rfl)
            have hRM66 : fz_RM H54 := fz_RM_eq (funext fun s => hf59 55 s rfl) (funext fun s => hf59 56 s rfl) (hf59 53 0 rfl) (hf59 53 2 rfl) hRM27
            have hRPm67 : fl_RPm H54 := fl_RPm_eq (funext fun s => hf59 61 s rfl) (hf59 53 10 rfl) (hf59 53 0 rfl) hRPm28
            refine fz_if_eq (tgt := 90) kX11_received rfl (by decide) (fun c68 => ?_) (fun c68 => ?_)
            · refine fz_iconst ⟨by decide, by decide⟩ kX11_received rfl ?_
              exact fz_iret kX11_received rfl rfl (fun _ => ⟨hI58, hf65, hXw60, hRM66, hRPm67, _, rfl, (by omega), (by first | exact Or.inl ⟨(by unfold fl_oR; omega), (lost.trans (fl_re_0 (ar := h 53 8) (by omega)).symm).trans (fl_re_eq (fun k _ => (fl_ST_HT f29 (funext fun s => hf26 60 s rfl) (funext fun s => hf26 62 s rfl) (funext fun s => hf26 63 s rfl) (funext fun s => hf26 64 s rfl) (funext fun s => hf26 66 s rfl) (funext fun s => hf26 67 s rfl) (funext fun s => hf26 68 s rfl) (funext fun s => hf26 69 s rfl) (hf26 53 10 rfl) (hf26 53 18 rfl) (hf26 53 19 rfl) ⟨by omega, by omega⟩)) (funext fun s => hf26 59 s rfl))⟩ | exact Or.inl ⟨(by unfold fl_oR; omega), (fl_re_1 (w := H21 59) (ar := h 53 8) (by omega) (by have e : H21 53 8 = h 53 8 := hf26 53 8 rfl; rw [← e]; exact fl_ia f62 (by omega))).trans (fl_re_eq (fun k _ => (fl_ST_HT f29 (funext fun s => hf26 60 s rfl) (funext fun s => hf26 62 s rfl) (funext fun s => hf26 63 s rfl) (funext fun s => hf26 64 s rfl) (funext fun s => hf26 66 s rfl) (funext fun s => hf26 67 s rfl) (funext fun s => hf26 68 s rfl) (funext fun s => hf26 69 s rfl) (hf26 53 10 rfl) (hf26 53 18 rfl) (hf26 53 19 rfl) ⟨by omega, by omega⟩)) (funext fun s => hf26 59 s rfl))⟩ | exact Or.inl ⟨(by unfold fl_oR; omega), (lost.trans (fl_re_2 (w := H21 59) (ar := h 53 8) (by omega)).symm).trans (fl_re_eq (fun k _ => (fl_ST_HT f29 (funext fun s => hf26 60 s rfl) (funext fun s => hf26 62 s rfl) (funext fun s => hf26 63 s rfl) (funext fun s => hf26 64 s rfl) (funext fun s => hf26 66 s rfl) (funext fun s => hf26 67 s rfl) (funext fun s => hf26 68 s rfl) (funext fun s => hf26 69 s rfl) (hf26 53 10 rfl) (hf26 53 18 rfl) (hf26 53 19 rfl) ⟨by omega, by omega⟩)) (funext fun s => hf26 59 s rfl))⟩ | exact Or.inl ⟨(by unfold fl_oR; omega), (lost.trans (fl_re_3 (w := H21 59) (ar := h 53 8) (by omega)).symm).trans (fl_re_eq (fun k _ => (fl_ST_HT f29 (funext fun s => hf26 60 s rfl) (funext fun s => hf26 62 s rfl) (funext fun s => hf26 63 s rfl) (funext fun s => hf26 64 s rfl) (funext fun s => hf26 66 s rfl) (funext fun s => hf26 67 s rfl) (funext fun s => hf26 68 s rfl) (funext fun s => hf26 69 s rfl) (hf26 53 10 rfl) (hf26 53 18 rfl) (hf26 53 19 rfl) ⟨by omega, by omega⟩)) (funext fun s => hf26 59 s rfl))⟩ | exact Or.inr ⟨(by unfold fl_oR; omega), rfl⟩)⟩)
            · refine fz_iconst ⟨by decide, by decide⟩ kX11_received rfl ?_
              refine fz_goto (tgt := 91) kX11_received rfl (by decide) ?_
              exact fz_iret kX11_received rfl rfl (fun _ => ⟨hI58, hf65, hXw60, hRM66, hRPm67, _, rfl, (by omega), (by first | exact Or.inl ⟨(by unfold fl_oR; omega), (lost.trans (fl_re_0 (ar := h 53 8) (by omega)).symm).trans (fl_re_eq (fun k _ => (fl_ST_HT f29 (funext fun s => hf26 60 s rfl) (funext fun s => hf26 62 s rfl) (funext fun s => hf26 63 s rfl) (funext fun s => hf26 64 s rfl) (funext fun s => hf26 66 s rfl) (funext fun s => hf26 67 s rfl) (funext fun s => hf26 68 s rfl) (funext fun s => hf26 69 s rfl) (hf26 53 10 rfl) (hf26 53 18 rfl) (hf26 53 19 rfl) ⟨by omega, by omega⟩)) (funext fun s => hf26 59 s rfl))⟩ | exact Or.inl ⟨(by unfold fl_oR; omega), (fl_re_1 (w := H21 59) (ar := h 53 8) (by omega) (by have e : H21 53 8 = h 53 8 := hf26 53 8 rfl; rw [← e]; exact fl_ia f62 (by omega))).trans (fl_re_eq (fun k _ => (fl_ST_HT f29 (funext fun s => hf26 60 s rfl) (funext fun s => hf26 62 s rfl) (funext fun s => hf26 63 s rfl) (funext fun s => hf26 64 s rfl) (funext fun s => hf26 66 s rfl) (funext fun s => hf26 67 s rfl) (funext fun s => hf26 68 s rfl) (funext fun s => hf26 69 s rfl) (hf26 53 10 rfl) (hf26 53 18 rfl) (hf26 53 19 rfl) ⟨by omega, by omega⟩)) (funext fun s => hf26 59 s rfl))⟩ | exact Or.inl ⟨(by unfold fl_oR; omega), (lost.trans (fl_re_2 (w := H21 59) (ar := h 53 8) (by omega)).symm).trans (fl_re_eq (fun k _ => (fl_ST_HT f29 (funext fun s => hf26 60 s rfl) (funext fun s => hf26 62 s rfl) (funext fun s => hf26 63 s rfl) (funext fun s => hf26 64 s rfl) (funext fun s => hf26 66 s rfl) (funext fun s => hf26 67 s rfl) (funext fun s => hf26 68 s rfl) (funext fun s => hf26 69 s rfl) (hf26 53 10 rfl) (hf26 53 18 rfl) (hf26 53 19 rfl) ⟨by omega, by omega⟩)) (funext fun s => hf26 59 s rfl))⟩ | exact Or.inl ⟨(by unfold fl_oR; omega), (lost.trans (fl_re_3 (w := H21 59) (ar := h 53 8) (by omega)).symm).trans (fl_re_eq (fun k _ => (fl_ST_HT f29 (funext fun s => hf26 60 s rfl) (funext fun s => hf26 62 s rfl) (funext fun s => hf26 63 s rfl) (funext fun s => hf26 64 s rfl) (funext fun s => hf26 66 s rfl) (funext fun s => hf26 67 s rfl) (funext fun s => hf26 68 s rfl) (funext fun s => hf26 69 s rfl) (hf26 53 10 rfl) (hf26 53 18 rfl) (hf26 53 19 rfl) ⟨by omega, by omega⟩)) (funext fun s => hf26 59 s rfl))⟩ | exact Or.inr ⟨(by unfold fl_oR; omega), rfl⟩)⟩)
          · refine fz_tswC (j := 2) (tgt := 92) kX11_received rfl c34 (by decide) (by decide) rfl (by decide) ?_
            refine fz_aload_n kX11_received rfl rfl ?_
            refine fz_iload_n kX11_received rfl rfl ?_
            refine fz_iload_n kX11_received rfl rfl ?_
            refine fz_sipush ⟨by decide, by decide⟩ kX11_received rfl ?_
            refine fz_idivN kX11_received rfl (by omega) (by omega) (by omega) ?_
            refine fz_iload_n kX11_received rfl rfl ?_
            refine fz_sipush ⟨by decide, by decide⟩ kX11_received rfl ?_
            refine fz_iremN kX11_received rfl (by omega) (by omega) (by omega) ?_
            have e71 : H21 53 0 = h 53 0 := hf30 53 0 rfl
            refine fz_callV (d' := 4) (M' := mX11_marksIn) (As := [fz_i on, fz_i (th / 1000), fz_i (th % 1000)]) (st := []) kX11_received rfl rfl vX11_marksIn rfl rfl rfl rfl (Nat.le_of_ble_eq_true rfl) (Nat.le_of_ble_eq_true rfl) (by decide) (sX11_marksIn H21 hI25 on (th / 1000) (th % 1000) hXw31 hHB32 (by omega) (by omega)) (fun H72 r73 q74 o75 => ?_)
            obtain ⟨hI76, hf77, hXw78, hHB79, y82, rfl, f80, f81⟩ := q74
            clear o75
            have hf83 := fz_fr_tr hf30 hf77 (show fz_su [(74, 99999), (75, 99999)] [(74, 99999), (75, 99999), (86, 99999), (87, 99999), (88, 99999)] = true from rfl)
            have hRM84 : fz_RM H72 := fz_RM_eq (funext fun s => hf77 55 s rfl) (funext fun s => hf77 56 s rfl) (hf77 53 0 rfl) (hf77 53 2 rfl) hRM27
            have hRPm85 : fl_RPm H72 := fl_RPm_eq (funext fun s => hf77 61 s rfl) (hf77 53 10 rfl) (hf77 53 0 rfl) hRPm28
            exact fz_iret kX11_received rfl rfl (fun _ => ⟨hI76, hf83, hXw78, hRM84, hRPm85, _, rfl, (by omega), (by first | exact Or.inl ⟨(by unfold fl_oR; omega), (lost.trans (fl_re_0 (ar := h 53 8) (by omega)).symm).trans (fl_re_eq (fun k _ => (fl_ST_HT f29 (funext fun s => hf26 60 s rfl) (funext fun s => hf26 62 s rfl) (funext fun s => hf26 63 s rfl) (funext fun s => hf26 64 s rfl) (funext fun s => hf26 66 s rfl) (funext fun s => hf26 67 s rfl) (funext fun s => hf26 68 s rfl) (funext fun s => hf26 69 s rfl) (hf26 53 10 rfl) (hf26 53 18 rfl) (hf26 53 19 rfl) ⟨by omega, by omega⟩)) (funext fun s => hf26 59 s rfl))⟩ | exact Or.inl ⟨(by unfold fl_oR; omega), (fl_re_1 (w := H21 59) (ar := h 53 8) (by omega) (by have e : H21 53 8 = h 53 8 := hf26 53 8 rfl; rw [← e]; exact fl_ia lost (by omega))).trans (fl_re_eq (fun k _ => (fl_ST_HT f29 (funext fun s => hf26 60 s rfl) (funext fun s => hf26 62 s rfl) (funext fun s => hf26 63 s rfl) (funext fun s => hf26 64 s rfl) (funext fun s => hf26 66 s rfl) (funext fun s => hf26 67 s rfl) (funext fun s => hf26 68 s rfl) (funext fun s => hf26 69 s rfl) (hf26 53 10 rfl) (hf26 53 18 rfl) (hf26 53 19 rfl) ⟨by omega, by omega⟩)) (funext fun s => hf26 59 s rfl))⟩ | exact Or.inl ⟨(by unfold fl_oR; omega), (f81.trans (fl_re_2 (w := H21 59) (ar := h 53 8) (by omega)).symm).trans (fl_re_eq (fun k _ => (fl_ST_HT f29 (funext fun s => hf26 60 s rfl) (funext fun s => hf26 62 s rfl) (funext fun s => hf26 63 s rfl) (funext fun s => hf26 64 s rfl) (funext fun s => hf26 66 s rfl) (funext fun s => hf26 67 s rfl) (funext fun s => hf26 68 s rfl) (funext fun s => hf26 69 s rfl) (hf26 53 10 rfl) (hf26 53 18 rfl) (hf26 53 19 rfl) ⟨by omega, by omega⟩)) (funext fun s => hf26 59 s rfl))⟩ | exact Or.inl ⟨(by unfold fl_oR; omega), (lost.trans (fl_re_3 (w := H21 59) (ar := h 53 8) (by omega)).symm).trans (fl_re_eq (fun k _ => (fl_ST_HT f29 (funext fun s => hf26 60 s rfl) (funext fun s => hf26 62 s rfl) (funext fun s => hf26 63 s rfl) (funext fun s => hf26 64 s rfl) (funext fun s => hf26 66 s rfl) (funext fun s => hf26 67 s rfl) (funext fun s => hf26 68 s rfl) (funext fun s => hf26 69 s rfl) (hf26 53 10 rfl) (hf26 53 18 rfl) (hf26 53 19 rfl) ⟨by omega, by omega⟩)) (funext fun s => hf26 59 s rfl))⟩ | exact Or.inr ⟨(by unfold fl_oR; omega), rfl⟩)⟩)
          · refine fz_tswC (j := 3) (tgt := 108) kX11_received rfl c34 (by decide) (by decide) rfl (by decide) ?_
            refine fz_aload_n kX11_received rfl rfl ?_
            refine fz_iload_n kX11_received rfl rfl ?_
            refine fz_iload_n kX11_received rfl rfl ?_
            refine fz_sipush ⟨by decide, by decide⟩ kX11_received rfl ?_
            refine fz_idivN kX11_received rfl (by omega) (by omega) (by omega) ?_
            refine fz_iload_n kX11_received rfl rfl ?_
            refine fz_sipush ⟨by decide, by decide⟩ kX11_received rfl ?_
            refine fz_iremN kX11_received rfl (by omega) (by omega) (by omega) ?_
            have e87 : H21 53 0 = h 53 0 := hf30 53 0 rfl
            refine fz_callV (d' := 4) (M' := mX11_loudestIn) (As := [fz_i on, fz_i (th / 1000), fz_i (th % 1000)]) (st := []) kX11_received rfl rfl vX11_loudestIn rfl rfl rfl rfl (Nat.le_of_ble_eq_true rfl) (Nat.le_of_ble_eq_true rfl) (by decide) (sX11_loudestIn H21 hI25 on (th / 1000) (th % 1000) hXw31 hHB32 (by omega) (by omega)) (fun H88 r89 q90 o91 => ?_)
            obtain ⟨hI92, hf93, hXw94, hHB95, y98, rfl, f96, f97⟩ := q90
            clear o91
            have hf99 := fz_fr_tr hf30 hf93 (show fz_su [(74, 99999), (75, 99999)] [(74, 99999), (75, 99999), (86, 99999), (87, 99999), (88, 99999)] = true from rfl)
            have hRM100 : fz_RM H88 := fz_RM_eq (funext fun s => hf93 55 s rfl) (funext fun s => hf93 56 s rfl) (hf93 53 0 rfl) (hf93 53 2 rfl) hRM27
            have hRPm101 : fl_RPm H88 := fl_RPm_eq (funext fun s => hf93 61 s rfl) (hf93 53 10 rfl) (hf93 53 0 rfl) hRPm28
            exact fz_iret kX11_received rfl rfl (fun _ => ⟨hI92, hf99, hXw94, hRM100, hRPm101, _, rfl, (by omega), (by first | exact Or.inl ⟨(by unfold fl_oR; omega), (lost.trans (fl_re_0 (ar := h 53 8) (by omega)).symm).trans (fl_re_eq (fun k _ => (fl_ST_HT f29 (funext fun s => hf26 60 s rfl) (funext fun s => hf26 62 s rfl) (funext fun s => hf26 63 s rfl) (funext fun s => hf26 64 s rfl) (funext fun s => hf26 66 s rfl) (funext fun s => hf26 67 s rfl) (funext fun s => hf26 68 s rfl) (funext fun s => hf26 69 s rfl) (hf26 53 10 rfl) (hf26 53 18 rfl) (hf26 53 19 rfl) ⟨by omega, by omega⟩)) (funext fun s => hf26 59 s rfl))⟩ | exact Or.inl ⟨(by unfold fl_oR; omega), (fl_re_1 (w := H21 59) (ar := h 53 8) (by omega) (by have e : H21 53 8 = h 53 8 := hf26 53 8 rfl; rw [← e]; exact fl_ia lost (by omega))).trans (fl_re_eq (fun k _ => (fl_ST_HT f29 (funext fun s => hf26 60 s rfl) (funext fun s => hf26 62 s rfl) (funext fun s => hf26 63 s rfl) (funext fun s => hf26 64 s rfl) (funext fun s => hf26 66 s rfl) (funext fun s => hf26 67 s rfl) (funext fun s => hf26 68 s rfl) (funext fun s => hf26 69 s rfl) (hf26 53 10 rfl) (hf26 53 18 rfl) (hf26 53 19 rfl) ⟨by omega, by omega⟩)) (funext fun s => hf26 59 s rfl))⟩ | exact Or.inl ⟨(by unfold fl_oR; omega), (lost.trans (fl_re_2 (w := H21 59) (ar := h 53 8) (by omega)).symm).trans (fl_re_eq (fun k _ => (fl_ST_HT f29 (funext fun s => hf26 60 s rfl) (funext fun s => hf26 62 s rfl) (funext fun s => hf26 63 s rfl) (funext fun s => hf26 64 s rfl) (funext fun s => hf26 66 s rfl) (funext fun s => hf26 67 s rfl) (funext fun s => hf26 68 s rfl) (funext fun s => hf26 69 s rfl) (hf26 53 10 rfl) (hf26 53 18 rfl) (hf26 53 19 rfl) ⟨by omega, by omega⟩)) (funext fun s => hf26 59 s rfl))⟩ | exact Or.inl ⟨(by unfold fl_oR; omega), (f97.trans (fl_re_3 (w := H21 59) (ar := h 53 8) (by omega)).symm).trans (fl_re_eq (fun k _ => (fl_ST_HT f29 (funext fun s => hf26 60 s rfl) (funext fun s => hf26 62 s rfl) (funext fun s => hf26 63 s rfl) (funext fun s => hf26 64 s rfl) (funext fun s => hf26 66 s rfl) (funext fun s => hf26 67 s rfl) (funext fun s => hf26 68 s rfl) (funext fun s => hf26 69 s rfl) (hf26 53 10 rfl) (hf26 53 18 rfl) (hf26 53 19 rfl) ⟨by omega, by omega⟩)) (funext fun s => hf26 59 s rfl))⟩ | exact Or.inr ⟨(by unfold fl_oR; omega), rfl⟩)⟩)
          · refine fz_tswO (tgt := 124) kX11_received rfl c34 (by decide) ?_
            refine fz_ldc (x := (-2000000000)) kX11_received rfl rfl rfl ?_
            exact fz_iret kX11_received rfl rfl (fun _ => ⟨hI25, hf30, hXw31, hRM27, hRPm28, _, rfl, (by omega), (by first | exact Or.inl ⟨(by unfold fl_oR; omega), (lost.trans (fl_re_0 (ar := h 53 8) (by omega)).symm).trans (fl_re_eq (fun k _ => (fl_ST_HT f29 (funext fun s => hf26 60 s rfl) (funext fun s => hf26 62 s rfl) (funext fun s => hf26 63 s rfl) (funext fun s => hf26 64 s rfl) (funext fun s => hf26 66 s rfl) (funext fun s => hf26 67 s rfl) (funext fun s => hf26 68 s rfl) (funext fun s => hf26 69 s rfl) (hf26 53 10 rfl) (hf26 53 18 rfl) (hf26 53 19 rfl) ⟨by omega, by omega⟩)) (funext fun s => hf26 59 s rfl))⟩ | exact Or.inl ⟨(by unfold fl_oR; omega), (fl_re_1 (w := H21 59) (ar := h 53 8) (by omega) (by have e : H21 53 8 = h 53 8 := hf26 53 8 rfl; rw [← e]; exact fl_ia lost (by omega))).trans (fl_re_eq (fun k _ => (fl_ST_HT f29 (funext fun s => hf26 60 s rfl) (funext fun s => hf26 62 s rfl) (funext fun s => hf26 63 s rfl) (funext fun s => hf26 64 s rfl) (funext fun s => hf26 66 s rfl) (funext fun s => hf26 67 s rfl) (funext fun s => hf26 68 s rfl) (funext fun s => hf26 69 s rfl) (hf26 53 10 rfl) (hf26 53 18 rfl) (hf26 53 19 rfl) ⟨by omega, by omega⟩)) (funext fun s => hf26 59 s rfl))⟩ | exact Or.inl ⟨(by unfold fl_oR; omega), (lost.trans (fl_re_2 (w := H21 59) (ar := h 53 8) (by omega)).symm).trans (fl_re_eq (fun k _ => (fl_ST_HT f29 (funext fun s => hf26 60 s rfl) (funext fun s => hf26 62 s rfl) (funext fun s => hf26 63 s rfl) (funext fun s => hf26 64 s rfl) (funext fun s => hf26 66 s rfl) (funext fun s => hf26 67 s rfl) (funext fun s => hf26 68 s rfl) (funext fun s => hf26 69 s rfl) (hf26 53 10 rfl) (hf26 53 18 rfl) (hf26 53 19 rfl) ⟨by omega, by omega⟩)) (funext fun s => hf26 59 s rfl))⟩ | exact Or.inl ⟨(by unfold fl_oR; omega), (lost.trans (fl_re_3 (w := H21 59) (ar := h 53 8) (by omega)).symm).trans (fl_re_eq (fun k _ => (fl_ST_HT f29 (funext fun s => hf26 60 s rfl) (funext fun s => hf26 62 s rfl) (funext fun s => hf26 63 s rfl) (funext fun s => hf26 64 s rfl) (funext fun s => hf26 66 s rfl) (funext fun s => hf26 67 s rfl) (funext fun s => hf26 68 s rfl) (funext fun s => hf26 69 s rfl) (hf26 53 10 rfl) (hf26 53 18 rfl) (hf26 53 19 rfl) ⟨by omega, by omega⟩)) (funext fun s => hf26 59 s rfl))⟩ | exact Or.inr ⟨(by unfold fl_oR; omega), rfl⟩)⟩)
        · exfalso; omega
      · refine fz_if_ne (tgt := 18) kX11_received rfl (by decide) (fun c104 => ?_) (fun c104 => ?_)
        · exfalso; omega
        · refine fz_ldc (x := (-2000000000)) kX11_received rfl rfl rfl ?_
          exact fz_iret kX11_received rfl rfl (fun _ => ⟨hI, hf, hXw, hRM, hRPm, _, rfl, (by omega), (by first | exact Or.inl ⟨(by unfold fl_oR; omega), (lost.trans (fl_re_0 (ar := h 53 8) (by omega)).symm).trans (fl_re_eq (fun k _ => (fl_ST_HT lost (funext fun s => lost 60 s rfl) (funext fun s => lost 62 s rfl) (funext fun s => lost 63 s rfl) (funext fun s => lost 64 s rfl) (funext fun s => lost 66 s rfl) (funext fun s => lost 67 s rfl) (funext fun s => lost 68 s rfl) (funext fun s => lost 69 s rfl) (lost 53 10 rfl) (lost 53 18 rfl) (lost 53 19 rfl) ⟨by omega, by omega⟩)) (funext fun s => lost 59 s rfl))⟩ | exact Or.inl ⟨(by unfold fl_oR; omega), (fl_re_1 (w := lost 59) (ar := h 53 8) (by omega) (by have e : lost 53 8 = h 53 8 := lost 53 8 rfl; rw [← e]; exact fl_ia lost (by omega))).trans (fl_re_eq (fun k _ => (fl_ST_HT lost (funext fun s => lost 60 s rfl) (funext fun s => lost 62 s rfl) (funext fun s => lost 63 s rfl) (funext fun s => lost 64 s rfl) (funext fun s => lost 66 s rfl) (funext fun s => lost 67 s rfl) (funext fun s => lost 68 s rfl) (funext fun s => lost 69 s rfl) (lost 53 10 rfl) (lost 53 18 rfl) (lost 53 19 rfl) ⟨by omega, by omega⟩)) (funext fun s => lost 59 s rfl))⟩ | exact Or.inl ⟨(by unfold fl_oR; omega), (lost.trans (fl_re_2 (w := lost 59) (ar := h 53 8) (by omega)).symm).trans (fl_re_eq (fun k _ => (fl_ST_HT lost (funext fun s => lost 60 s rfl) (funext fun s => lost 62 s rfl) (funext fun s => lost 63 s rfl) (funext fun s => lost 64 s rfl) (funext fun s => lost 66 s rfl) (funext fun s => lost 67 s rfl) (funext fun s => lost 68 s rfl) (funext fun s => lost 69 s rfl) (lost 53 10 rfl) (lost 53 18 rfl) (lost 53 19 rfl) ⟨by omega, by omega⟩)) (funext fun s => lost 59 s rfl))⟩ | exact Or.inl ⟨(by unfold fl_oR; omega), (lost.trans (fl_re_3 (w := lost 59) (ar := h 53 8) (by omega)).symm).trans (fl_re_eq (fun k _ => (fl_ST_HT lost (funext fun s => lost 60 s rfl) (funext fun s => lost 62 s rfl) (funext fun s => lost 63 s rfl) (funext fun s => lost 64 s rfl) (funext fun s => lost 66 s rfl) (funext fun s => lost 67 s rfl) (funext fun s => lost 68 s rfl) (funext fun s => lost 69 s rfl) (lost 53 10 rfl) (lost 53 18 rfl) (lost 53 19 rfl) ⟨by omega, by omega⟩)) (funext fun s => lost 59 s rfl))⟩ | exact Or.inr ⟨(by unfold fl_oR; omega), rfl⟩)⟩)
  · refine fz_if_eq (tgt := 15) kX11_received rfl (by decide) (fun c106 => ?_) (fun c106 => ?_)
    · refine fz_ldc (x := (-2000000000)) kX11_received rfl rfl rfl ?_
      exact fz_iret kX11_received rfl rfl (fun _ => ⟨hI, hf, hXw, hRM, hRPm, _, rfl, (by omega), (by first | exact Or.inl ⟨(by unfold fl_oR; omega), (lost.trans (fl_re_0 (ar := h 53 8) (by omega)).symm).trans (fl_re_eq (fun k _ => (fl_ST_HT lost (funext fun s => lost 60 s rfl) (funext fun s => lost 62 s rfl) (funext fun s => lost 63 s rfl) (funext fun s => lost 64 s rfl) (funext fun s => lost 66 s rfl) (funext fun s => lost 67 s rfl) (funext fun s => lost 68 s rfl) (funext fun s => lost 69 s rfl) (lost 53 10 rfl) (lost 53 18 rfl) (lost 53 19 rfl) ⟨by omega, by omega⟩)) (funext fun s => lost 59 s rfl))⟩ | exact Or.inl ⟨(by unfold fl_oR; omega), (fl_re_1 (w := lost 59) (ar := h 53 8) (by omega) (by have e : lost 53 8 = h 53 8 := lost 53 8 rfl; rw [← e]; exact fl_ia lost (by omega))).trans (fl_re_eq (fun k _ => (fl_ST_HT lost (funext fun s => lost 60 s rfl) (funext fun s => lost 62 s rfl) (funext fun s => lost 63 s rfl) (funext fun s => lost 64 s rfl) (funext fun s => lost 66 s rfl) (funext fun s => lost 67 s rfl) (funext fun s => lost 68 s rfl) (funext fun s => lost 69 s rfl) (lost 53 10 rfl) (lost 53 18 rfl) (lost 53 19 rfl) ⟨by omega, by omega⟩)) (funext fun s => lost 59 s rfl))⟩ | exact Or.inl ⟨(by unfold fl_oR; omega), (lost.trans (fl_re_2 (w := lost 59) (ar := h 53 8) (by omega)).symm).trans (fl_re_eq (fun k _ => (fl_ST_HT lost (funext fun s => lost 60 s rfl) (funext fun s => lost 62 s rfl) (funext fun s => lost 63 s rfl) (funext fun s => lost 64 s rfl) (funext fun s => lost 66 s rfl) (funext fun s => lost 67 s rfl) (funext fun s => lost 68 s rfl) (funext fun s => lost 69 s rfl) (lost 53 10 rfl) (lost 53 18 rfl) (lost 53 19 rfl) ⟨by omega, by omega⟩)) (funext fun s => lost 59 s rfl))⟩ | exact Or.inl ⟨(by unfold fl_oR; omega), (lost.trans (fl_re_3 (w := lost 59) (ar := h 53 8) (by omega)).symm).trans (fl_re_eq (fun k _ => (fl_ST_HT lost (funext fun s => lost 60 s rfl) (funext fun s => lost 62 s rfl) (funext fun s => lost 63 s rfl) (funext fun s => lost 64 s rfl) (funext fun s => lost 66 s rfl) (funext fun s => lost 67 s rfl) (funext fun s => lost 68 s rfl) (funext fun s => lost 69 s rfl) (lost 53 10 rfl) (lost 53 18 rfl) (lost 53 19 rfl) ⟨by omega, by omega⟩)) (funext fun s => lost 59 s rfl))⟩ | exact Or.inr ⟨(by unfold fl_oR; omega), rfl⟩)⟩)
    · exfalso; omega

abbrev qX11_atHour (h : fz_H) (on hr wh : Int) : fz_H → Option fz_V → Prop := fun h' r0 => fz_Iv h' ∧ fz_fr [(74, 99999), (75, 99999), (86, 99999), (87, 99999), (88, 99999)] h h' ∧ fz_Xw h' ∧ fz_RM h' ∧ fl_RPm h' ∧ ∃ r : Int, r0 = some (fz_i r) ∧ ((-2147483648) ≤ r ∧ r ≤ 2147483647) ∧ (fl_ahM h on hr wh r)
set_option maxHeartbeats 1000000 in
set_option maxRecDepth 100000 in
theorem sX11_atHour (h : fz_H) (hI : fz_Iv h) (on hr wh : Int) (hXw : fz_Xw h) (hRM : fz_RM h) (hRPm : fl_RPm h) : fz_R 5 mX11_atHour 0 [(0, fz_r 53), (1, fz_i on), (2, fz_i hr), (3, fz_i wh)] [] h (qX11_atHour h on hr wh) := by
  refine fz_knowl (fun hk => ?_)
  have hr_on : -2147483648 ≤ on ∧ on < 2147483648 := hk _ (List.Mem.tail _ (List.Mem.head _))
  have hr_hr : -2147483648 ≤ hr ∧ hr < 2147483648 := hk _ (List.Mem.tail _ (List.Mem.tail _ (List.Mem.head _)))
  have hr_wh : -2147483648 ≤ wh ∧ wh < 2147483648 := hk _ (List.Mem.tail _ (List.Mem.tail _ (List.Mem.tail _ (List.Mem.head _))))
  clear hk
  have hf : fz_fr [(74, 99999), (75, 99999), (86, 99999), (87, 99999), (88, 99999)] h h := fz_fr_rf
  have k1 : 0 ≤ h 53 0 ∧ h 53 0 ≤ 8 := hI.1 53 _
  refine fz_iload_n kX11_atHour rfl rfl ?_
  refine fz_callS (d' := 1) (M' := mX11_isPerson) (As := [fz_i on]) (st := []) kX11_atHour rfl rfl vX11_isPerson rfl rfl (Nat.le_of_ble_eq_true rfl) (Nat.le_of_ble_eq_true rfl) (by decide) (sX11_isPerson h hI on ) (fun H2 r3 q4 o5 => ?_)
  obtain ⟨e6, y7, rfl, p8⟩ := q4
  subst H2
  clear o5
  rcases p8 with ⟨rfl, c9⟩ | ⟨rfl, c9⟩
  · refine fz_if_eq (tgt := 23) kX11_atHour rfl (by decide) (fun c10 => ?_) (fun c10 => ?_)
    · exfalso; omega
    · refine fz_iload_n kX11_atHour rfl rfl ?_
      refine fz_callS (d' := 1) (M' := mX11_isHour) (As := [fz_i hr]) (st := []) kX11_atHour rfl rfl vX11_isHour rfl rfl (Nat.le_of_ble_eq_true rfl) (Nat.le_of_ble_eq_true rfl) (by decide) (sX11_isHour h hI hr ) (fun H11 r12 q13 o14 => ?_)
      obtain ⟨e15, y16, rfl, p17⟩ := q13
      subst H11
      clear o14
      rcases p17 with ⟨rfl, c18⟩ | ⟨rfl, c18⟩
      · refine fz_if_eq (tgt := 23) kX11_atHour rfl (by decide) (fun c19 => ?_) (fun c19 => ?_)
        · exfalso; omega
        · refine fz_iload_n kX11_atHour rfl rfl ?_
          refine fz_iconst ⟨by decide, by decide⟩ kX11_atHour rfl ?_
          refine fz_iconst ⟨by decide, by decide⟩ kX11_atHour rfl ?_
          refine fz_callS (d' := 0) (M' := mX11_within) (As := [fz_i wh, fz_i 0, fz_i 2]) (st := []) kX11_atHour rfl rfl vX11_within rfl rfl (Nat.le_of_ble_eq_true rfl) (Nat.le_of_ble_eq_true rfl) (by decide) (sX11_within h hI wh 0 2 ) (fun H20 r21 q22 o23 => ?_)
          obtain ⟨e24, y25, rfl, p26⟩ := q22
          subst H20
          clear o23
          rcases p26 with ⟨rfl, c27⟩ | ⟨rfl, c27⟩
          · refine fz_if_ne (tgt := 25) kX11_atHour rfl (by decide) (fun c28 => ?_) (fun c28 => ?_)
            · refine fz_aload_n kX11_atHour rfl rfl ?_
              have b29 : 0 ≤ h 53 10 ∧ h 53 10 ≤ 11 := hI.1 53 _
              refine fz_callV (d' := 3) (M' := mX11_allHear) (As := []) (st := []) kX11_atHour rfl rfl vX11_allHear rfl rfl rfl rfl (Nat.le_of_ble_eq_true rfl) (Nat.le_of_ble_eq_true rfl) (by decide) (sX11_allHear h hI  hRM hRPm) (fun H30 r31 q32 o33 => ?_)
              obtain ⟨hI34, hf35, hRM36, hRPm37, rfl, f38⟩ := q32
              clear o33
              have hf39 := fz_fr_tr hf hf35 (show fz_su [(86, 99999), (87, 99999), (88, 99999)] [(74, 99999), (75, 99999), (86, 99999), (87, 99999), (88, 99999)] = true from rfl)
              have hXw40 : fz_Xw H30 := fz_Xw_eq (hf35 53 19 rfl) (funext fun s => hf35 66 s rfl) (funext fun s => hf35 67 s rfl) (funext fun s => hf35 68 s rfl) (funext fun s => hf35 69 s rfl) hXw
              have t41 : H30 53 0 = h 53 0 := hf35 53 0 rfl
              have hHB42 : fl_HB H30 := fl_HB_of2 f38 (funext fun s => hf35 62 s rfl) (hf35 53 10 rfl) (hf35 53 0 rfl) (funext fun s => hf35 54 s rfl) (fun q => (hI34.1 54 q).1)
              have hHT44 : fl_HTh h H30 := f38
              refine fz_iconst ⟨by decide, by decide⟩ kX11_atHour rfl ?_
              refine fz_istore (ls' := [(4, fz_i 0), (0, fz_r 53), (1, fz_i on), (2, fz_i hr), (3, fz_i wh)]) kX11_atHour rfl (by decide) rfl ?_
              refine fz_bipush ⟨by decide, by decide⟩ kX11_atHour rfl ?_
              refine fz_istore (ls' := [(5, fz_i (-2)), (4, fz_i 0), (0, fz_r 53), (1, fz_i on), (2, fz_i hr), (3, fz_i wh)]) kX11_atHour rfl (by decide) rfl ?_
              refine fz_iconst ⟨by decide, by decide⟩ kX11_atHour rfl ?_
              refine fz_istore (ls' := [(6, fz_i 0), (5, fz_i (-2)), (4, fz_i 0), (0, fz_r 53), (1, fz_i on), (2, fz_i hr), (3, fz_i wh)]) kX11_atHour rfl (by decide) rfl ?_
              have lp58 : ∀ (n57 : Nat) (x46 : Int) (x47 : Int) (x48 : Int) (H54 : fz_H), fz_Iv H54 → fz_fr [(74, 99999), (75, 99999), (86, 99999), (87, 99999), (88, 99999)] h H54 → fz_Xw H54 → fz_RM H54 → fl_RPm H54 → fl_HB H54 → fl_HTh h H54 → (0 ≤ x46 ∧ x46 ≤ 2147483647) → ((-2) ≤ x47 ∧ x47 ≤ 7) → ((-2147483648) ≤ x48 ∧ x48 ≤ 2147483647) → (x47 ≠ -1) → (x47 < h 53 0) → (x46 ≤ h 53 0) → (x48 = fl_tb (fl_cM h on hr wh) (x46).toNat) → (fl_bI (fl_reM h on hr) x46 x47) → ((h 53 0) - x46).toNat < n57 → fz_R 5 mX11_atHour 39 [(6, fz_i x46), (5, fz_i x47), (4, fz_i x48), (0, fz_r 53), (1, fz_i on), (2, fz_i hr), (3, fz_i wh)] [] H54 (qX11_atHour h on hr wh) := by
                intro n57
                induction n57 with
                | zero => intro x46 x47 x48 H54 hI55 hf56 hXw49 hRM50 hRPm51 hHB52 hHT53 hv61 hv62 hv63 hv64 hv65 hv66 hv67 hv68 hm60; exact absurd hm60 (by omega)
                | succ n57 ih59 =>
                  intro x46 x47 x48 H54 hI55 hf56 hXw49 hRM50 hRPm51 hHB52 hHT53 hv61 hv62 hv63 hv64 hv65 hv66 hv67 hv68 hm60
                  refine fz_iload kX11_atHour rfl rfl ?_
                  refine fz_aload_n kX11_atHour rfl rfl ?_
                  refine fz_getV (v := h 53 0) kX11_atHour rfl rfl (hf56 53 0 rfl) ?_
                  have b69 : 0 ≤ h 53 0 ∧ h 53 0 ≤ 8 := hI.1 53 _
                  refine fz_icmp_ge (tgt := 122) kX11_atHour rfl (by decide) (fun c70 => ?_) (fun c70 => ?_)
                  · refine fz_iload_n kX11_atHour rfl rfl ?_
                    refine fz_iconst ⟨by decide, by decide⟩ kX11_atHour rfl ?_
                    refine fz_icmp_ne (tgt := 132) kX11_atHour rfl (by decide) (fun c71 => ?_) (fun c71 => ?_)
                    · refine fz_iload kX11_atHour rfl rfl ?_
                      exact fz_iret kX11_atHour rfl rfl (fun _ => ⟨hI55, hf56, hXw49, hRM50, hRPm51, _, rfl, (by omega), (by first | exact Or.inl ⟨(by unfold fl_ohA; omega), fl_ahx_2 (by omega) (fl_bI_e hv68 (by omega))⟩ | exact Or.inl ⟨(by unfold fl_ohA; omega), fl_ahx_1 (by omega) (fl_at (f := fl_tb (fl_cM h on hr wh)) hv67 (by omega))⟩ | exact Or.inr ⟨(by unfold fl_ohA; omega), rfl⟩)⟩)
                    · refine fz_iload kX11_atHour rfl rfl ?_
                      refine fz_goto (tgt := 134) kX11_atHour rfl (by decide) ?_
                      exact fz_iret kX11_atHour rfl rfl (fun _ => ⟨hI55, hf56, hXw49, hRM50, hRPm51, _, rfl, (by omega), (by first | exact Or.inl ⟨(by unfold fl_ohA; omega), fl_ahx_2 (by omega) (fl_bI_e hv68 (by omega))⟩ | exact Or.inl ⟨(by unfold fl_ohA; omega), fl_ahx_1 (by omega) (fl_at (f := fl_tb (fl_cM h on hr wh)) hv67 (by omega))⟩ | exact Or.inr ⟨(by unfold fl_ohA; omega), rfl⟩)⟩)
                  · refine fz_iload_n kX11_atHour rfl rfl ?_
                    refine fz_if_ne (tgt := 66) kX11_atHour rfl (by decide) (fun c74 => ?_) (fun c74 => ?_)
                    · refine fz_aload_n kX11_atHour rfl rfl ?_
                      refine fz_iload_n kX11_atHour rfl rfl ?_
                      refine fz_iload kX11_atHour rfl rfl ?_
                      refine fz_iload_n kX11_atHour rfl rfl ?_
                      have b75 : 0 ≤ h 53 8 ∧ h 53 8 ≤ 99 := hI.1 53 _
                      have e76 : H54 53 0 = h 53 0 := hf56 53 0 rfl
                      have e77 : H54 53 8 = h 53 8 := hf56 53 8 rfl
                      refine fz_callV (d' := 4) (M' := mX11_isArrested) (As := [fz_i on, fz_i x46, fz_i hr]) (st := []) kX11_atHour rfl rfl vX11_isArrested rfl rfl rfl rfl (Nat.le_of_ble_eq_true rfl) (Nat.le_of_ble_eq_true rfl) (by decide) (sX11_isArrested H54 hI55 on x46 hr hXw49 hHB52 (by omega) (by omega)) (fun H78 r79 q80 o81 => ?_)
                      obtain ⟨hI82, hf83, hXw84, hHB85, y87, rfl, p88, f86⟩ := q80
                      clear o81
                      have hf89 := fz_fr_tr hf56 hf83 (show fz_su [(74, 99999), (75, 99999)] [(74, 99999), (75, 99999), (86, 99999), (87, 99999), (88, 99999)] = true from rfl)
                      have hRM90 : fz_RM H78 := fz_RM_eq (funext fun s => hf83 55 s rfl) (funext fun s => hf83 56 s rfl) (hf83 53 0 rfl) (hf83 53 2 rfl) hRM50
                      have hRPm91 : fl_RPm H78 := fl_RPm_eq (funext fun s => hf83 61 s rfl) (hf83 53 10 rfl) (hf83 53 0 rfl) hRPm51
                      have hHT92 : fl_HTh h H78 := fl_HTh_eq (funext fun s => hf83 88 s rfl) hHT53
                      have t93 : H78 53 0 = H54 53 0 := hf83 53 0 rfl
                      have k94 := fl_iM_in hf56 rfl hHT53 ⟨by omega, by omega⟩ f86
                      refine fz_if_eq (tgt := 86) kX11_atHour rfl (by decide) (fun c96 => ?_) (fun c96 => ?_)
                      · refine fz_iload kX11_atHour rfl rfl ?_
                        refine fz_bipush ⟨by decide, by decide⟩ kX11_atHour rfl ?_
                        refine fz_icmp_eq (tgt := 112) kX11_atHour rfl (by decide) (fun c97 => ?_) (fun c97 => ?_)
                        · refine fz_iload kX11_atHour rfl rfl ?_
                          refine fz_istore (ls' := [(5, fz_i x46), (6, fz_i x46), (4, fz_i x48), (0, fz_r 53), (1, fz_i on), (2, fz_i hr), (3, fz_i wh)]) kX11_atHour rfl (by decide) rfl ?_
                          refine fz_iincN (ls' := [(6, fz_i (x46 + 1)), (5, fz_i x46), (4, fz_i x48), (0, fz_r 53), (1, fz_i on), (2, fz_i hr), (3, fz_i wh)]) kX11_atHour rfl (by decide) rfl (by omega) rfl ?_
                          refine fz_goto (tgt := 39) kX11_atHour rfl (by decide) ?_
                          exact ih59 (x46 + 1) x46 x48 H78 hI82 hf89 hXw84 hRM90 hRPm91 hHB85 hHT92 (by omega) (by omega) (by omega) (by omega) (by omega) (by omega) (by first | exact fl_tb_1 hv67 (by omega) (fl_cM_m (by omega) lost (Or.inl ⟨by omega, rfl⟩)) | exact fl_tb_0 hv67 (by omega) (fl_cM_m (by omega) lost (Or.inr ⟨by omega, rfl⟩)) | exact fl_tb_1 hv67 (by omega) (fl_cM_a (by omega) k94 (Or.inl ⟨by omega, rfl⟩)) | exact fl_tb_0 hv67 (by omega) (fl_cM_a (by omega) k94 (Or.inr ⟨by omega, rfl⟩))) (by first | exact fl_bI_0 hv68 (by omega) (by omega) | exact fl_bI_y hv68 (by omega) lost lost (by omega) (by omega) | exact fl_bI_n hv68 (by omega) lost lost (by omega) (by omega)) (by omega)
                        · refine fz_aload_n kX11_atHour rfl rfl ?_
                          refine fz_iload_n kX11_atHour rfl rfl ?_
                          refine fz_iload kX11_atHour rfl rfl ?_
                          refine fz_iload_n kX11_atHour rfl rfl ?_
                          have e100 : H78 53 0 = h 53 0 := hf89 53 0 rfl
                          refine fz_callV (d' := 4) (M' := mX11_receivedIn) (As := [fz_i on, fz_i x46, fz_i hr]) (st := []) kX11_atHour rfl rfl vX11_receivedIn rfl rfl rfl rfl (Nat.le_of_ble_eq_true rfl) (Nat.le_of_ble_eq_true rfl) (by decide) (sX11_receivedIn H78 hI82 on x46 hr hXw84 hHB85 (by omega) (by omega)) (fun H101 r102 q103 o104 => ?_)
                          obtain ⟨hI105, hf106, hXw107, hHB108, y111, rfl, f109, f110⟩ := q103
                          clear o104
                          have hf112 := fz_fr_tr hf89 hf106 (show fz_su [(74, 99999), (75, 99999)] [(74, 99999), (75, 99999), (86, 99999), (87, 99999), (88, 99999)] = true from rfl)
                          have hRM113 : fz_RM H101 := fz_RM_eq (funext fun s => hf106 55 s rfl) (funext fun s => hf106 56 s rfl) (hf106 53 0 rfl) (hf106 53 2 rfl) hRM90
                          have hRPm114 : fl_RPm H101 := fl_RPm_eq (funext fun s => hf106 61 s rfl) (hf106 53 10 rfl) (hf106 53 0 rfl) hRPm91
                          have hHT115 : fl_HTh h H101 := fl_HTh_eq (funext fun s => hf106 88 s rfl) hHT92
                          have t116 : H101 53 0 = H78 53 0 := hf106 53 0 rfl
                          have k117 : y111 = fl_reM h on hr x46 := fl_reM_in hf89 rfl hHT92 ⟨by omega, by omega⟩ f110
                          refine fz_aload_n kX11_atHour rfl rfl ?_
                          refine fz_iload_n kX11_atHour rfl rfl ?_
                          refine fz_iload kX11_atHour rfl rfl ?_
                          refine fz_iload_n kX11_atHour rfl rfl ?_
                          have e119 : H101 53 0 = h 53 0 := hf112 53 0 rfl
                          refine fz_callV (d' := 4) (M' := mX11_receivedIn) (As := [fz_i on, fz_i x47, fz_i hr]) (st := [fz_i y111]) kX11_atHour rfl rfl vX11_receivedIn rfl rfl rfl rfl (Nat.le_of_ble_eq_true rfl) (Nat.le_of_ble_eq_true rfl) (by decide) (sX11_receivedIn H101 hI105 on x47 hr hXw107 hHB108 (by omega) (by omega)) (fun H120 r121 q122 o123 => ?_)
                          obtain ⟨hI124, hf125, hXw126, hHB127, y130, rfl, f128, f129⟩ := q122
                          clear o123
                          have hf131 := fz_fr_tr hf112 hf125 (show fz_su [(74, 99999), (75, 99999)] [(74, 99999), (75, 99999), (86, 99999), (87, 99999), (88, 99999)] = true from rfl)
                          have hRM132 : fz_RM H120 := fz_RM_eq (funext fun s => hf125 55 s rfl) (funext fun s => hf125 56 s rfl) (hf125 53 0 rfl) (hf125 53 2 rfl) hRM113
                          have hRPm133 : fl_RPm H120 := fl_RPm_eq (funext fun s => hf125 61 s rfl) (hf125 53 10 rfl) (hf125 53 0 rfl) hRPm114
                          have hHT134 : fl_HTh h H120 := fl_HTh_eq (funext fun s => hf125 88 s rfl) hHT115
                          have t135 : H120 53 0 = H101 53 0 := hf125 53 0 rfl
                          have k136 : y130 = fl_reM h on hr x47 := fl_reM_in hf112 rfl hHT115 ⟨by omega, by omega⟩ f129
                          refine fz_icmp_le (tgt := 116) kX11_atHour rfl (by decide) (fun c138 => ?_) (fun c138 => ?_)
                          · refine fz_iincN (ls' := [(6, fz_i (x46 + 1)), (5, fz_i x47), (4, fz_i x48), (0, fz_r 53), (1, fz_i on), (2, fz_i hr), (3, fz_i wh)]) kX11_atHour rfl (by decide) rfl (by omega) rfl ?_
                            refine fz_goto (tgt := 39) kX11_atHour rfl (by decide) ?_
                            exact ih59 (x46 + 1) x47 x48 H120 hI124 hf131 hXw126 hRM132 hRPm133 hHB127 hHT134 (by omega) (by omega) (by omega) (by omega) (by omega) (by omega) (by first | exact fl_tb_1 hv67 (by omega) (fl_cM_m (by omega) lost (Or.inl ⟨by omega, rfl⟩)) | exact fl_tb_0 hv67 (by omega) (fl_cM_m (by omega) lost (Or.inr ⟨by omega, rfl⟩)) | exact fl_tb_1 hv67 (by omega) (fl_cM_a (by omega) k94 (Or.inl ⟨by omega, rfl⟩)) | exact fl_tb_0 hv67 (by omega) (fl_cM_a (by omega) k94 (Or.inr ⟨by omega, rfl⟩))) (by first | exact fl_bI_0 hv68 (by omega) (by omega) | exact fl_bI_y hv68 (by omega) k117 k136 (by omega) (by omega) | exact fl_bI_n hv68 (by omega) k117 k136 (by omega) (by omega)) (by omega)
                          · refine fz_iload kX11_atHour rfl rfl ?_
                            refine fz_istore (ls' := [(5, fz_i x46), (6, fz_i x46), (4, fz_i x48), (0, fz_r 53), (1, fz_i on), (2, fz_i hr), (3, fz_i wh)]) kX11_atHour rfl (by decide) rfl ?_
                            refine fz_iincN (ls' := [(6, fz_i (x46 + 1)), (5, fz_i x46), (4, fz_i x48), (0, fz_r 53), (1, fz_i on), (2, fz_i hr), (3, fz_i wh)]) kX11_atHour rfl (by decide) rfl (by omega) rfl ?_
                            refine fz_goto (tgt := 39) kX11_atHour rfl (by decide) ?_
                            exact ih59 (x46 + 1) x46 x48 H120 hI124 hf131 hXw126 hRM132 hRPm133 hHB127 hHT134 (by omega) (by omega) (by omega) (by omega) (by omega) (by omega) (by first | exact fl_tb_1 hv67 (by omega) (fl_cM_m (by omega) lost (Or.inl ⟨by omega, rfl⟩)) | exact fl_tb_0 hv67 (by omega) (fl_cM_m (by omega) lost (Or.inr ⟨by omega, rfl⟩)) | exact fl_tb_1 hv67 (by omega) (fl_cM_a (by omega) k94 (Or.inl ⟨by omega, rfl⟩)) | exact fl_tb_0 hv67 (by omega) (fl_cM_a (by omega) k94 (Or.inr ⟨by omega, rfl⟩))) (by first | exact fl_bI_0 hv68 (by omega) (by omega) | exact fl_bI_y hv68 (by omega) k117 k136 (by omega) (by omega) | exact fl_bI_n hv68 (by omega) k117 k136 (by omega) (by omega)) (by omega)
                      · refine fz_iload kX11_atHour rfl rfl ?_
                        refine fz_iconst ⟨by decide, by decide⟩ kX11_atHour rfl ?_
                        refine fz_iload kX11_atHour rfl rfl ?_
                        refine fz_ishl kX11_atHour rfl ?_
                        have b143 : -2147483648 ≤ (fz_shl 1 x46) ∧ (fz_shl 1 x46) < 2147483648 := fz_b32 _
                        refine fz_ior kX11_atHour rfl ?_
                        have b144 : -2147483648 ≤ (fz_or x48 (fz_shl 1 x46)) ∧ (fz_or x48 (fz_shl 1 x46)) < 2147483648 := fz_b32 _
                        refine fz_istore (ls' := [(4, fz_i (fz_or x48 (fz_shl 1 x46))), (6, fz_i x46), (5, fz_i x47), (0, fz_r 53), (1, fz_i on), (2, fz_i hr), (3, fz_i wh)]) kX11_atHour rfl (by decide) rfl ?_
                        refine fz_iload kX11_atHour rfl rfl ?_
                        refine fz_bipush ⟨by decide, by decide⟩ kX11_atHour rfl ?_
                        refine fz_icmp_eq (tgt := 112) kX11_atHour rfl (by decide) (fun c145 => ?_) (fun c145 => ?_)
                        · refine fz_iload kX11_atHour rfl rfl ?_
                          refine fz_istore (ls' := [(5, fz_i x46), (4, fz_i (fz_or x48 (fz_shl 1 x46))), (6, fz_i x46), (0, fz_r 53), (1, fz_i on), (2, fz_i hr), (3, fz_i wh)]) kX11_atHour rfl (by decide) rfl ?_
                          refine fz_iincN (ls' := [(6, fz_i (x46 + 1)), (5, fz_i x46), (4, fz_i (fz_or x48 (fz_shl 1 x46))), (0, fz_r 53), (1, fz_i on), (2, fz_i hr), (3, fz_i wh)]) kX11_atHour rfl (by decide) rfl (by omega) rfl ?_
                          refine fz_goto (tgt := 39) kX11_atHour rfl (by decide) ?_
                          exact ih59 (x46 + 1) x46 (fz_or x48 (fz_shl 1 x46)) H78 hI82 hf89 hXw84 hRM90 hRPm91 hHB85 hHT92 (by omega) (by omega) (by omega) (by omega) (by omega) (by omega) (by first | exact fl_tb_1 hv67 (by omega) (fl_cM_m (by omega) lost (Or.inl ⟨by omega, rfl⟩)) | exact fl_tb_0 hv67 (by omega) (fl_cM_m (by omega) lost (Or.inr ⟨by omega, rfl⟩)) | exact fl_tb_1 hv67 (by omega) (fl_cM_a (by omega) k94 (Or.inl ⟨by omega, rfl⟩)) | exact fl_tb_0 hv67 (by omega) (fl_cM_a (by omega) k94 (Or.inr ⟨by omega, rfl⟩))) (by first | exact fl_bI_0 hv68 (by omega) (by omega) | exact fl_bI_y hv68 (by omega) lost lost (by omega) (by omega) | exact fl_bI_n hv68 (by omega) lost lost (by omega) (by omega)) (by omega)
                        · refine fz_aload_n kX11_atHour rfl rfl ?_
                          refine fz_iload_n kX11_atHour rfl rfl ?_
                          refine fz_iload kX11_atHour rfl rfl ?_
                          refine fz_iload_n kX11_atHour rfl rfl ?_
                          have e148 : H78 53 0 = h 53 0 := hf89 53 0 rfl
                          refine fz_callV (d' := 4) (M' := mX11_receivedIn) (As := [fz_i on, fz_i x46, fz_i hr]) (st := []) kX11_atHour rfl rfl vX11_receivedIn rfl rfl rfl rfl (Nat.le_of_ble_eq_true rfl) (Nat.le_of_ble_eq_true rfl) (by decide) (sX11_receivedIn H78 hI82 on x46 hr hXw84 hHB85 (by omega) (by omega)) (fun H149 r150 q151 o152 => ?_)
                          obtain ⟨hI153, hf154, hXw155, hHB156, y159, rfl, f157, f158⟩ := q151
                          clear o152
                          have hf160 := fz_fr_tr hf89 hf154 (show fz_su [(74, 99999), (75, 99999)] [(74, 99999), (75, 99999), (86, 99999), (87, 99999), (88, 99999)] = true from rfl)
                          have hRM161 : fz_RM H149 := fz_RM_eq (funext fun s => hf154 55 s rfl) (funext fun s => hf154 56 s rfl) (hf154 53 0 rfl) (hf154 53 2 rfl) hRM90
                          have hRPm162 : fl_RPm H149 := fl_RPm_eq (funext fun s => hf154 61 s rfl) (hf154 53 10 rfl) (hf154 53 0 rfl) hRPm91
                          have hHT163 : fl_HTh h H149 := fl_HTh_eq (funext fun s => hf154 88 s rfl) hHT92
                          have t164 : H149 53 0 = H78 53 0 := hf154 53 0 rfl
                          have k165 : y159 = fl_reM h on hr x46 := fl_reM_in hf89 rfl hHT92 ⟨by omega, by omega⟩ f158
                          refine fz_aload_n kX11_atHour rfl rfl ?_
                          refine fz_iload_n kX11_atHour rfl rfl ?_
                          refine fz_iload kX11_atHour rfl rfl ?_
                          refine fz_iload_n kX11_atHour rfl rfl ?_
                          have e167 : H149 53 0 = h 53 0 := hf160 53 0 rfl
                          refine fz_callV (d' := 4) (M' := mX11_receivedIn) (As := [fz_i on, fz_i x47, fz_i hr]) (st := [fz_i y159]) kX11_atHour rfl rfl vX11_receivedIn rfl rfl rfl rfl (Nat.le_of_ble_eq_true rfl) (Nat.le_of_ble_eq_true rfl) (by decide) (sX11_receivedIn H149 hI153 on x47 hr hXw155 hHB156 (by omega) (by omega)) (fun H168 r169 q170 o171 => ?_)
                          obtain ⟨hI172, hf173, hXw174, hHB175, y178, rfl, f176, f177⟩ := q170
                          clear o171
                          have hf179 := fz_fr_tr hf160 hf173 (show fz_su [(74, 99999), (75, 99999)] [(74, 99999), (75, 99999), (86, 99999), (87, 99999), (88, 99999)] = true from rfl)
                          have hRM180 : fz_RM H168 := fz_RM_eq (funext fun s => hf173 55 s rfl) (funext fun s => hf173 56 s rfl) (hf173 53 0 rfl) (hf173 53 2 rfl) hRM161
                          have hRPm181 : fl_RPm H168 := fl_RPm_eq (funext fun s => hf173 61 s rfl) (hf173 53 10 rfl) (hf173 53 0 rfl) hRPm162
                          have hHT182 : fl_HTh h H168 := fl_HTh_eq (funext fun s => hf173 88 s rfl) hHT163
                          have t183 : H168 53 0 = H149 53 0 := hf173 53 0 rfl
                          have k184 : y178 = fl_reM h on hr x47 := fl_reM_in hf160 rfl hHT163 ⟨by omega, by omega⟩ f177
                          refine fz_icmp_le (tgt := 116) kX11_atHour rfl (by decide) (fun c186 => ?_) (fun c186 => ?_)
                          · refine fz_iincN (ls' := [(6, fz_i (x46 + 1)), (4, fz_i (fz_or x48 (fz_shl 1 x46))), (5, fz_i x47), (0, fz_r 53), (1, fz_i on), (2, fz_i hr), (3, fz_i wh)]) kX11_atHour rfl (by decide) rfl (by omega) rfl ?_
                            refine fz_goto (tgt := 39) kX11_atHour rfl (by decide) ?_
                            refine fz_sub (fz_pk_sub (ls' := [(6, fz_i (x46 + 1)), (5, fz_i x47), (4, fz_i (fz_or x48 (fz_shl 1 x46))), (0, fz_r 53), (1, fz_i on), (2, fz_i hr), (3, fz_i wh)]) [0, 2, 1, 3, 4, 5, 6] rfl) ?_
                            exact ih59 (x46 + 1) x47 (fz_or x48 (fz_shl 1 x46)) H168 hI172 hf179 hXw174 hRM180 hRPm181 hHB175 hHT182 (by omega) (by omega) (by omega) (by omega) (by omega) (by omega) (by first | exact fl_tb_1 hv67 (by omega) (fl_cM_m (by omega) lost (Or.inl ⟨by omega, rfl⟩)) | exact fl_tb_0 hv67 (by omega) (fl_cM_m (by omega) lost (Or.inr ⟨by omega, rfl⟩)) | exact fl_tb_1 hv67 (by omega) (fl_cM_a (by omega) k94 (Or.inl ⟨by omega, rfl⟩)) | exact fl_tb_0 hv67 (by omega) (fl_cM_a (by omega) k94 (Or.inr ⟨by omega, rfl⟩))) (by first | exact fl_bI_0 hv68 (by omega) (by omega) | exact fl_bI_y hv68 (by omega) k165 k184 (by omega) (by omega) | exact fl_bI_n hv68 (by omega) k165 k184 (by omega) (by omega)) (by omega)
                          · refine fz_iload kX11_atHour rfl rfl ?_
                            refine fz_istore (ls' := [(5, fz_i x46), (4, fz_i (fz_or x48 (fz_shl 1 x46))), (6, fz_i x46), (0, fz_r 53), (1, fz_i on), (2, fz_i hr), (3, fz_i wh)]) kX11_atHour rfl (by decide) rfl ?_
                            refine fz_iincN (ls' := [(6, fz_i (x46 + 1)), (5, fz_i x46), (4, fz_i (fz_or x48 (fz_shl 1 x46))), (0, fz_r 53), (1, fz_i on), (2, fz_i hr), (3, fz_i wh)]) kX11_atHour rfl (by decide) rfl (by omega) rfl ?_
                            refine fz_goto (tgt := 39) kX11_atHour rfl (by decide) ?_
                            exact ih59 (x46 + 1) x46 (fz_or x48 (fz_shl 1 x46)) H168 hI172 hf179 hXw174 hRM180 hRPm181 hHB175 hHT182 (by omega) (by omega) (by omega) (by omega) (by omega) (by omega) (by first | exact fl_tb_1 hv67 (by omega) (fl_cM_m (by omega) lost (Or.inl ⟨by omega, rfl⟩)) | exact fl_tb_0 hv67 (by omega) (fl_cM_m (by omega) lost (Or.inr ⟨by omega, rfl⟩)) | exact fl_tb_1 hv67 (by omega) (fl_cM_a (by omega) k94 (Or.inl ⟨by omega, rfl⟩)) | exact fl_tb_0 hv67 (by omega) (fl_cM_a (by omega) k94 (Or.inr ⟨by omega, rfl⟩))) (by first | exact fl_bI_0 hv68 (by omega) (by omega) | exact fl_bI_y hv68 (by omega) k165 k184 (by omega) (by omega) | exact fl_bI_n hv68 (by omega) k165 k184 (by omega) (by omega)) (by omega)
                    · refine fz_aload_n kX11_atHour rfl rfl ?_
                      refine fz_iload_n kX11_atHour rfl rfl ?_
                      refine fz_iload kX11_atHour rfl rfl ?_
                      refine fz_iload_n kX11_atHour rfl rfl ?_
                      have e191 : H54 53 0 = h 53 0 := hf56 53 0 rfl
                      refine fz_callV (d' := 4) (M' := mX11_marksIn) (As := [fz_i on, fz_i x46, fz_i hr]) (st := []) kX11_atHour rfl rfl vX11_marksIn rfl rfl rfl rfl (Nat.le_of_ble_eq_true rfl) (Nat.le_of_ble_eq_true rfl) (by decide) (sX11_marksIn H54 hI55 on x46 hr hXw49 hHB52 (by omega) (by omega)) (fun H192 r193 q194 o195 => ?_)
                      obtain ⟨hI196, hf197, hXw198, hHB199, y202, rfl, f200, f201⟩ := q194
                      clear o195
                      have hf203 := fz_fr_tr hf56 hf197 (show fz_su [(74, 99999), (75, 99999)] [(74, 99999), (75, 99999), (86, 99999), (87, 99999), (88, 99999)] = true from rfl)
                      have hRM204 : fz_RM H192 := fz_RM_eq (funext fun s => hf197 55 s rfl) (funext fun s => hf197 56 s rfl) (hf197 53 0 rfl) (hf197 53 2 rfl) hRM50
                      have hRPm205 : fl_RPm H192 := fl_RPm_eq (funext fun s => hf197 61 s rfl) (hf197 53 10 rfl) (hf197 53 0 rfl) hRPm51
                      have hHT206 : fl_HTh h H192 := fl_HTh_eq (funext fun s => hf197 88 s rfl) hHT53
                      have t207 : H192 53 0 = H54 53 0 := hf197 53 0 rfl
                      have k208 := fl_uM_in hf56 rfl hHT53 ⟨by omega, by omega⟩ f201
                      refine fz_if_ne (tgt := 86) kX11_atHour rfl (by decide) (fun c210 => ?_) (fun c210 => ?_)
                      · refine fz_iload kX11_atHour rfl rfl ?_
                        refine fz_bipush ⟨by decide, by decide⟩ kX11_atHour rfl ?_
                        refine fz_icmp_eq (tgt := 112) kX11_atHour rfl (by decide) (fun c211 => ?_) (fun c211 => ?_)
                        · refine fz_iload kX11_atHour rfl rfl ?_
                          refine fz_istore (ls' := [(5, fz_i x46), (6, fz_i x46), (4, fz_i x48), (0, fz_r 53), (1, fz_i on), (2, fz_i hr), (3, fz_i wh)]) kX11_atHour rfl (by decide) rfl ?_
                          refine fz_iincN (ls' := [(6, fz_i (x46 + 1)), (5, fz_i x46), (4, fz_i x48), (0, fz_r 53), (1, fz_i on), (2, fz_i hr), (3, fz_i wh)]) kX11_atHour rfl (by decide) rfl (by omega) rfl ?_
                          refine fz_goto (tgt := 39) kX11_atHour rfl (by decide) ?_
                          exact ih59 (x46 + 1) x46 x48 H192 hI196 hf203 hXw198 hRM204 hRPm205 hHB199 hHT206 (by omega) (by omega) (by omega) (by omega) (by omega) (by omega) (by first | exact fl_tb_1 hv67 (by omega) (fl_cM_m (by omega) k208 (Or.inl ⟨by omega, rfl⟩)) | exact fl_tb_0 hv67 (by omega) (fl_cM_m (by omega) k208 (Or.inr ⟨by omega, rfl⟩)) | exact fl_tb_1 hv67 (by omega) (fl_cM_a (by omega) lost (Or.inl ⟨by omega, rfl⟩)) | exact fl_tb_0 hv67 (by omega) (fl_cM_a (by omega) lost (Or.inr ⟨by omega, rfl⟩))) (by first | exact fl_bI_0 hv68 (by omega) (by omega) | exact fl_bI_y hv68 (by omega) lost lost (by omega) (by omega) | exact fl_bI_n hv68 (by omega) lost lost (by omega) (by omega)) (by omega)
                        · refine fz_aload_n kX11_atHour rfl rfl ?_
                          refine fz_iload_n kX11_atHour rfl rfl ?_
                          refine fz_iload kX11_atHour rfl rfl ?_
                          refine fz_iload_n kX11_atHour rfl rfl ?_
                          have e214 : H192 53 0 = h 53 0 := hf203 53 0 rfl
                          refine fz_callV (d' := 4) (M' := mX11_receivedIn) (As := [fz_i on, fz_i x46, fz_i hr]) (st := []) kX11_atHour rfl rfl vX11_receivedIn rfl rfl rfl rfl (Nat.le_of_ble_eq_true rfl) (Nat.le_of_ble_eq_true rfl) (by decide) (sX11_receivedIn H192 hI196 on x46 hr hXw198 hHB199 (by omega) (by omega)) (fun H215 r216 q217 o218 => ?_)
                          obtain ⟨hI219, hf220, hXw221, hHB222, y225, rfl, f223, f224⟩ := q217
                          clear o218
                          have hf226 := fz_fr_tr hf203 hf220 (show fz_su [(74, 99999), (75, 99999)] [(74, 99999), (75, 99999), (86, 99999), (87, 99999), (88, 99999)] = true from rfl)
                          have hRM227 : fz_RM H215 := fz_RM_eq (funext fun s => hf220 55 s rfl) (funext fun s => hf220 56 s rfl) (hf220 53 0 rfl) (hf220 53 2 rfl) hRM204
                          have hRPm228 : fl_RPm H215 := fl_RPm_eq (funext fun s => hf220 61 s rfl) (hf220 53 10 rfl) (hf220 53 0 rfl) hRPm205
                          have hHT229 : fl_HTh h H215 := fl_HTh_eq (funext fun s => hf220 88 s rfl) hHT206
                          have t230 : H215 53 0 = H192 53 0 := hf220 53 0 rfl
                          have k231 : y225 = fl_reM h on hr x46 := fl_reM_in hf203 rfl hHT206 ⟨by omega, by omega⟩ f224
                          refine fz_aload_n kX11_atHour rfl rfl ?_
                          refine fz_iload_n kX11_atHour rfl rfl ?_
                          refine fz_iload kX11_atHour rfl rfl ?_
                          refine fz_iload_n kX11_atHour rfl rfl ?_
                          have e233 : H215 53 0 = h 53 0 := hf226 53 0 rfl
                          refine fz_callV (d' := 4) (M' := mX11_receivedIn) (As := [fz_i on, fz_i x47, fz_i hr]) (st := [fz_i y225]) kX11_atHour rfl rfl vX11_receivedIn rfl rfl rfl rfl (Nat.le_of_ble_eq_true rfl) (Nat.le_of_ble_eq_true rfl) (by decide) (sX11_receivedIn H215 hI219 on x47 hr hXw221 hHB222 (by omega) (by omega)) (fun H234 r235 q236 o237 => ?_)
                          obtain ⟨hI238, hf239, hXw240, hHB241, y244, rfl, f242, f243⟩ := q236
                          clear o237
                          have hf245 := fz_fr_tr hf226 hf239 (show fz_su [(74, 99999), (75, 99999)] [(74, 99999), (75, 99999), (86, 99999), (87, 99999), (88, 99999)] = true from rfl)
                          have hRM246 : fz_RM H234 := fz_RM_eq (funext fun s => hf239 55 s rfl) (funext fun s => hf239 56 s rfl) (hf239 53 0 rfl) (hf239 53 2 rfl) hRM227
                          have hRPm247 : fl_RPm H234 := fl_RPm_eq (funext fun s => hf239 61 s rfl) (hf239 53 10 rfl) (hf239 53 0 rfl) hRPm228
                          have hHT248 : fl_HTh h H234 := fl_HTh_eq (funext fun s => hf239 88 s rfl) hHT229
                          have t249 : H234 53 0 = H215 53 0 := hf239 53 0 rfl
                          have k250 : y244 = fl_reM h on hr x47 := fl_reM_in hf226 rfl hHT229 ⟨by omega, by omega⟩ f243
                          refine fz_icmp_le (tgt := 116) kX11_atHour rfl (by decide) (fun c252 => ?_) (fun c252 => ?_)
                          · refine fz_iincN (ls' := [(6, fz_i (x46 + 1)), (5, fz_i x47), (4, fz_i x48), (0, fz_r 53), (1, fz_i on), (2, fz_i hr), (3, fz_i wh)]) kX11_atHour rfl (by decide) rfl (by omega) rfl ?_
                            refine fz_goto (tgt := 39) kX11_atHour rfl (by decide) ?_
                            exact ih59 (x46 + 1) x47 x48 H234 hI238 hf245 hXw240 hRM246 hRPm247 hHB241 hHT248 (by omega) (by omega) (by omega) (by omega) (by omega) (by omega) (by first | exact fl_tb_1 hv67 (by omega) (fl_cM_m (by omega) k208 (Or.inl ⟨by omega, rfl⟩)) | exact fl_tb_0 hv67 (by omega) (fl_cM_m (by omega) k208 (Or.inr ⟨by omega, rfl⟩)) | exact fl_tb_1 hv67 (by omega) (fl_cM_a (by omega) lost (Or.inl ⟨by omega, rfl⟩)) | exact fl_tb_0 hv67 (by omega) (fl_cM_a (by omega) lost (Or.inr ⟨by omega, rfl⟩))) (by first | exact fl_bI_0 hv68 (by omega) (by omega) | exact fl_bI_y hv68 (by omega) k231 k250 (by omega) (by omega) | exact fl_bI_n hv68 (by omega) k231 k250 (by omega) (by omega)) (by omega)
                          · refine fz_iload kX11_atHour rfl rfl ?_
                            refine fz_istore (ls' := [(5, fz_i x46), (6, fz_i x46), (4, fz_i x48), (0, fz_r 53), (1, fz_i on), (2, fz_i hr), (3, fz_i wh)]) kX11_atHour rfl (by decide) rfl ?_
                            refine fz_iincN (ls' := [(6, fz_i (x46 + 1)), (5, fz_i x46), (4, fz_i x48), (0, fz_r 53), (1, fz_i on), (2, fz_i hr), (3, fz_i wh)]) kX11_atHour rfl (by decide) rfl (by omega) rfl ?_
                            refine fz_goto (tgt := 39) kX11_atHour rfl (by decide) ?_
                            exact ih59 (x46 + 1) x46 x48 H234 hI238 hf245 hXw240 hRM246 hRPm247 hHB241 hHT248 (by omega) (by omega) (by omega) (by omega) (by omega) (by omega) (by first | exact fl_tb_1 hv67 (by omega) (fl_cM_m (by omega) k208 (Or.inl ⟨by omega, rfl⟩)) | exact fl_tb_0 hv67 (by omega) (fl_cM_m (by omega) k208 (Or.inr ⟨by omega, rfl⟩)) | exact fl_tb_1 hv67 (by omega) (fl_cM_a (by omega) lost (Or.inl ⟨by omega, rfl⟩)) | exact fl_tb_0 hv67 (by omega) (fl_cM_a (by omega) lost (Or.inr ⟨by omega, rfl⟩))) (by first | exact fl_bI_0 hv68 (by omega) (by omega) | exact fl_bI_y hv68 (by omega) k231 k250 (by omega) (by omega) | exact fl_bI_n hv68 (by omega) k231 k250 (by omega) (by omega)) (by omega)
                      · refine fz_goto (tgt := 77) kX11_atHour rfl (by decide) ?_
                        refine fz_iload kX11_atHour rfl rfl ?_
                        refine fz_iconst ⟨by decide, by decide⟩ kX11_atHour rfl ?_
                        refine fz_iload kX11_atHour rfl rfl ?_
                        refine fz_ishl kX11_atHour rfl ?_
                        have b257 : -2147483648 ≤ (fz_shl 1 x46) ∧ (fz_shl 1 x46) < 2147483648 := fz_b32 _
                        refine fz_ior kX11_atHour rfl ?_
                        have b258 : -2147483648 ≤ (fz_or x48 (fz_shl 1 x46)) ∧ (fz_or x48 (fz_shl 1 x46)) < 2147483648 := fz_b32 _
                        refine fz_istore (ls' := [(4, fz_i (fz_or x48 (fz_shl 1 x46))), (6, fz_i x46), (5, fz_i x47), (0, fz_r 53), (1, fz_i on), (2, fz_i hr), (3, fz_i wh)]) kX11_atHour rfl (by decide) rfl ?_
                        refine fz_iload kX11_atHour rfl rfl ?_
                        refine fz_bipush ⟨by decide, by decide⟩ kX11_atHour rfl ?_
                        refine fz_icmp_eq (tgt := 112) kX11_atHour rfl (by decide) (fun c259 => ?_) (fun c259 => ?_)
                        · refine fz_iload kX11_atHour rfl rfl ?_
                          refine fz_istore (ls' := [(5, fz_i x46), (4, fz_i (fz_or x48 (fz_shl 1 x46))), (6, fz_i x46), (0, fz_r 53), (1, fz_i on), (2, fz_i hr), (3, fz_i wh)]) kX11_atHour rfl (by decide) rfl ?_
                          refine fz_iincN (ls' := [(6, fz_i (x46 + 1)), (5, fz_i x46), (4, fz_i (fz_or x48 (fz_shl 1 x46))), (0, fz_r 53), (1, fz_i on), (2, fz_i hr), (3, fz_i wh)]) kX11_atHour rfl (by decide) rfl (by omega) rfl ?_
                          refine fz_goto (tgt := 39) kX11_atHour rfl (by decide) ?_
                          exact ih59 (x46 + 1) x46 (fz_or x48 (fz_shl 1 x46)) H192 hI196 hf203 hXw198 hRM204 hRPm205 hHB199 hHT206 (by omega) (by omega) (by omega) (by omega) (by omega) (by omega) (by first | exact fl_tb_1 hv67 (by omega) (fl_cM_m (by omega) k208 (Or.inl ⟨by omega, rfl⟩)) | exact fl_tb_0 hv67 (by omega) (fl_cM_m (by omega) k208 (Or.inr ⟨by omega, rfl⟩)) | exact fl_tb_1 hv67 (by omega) (fl_cM_a (by omega) lost (Or.inl ⟨by omega, rfl⟩)) | exact fl_tb_0 hv67 (by omega) (fl_cM_a (by omega) lost (Or.inr ⟨by omega, rfl⟩))) (by first | exact fl_bI_0 hv68 (by omega) (by omega) | exact fl_bI_y hv68 (by omega) lost lost (by omega) (by omega) | exact fl_bI_n hv68 (by omega) lost lost (by omega) (by omega)) (by omega)
                        · refine fz_aload_n kX11_atHour rfl rfl ?_
                          refine fz_iload_n kX11_atHour rfl rfl ?_
                          refine fz_iload kX11_atHour rfl rfl ?_
                          refine fz_iload_n kX11_atHour rfl rfl ?_
                          have e262 : H192 53 0 = h 53 0 := hf203 53 0 rfl
                          refine fz_callV (d' := 4) (M' := mX11_receivedIn) (As := [fz_i on, fz_i x46, fz_i hr]) (st := []) kX11_atHour rfl rfl vX11_receivedIn rfl rfl rfl rfl (Nat.le_of_ble_eq_true rfl) (Nat.le_of_ble_eq_true rfl) (by decide) (sX11_receivedIn H192 hI196 on x46 hr hXw198 hHB199 (by omega) (by omega)) (fun H263 r264 q265 o266 => ?_)
                          obtain ⟨hI267, hf268, hXw269, hHB270, y273, rfl, f271, f272⟩ := q265
                          clear o266
                          have hf274 := fz_fr_tr hf203 hf268 (show fz_su [(74, 99999), (75, 99999)] [(74, 99999), (75, 99999), (86, 99999), (87, 99999), (88, 99999)] = true from rfl)
                          have hRM275 : fz_RM H263 := fz_RM_eq (funext fun s => hf268 55 s rfl) (funext fun s => hf268 56 s rfl) (hf268 53 0 rfl) (hf268 53 2 rfl) hRM204
                          have hRPm276 : fl_RPm H263 := fl_RPm_eq (funext fun s => hf268 61 s rfl) (hf268 53 10 rfl) (hf268 53 0 rfl) hRPm205
                          have hHT277 : fl_HTh h H263 := fl_HTh_eq (funext fun s => hf268 88 s rfl) hHT206
                          have t278 : H263 53 0 = H192 53 0 := hf268 53 0 rfl
                          have k279 : y273 = fl_reM h on hr x46 := fl_reM_in hf203 rfl hHT206 ⟨by omega, by omega⟩ f272
                          refine fz_aload_n kX11_atHour rfl rfl ?_
                          refine fz_iload_n kX11_atHour rfl rfl ?_
                          refine fz_iload kX11_atHour rfl rfl ?_
                          refine fz_iload_n kX11_atHour rfl rfl ?_
                          have e281 : H263 53 0 = h 53 0 := hf274 53 0 rfl
                          refine fz_callV (d' := 4) (M' := mX11_receivedIn) (As := [fz_i on, fz_i x47, fz_i hr]) (st := [fz_i y273]) kX11_atHour rfl rfl vX11_receivedIn rfl rfl rfl rfl (Nat.le_of_ble_eq_true rfl) (Nat.le_of_ble_eq_true rfl) (by decide) (sX11_receivedIn H263 hI267 on x47 hr hXw269 hHB270 (by omega) (by omega)) (fun H282 r283 q284 o285 => ?_)
                          obtain ⟨hI286, hf287, hXw288, hHB289, y292, rfl, f290, f291⟩ := q284
                          clear o285
                          have hf293 := fz_fr_tr hf274 hf287 (show fz_su [(74, 99999), (75, 99999)] [(74, 99999), (75, 99999), (86, 99999), (87, 99999), (88, 99999)] = true from rfl)
                          have hRM294 : fz_RM H282 := fz_RM_eq (funext fun s => hf287 55 s rfl) (funext fun s => hf287 56 s rfl) (hf287 53 0 rfl) (hf287 53 2 rfl) hRM275
                          have hRPm295 : fl_RPm H282 := fl_RPm_eq (funext fun s => hf287 61 s rfl) (hf287 53 10 rfl) (hf287 53 0 rfl) hRPm276
                          have hHT296 : fl_HTh h H282 := fl_HTh_eq (funext fun s => hf287 88 s rfl) hHT277
                          have t297 : H282 53 0 = H263 53 0 := hf287 53 0 rfl
                          have k298 : y292 = fl_reM h on hr x47 := fl_reM_in hf274 rfl hHT277 ⟨by omega, by omega⟩ f291
                          refine fz_icmp_le (tgt := 116) kX11_atHour rfl (by decide) (fun c300 => ?_) (fun c300 => ?_)
                          · refine fz_iincN (ls' := [(6, fz_i (x46 + 1)), (4, fz_i (fz_or x48 (fz_shl 1 x46))), (5, fz_i x47), (0, fz_r 53), (1, fz_i on), (2, fz_i hr), (3, fz_i wh)]) kX11_atHour rfl (by decide) rfl (by omega) rfl ?_
                            refine fz_goto (tgt := 39) kX11_atHour rfl (by decide) ?_
                            refine fz_sub (fz_pk_sub (ls' := [(6, fz_i (x46 + 1)), (5, fz_i x47), (4, fz_i (fz_or x48 (fz_shl 1 x46))), (0, fz_r 53), (1, fz_i on), (2, fz_i hr), (3, fz_i wh)]) [0, 2, 1, 3, 4, 5, 6] rfl) ?_
                            exact ih59 (x46 + 1) x47 (fz_or x48 (fz_shl 1 x46)) H282 hI286 hf293 hXw288 hRM294 hRPm295 hHB289 hHT296 (by omega) (by omega) (by omega) (by omega) (by omega) (by omega) (by first | exact fl_tb_1 hv67 (by omega) (fl_cM_m (by omega) k208 (Or.inl ⟨by omega, rfl⟩)) | exact fl_tb_0 hv67 (by omega) (fl_cM_m (by omega) k208 (Or.inr ⟨by omega, rfl⟩)) | exact fl_tb_1 hv67 (by omega) (fl_cM_a (by omega) lost (Or.inl ⟨by omega, rfl⟩)) | exact fl_tb_0 hv67 (by omega) (fl_cM_a (by omega) lost (Or.inr ⟨by omega, rfl⟩))) (by first | exact fl_bI_0 hv68 (by omega) (by omega) | exact fl_bI_y hv68 (by omega) k279 k298 (by omega) (by omega) | exact fl_bI_n hv68 (by omega) k279 k298 (by omega) (by omega)) (by omega)
                          · refine fz_iload kX11_atHour rfl rfl ?_
                            refine fz_istore (ls' := [(5, fz_i x46), (4, fz_i (fz_or x48 (fz_shl 1 x46))), (6, fz_i x46), (0, fz_r 53), (1, fz_i on), (2, fz_i hr), (3, fz_i wh)]) kX11_atHour rfl (by decide) rfl ?_
                            refine fz_iincN (ls' := [(6, fz_i (x46 + 1)), (5, fz_i x46), (4, fz_i (fz_or x48 (fz_shl 1 x46))), (0, fz_r 53), (1, fz_i on), (2, fz_i hr), (3, fz_i wh)]) kX11_atHour rfl (by decide) rfl (by omega) rfl ?_
                            refine fz_goto (tgt := 39) kX11_atHour rfl (by decide) ?_
                            exact ih59 (x46 + 1) x46 (fz_or x48 (fz_shl 1 x46)) H282 hI286 hf293 hXw288 hRM294 hRPm295 hHB289 hHT296 (by omega) (by omega) (by omega) (by omega) (by omega) (by omega) (by first | exact fl_tb_1 hv67 (by omega) (fl_cM_m (by omega) k208 (Or.inl ⟨by omega, rfl⟩)) | exact fl_tb_0 hv67 (by omega) (fl_cM_m (by omega) k208 (Or.inr ⟨by omega, rfl⟩)) | exact fl_tb_1 hv67 (by omega) (fl_cM_a (by omega) lost (Or.inl ⟨by omega, rfl⟩)) | exact fl_tb_0 hv67 (by omega) (fl_cM_a (by omega) lost (Or.inr ⟨by omega, rfl⟩))) (by first | exact fl_bI_0 hv68 (by omega) (by omega) | exact fl_bI_y hv68 (by omega) k279 k298 (by omega) (by omega) | exact fl_bI_n hv68 (by omega) k279 k298 (by omega) (by omega)) (by omega)
              exact lp58 _ 0 (-2) 0 H30 hI34 hf39 hXw40 hRM36 hRPm37 hHB42 hHT44 (by omega) (by omega) (by omega) (by omega) (by omega) (by omega) (rfl) (rfl) (Nat.lt_succ_self _)
            · exfalso; omega
          · refine fz_if_ne (tgt := 25) kX11_atHour rfl (by decide) (fun c307 => ?_) (fun c307 => ?_)
            · exfalso; omega
            · refine fz_iconst ⟨by decide, by decide⟩ kX11_atHour rfl ?_
              exact fz_iret kX11_atHour rfl rfl (fun _ => ⟨hI, hf, hXw, hRM, hRPm, _, rfl, (by omega), (by first | exact Or.inl ⟨(by unfold fl_ohA; omega), fl_ahx_2 (by omega) (fl_bI_e lost (by omega))⟩ | exact Or.inl ⟨(by unfold fl_ohA; omega), fl_ahx_1 (by omega) (fl_at (f := fl_tb (fl_cM h on hr wh)) lost (by omega))⟩ | exact Or.inr ⟨(by unfold fl_ohA; omega), rfl⟩)⟩)
      · refine fz_if_eq (tgt := 23) kX11_atHour rfl (by decide) (fun c309 => ?_) (fun c309 => ?_)
        · refine fz_iconst ⟨by decide, by decide⟩ kX11_atHour rfl ?_
          exact fz_iret kX11_atHour rfl rfl (fun _ => ⟨hI, hf, hXw, hRM, hRPm, _, rfl, (by omega), (by first | exact Or.inl ⟨(by unfold fl_ohA; omega), fl_ahx_2 (by omega) (fl_bI_e lost (by omega))⟩ | exact Or.inl ⟨(by unfold fl_ohA; omega), fl_ahx_1 (by omega) (fl_at (f := fl_tb (fl_cM h on hr wh)) lost (by omega))⟩ | exact Or.inr ⟨(by unfold fl_ohA; omega), rfl⟩)⟩)
        · exfalso; omega
  · refine fz_if_eq (tgt := 23) kX11_atHour rfl (by decide) (fun c311 => ?_) (fun c311 => ?_)
    · refine fz_iconst ⟨by decide, by decide⟩ kX11_atHour rfl ?_
      exact fz_iret kX11_atHour rfl rfl (fun _ => ⟨hI, hf, hXw, hRM, hRPm, _, rfl, (by omega), (by first | exact Or.inl ⟨(by unfold fl_ohA; omega), fl_ahx_2 (by omega) (fl_bI_e lost (by omega))⟩ | exact Or.inl ⟨(by unfold fl_ohA; omega), fl_ahx_1 (by omega) (fl_at (f := fl_tb (fl_cM h on hr wh)) lost (by omega))⟩ | exact Or.inr ⟨(by unfold fl_ohA; omega), rfl⟩)⟩)
    · exfalso; omega

abbrev qX11_feet (h : fz_H) (a b : Int) : fz_H → Option fz_V → Prop := fun h' r0 => fz_Iv h' ∧ fz_fr [(86, 99999), (87, 99999)] h h' ∧ fz_RM h' ∧ ∃ r : Int, r0 = some (fz_i r) ∧ ((-2) ≤ r ∧ r ≤ 192) ∧ (r = fl_ft h a b) ∧ (r = -2 ∨ 0 ≤ r)
set_option maxHeartbeats 1000000 in
set_option maxRecDepth 100000 in
theorem sX11_feet (h : fz_H) (hI : fz_Iv h) (a b : Int) (hRM : fz_RM h) (hp0 : 0 ≤ a ∧ a ≤ 7) (hp1 : 0 ≤ b ∧ b ≤ 7) (hp2 : a < h 53 0 ∧ b < h 53 0) : fz_R 2 mX11_feet 0 [(0, fz_r 53), (1, fz_i a), (2, fz_i b)] [] h (qX11_feet h a b) := by
  refine fz_knowl (fun hk => ?_)
  have hr_a : -2147483648 ≤ a ∧ a < 2147483648 := hk _ (List.Mem.tail _ (List.Mem.head _))
  have hr_b : -2147483648 ≤ b ∧ b < 2147483648 := hk _ (List.Mem.tail _ (List.Mem.tail _ (List.Mem.head _)))
  clear hk
  have hf : fz_fr [(86, 99999), (87, 99999)] h h := fz_fr_rf
  have b1 : 0 ≤ h 53 0 ∧ h 53 0 ≤ 8 := hI.1 53 _
  have k2 : 0 ≤ h 53 0 ∧ h 53 0 ≤ 8 := hI.1 53 _
  refine fz_aload_n kX11_feet rfl rfl ?_
  refine fz_iload_n kX11_feet rfl rfl ?_
  refine fz_iconst ⟨by decide, by decide⟩ kX11_feet rfl ?_
  refine fz_callV (d' := 1) (M' := mX11_goesFrom) (As := [fz_i a, fz_i 0]) (st := []) kX11_feet rfl rfl vX11_goesFrom rfl rfl rfl rfl (Nat.le_of_ble_eq_true rfl) (Nat.le_of_ble_eq_true rfl) (by decide) (sX11_goesFrom_k h hI a 0 hRM (by omega) (by omega)) (fun H3 r4 q5 o6 => ?_)
  obtain ⟨hI7, hf8, hRM9, rfl, f10, f11⟩ := q5
  clear o6
  have hf12 := fz_fr_tr hf hf8 (show fz_su [(86, 99999), (87, 99999)] [(86, 99999), (87, 99999)] = true from rfl)
  refine fz_aload_n kX11_feet rfl rfl ?_
  refine fz_getR (t := 86) kX11_feet rfl rfl ?_
  refine fz_iload_n kX11_feet rfl rfl ?_
  obtain ⟨v13, e14⟩ : ∃ z, H3 86 (b.toNat) = z := ⟨_, rfl⟩
  refine fz_ialdV (n := 8) (v := v13) kX11_feet rfl rfl (by omega) (by omega) e14 ?_
  have b15 : (-2147483648) ≤ v13 ∧ v13 ≤ 2147483647 := by rw [← e14]; exact hI7.1 86 _
  have k16 := fz_gf_nn f11 (b := b.toNat) (by omega)
  have k17 := f11.2.2 b.toNat (by omega)
  have k19 : -2 ≤ v13 ∧ v13 ≤ 192 := by omega
  exact fz_iret kX11_feet rfl rfl (fun _ => ⟨hI7, hf12, hRM9, _, rfl, (by omega), (by exact e14.symm.trans (fl_gf_fm f11 (fz_EM_d hRM (fun r => (hI.1 57 r).1) (fun r => ⟨(hI.1 55 r).1, (hI.1 56 r).1⟩)) (by omega) (fun q => ⟨(hI.1 55 q).1, (hI.1 56 q).1⟩) ⟨by omega, by omega⟩ ⟨by omega, by omega⟩).1), (by omega)⟩)

abbrev qX11_home (h : fz_H) (on th wh : Int) : fz_H → Option fz_V → Prop := fun h' r0 => fz_Iv h' ∧ fz_fr [(74, 99999), (75, 99999), (86, 99999), (87, 99999), (88, 99999)] h h' ∧ fz_Xw h' ∧ fz_RM h' ∧ fl_RPm h' ∧ ∃ r : Int, r0 = some (fz_i r) ∧ ((-2147483648) ≤ r ∧ r ≤ 2147483647) ∧ (fl_hoM h on th wh r)
set_option maxHeartbeats 1000000 in
set_option maxRecDepth 100000 in
theorem sX11_home (h : fz_H) (hI : fz_Iv h) (on th wh : Int) (hXw : fz_Xw h) (hRM : fz_RM h) (hRPm : fl_RPm h) : fz_R 5 mX11_home 0 [(0, fz_r 53), (1, fz_i on), (2, fz_i th), (3, fz_i wh)] [] h (qX11_home h on th wh) := by
  refine fz_knowl (fun hk => ?_)
  have hr_on : -2147483648 ≤ on ∧ on < 2147483648 := hk _ (List.Mem.tail _ (List.Mem.head _))
  have hr_th : -2147483648 ≤ th ∧ th < 2147483648 := hk _ (List.Mem.tail _ (List.Mem.tail _ (List.Mem.head _)))
  have hr_wh : -2147483648 ≤ wh ∧ wh < 2147483648 := hk _ (List.Mem.tail _ (List.Mem.tail _ (List.Mem.tail _ (List.Mem.head _))))
  clear hk
  have hf : fz_fr [(74, 99999), (75, 99999), (86, 99999), (87, 99999), (88, 99999)] h h := fz_fr_rf
  have k1 : 0 ≤ h 53 0 ∧ h 53 0 ≤ 8 := hI.1 53 _
  refine fz_iload_n kX11_home rfl rfl ?_
  refine fz_callS (d' := 1) (M' := mX11_isPerson) (As := [fz_i on]) (st := []) kX11_home rfl rfl vX11_isPerson rfl rfl (Nat.le_of_ble_eq_true rfl) (Nat.le_of_ble_eq_true rfl) (by decide) (sX11_isPerson h hI on ) (fun H2 r3 q4 o5 => ?_)
  obtain ⟨e6, y7, rfl, p8⟩ := q4
  subst H2
  clear o5
  rcases p8 with ⟨rfl, c9⟩ | ⟨rfl, c9⟩
  · refine fz_if_eq (tgt := 24) kX11_home rfl (by decide) (fun c10 => ?_) (fun c10 => ?_)
    · exfalso; omega
    · refine fz_aload_n kX11_home rfl rfl ?_
      refine fz_iload_n kX11_home rfl rfl ?_
      have b11 : 0 ≤ h 53 0 ∧ h 53 0 ≤ 8 := hI.1 53 _
      refine fz_callV (d' := 2) (M' := mX11_isWhen) (As := [fz_i th]) (st := []) kX11_home rfl rfl vX11_isWhen rfl rfl rfl rfl (Nat.le_of_ble_eq_true rfl) (Nat.le_of_ble_eq_true rfl) (by decide) (sX11_isWhen h hI th ) (fun H12 r13 q14 o15 => ?_)
      obtain ⟨e16, y17, rfl, p18⟩ := q14
      subst H12
      clear o15
      rcases p18 with ⟨rfl, c19⟩ | ⟨rfl, c19⟩
      · refine fz_if_eq (tgt := 24) kX11_home rfl (by decide) (fun c20 => ?_) (fun c20 => ?_)
        · exfalso; omega
        · refine fz_iload_n kX11_home rfl rfl ?_
          refine fz_iconst ⟨by decide, by decide⟩ kX11_home rfl ?_
          refine fz_iconst ⟨by decide, by decide⟩ kX11_home rfl ?_
          refine fz_callS (d' := 0) (M' := mX11_within) (As := [fz_i wh, fz_i 0, fz_i 1]) (st := []) kX11_home rfl rfl vX11_within rfl rfl (Nat.le_of_ble_eq_true rfl) (Nat.le_of_ble_eq_true rfl) (by decide) (sX11_within h hI wh 0 1 ) (fun H21 r22 q23 o24 => ?_)
          obtain ⟨e25, y26, rfl, p27⟩ := q23
          subst H21
          clear o24
          rcases p27 with ⟨rfl, c28⟩ | ⟨rfl, c28⟩
          · refine fz_if_ne (tgt := 26) kX11_home rfl (by decide) (fun c29 => ?_) (fun c29 => ?_)
            · refine fz_aload_n kX11_home rfl rfl ?_
              have b30 : 0 ≤ h 53 10 ∧ h 53 10 ≤ 11 := hI.1 53 _
              refine fz_callV (d' := 3) (M' := mX11_allHear) (As := []) (st := []) kX11_home rfl rfl vX11_allHear rfl rfl rfl rfl (Nat.le_of_ble_eq_true rfl) (Nat.le_of_ble_eq_true rfl) (by decide) (sX11_allHear h hI  hRM hRPm) (fun H31 r32 q33 o34 => ?_)
              obtain ⟨hI35, hf36, hRM37, hRPm38, rfl, f39⟩ := q33
              clear o34
              have hf40 := fz_fr_tr hf hf36 (show fz_su [(86, 99999), (87, 99999), (88, 99999)] [(74, 99999), (75, 99999), (86, 99999), (87, 99999), (88, 99999)] = true from rfl)
              have hXw41 : fz_Xw H31 := fz_Xw_eq (hf36 53 19 rfl) (funext fun s => hf36 66 s rfl) (funext fun s => hf36 67 s rfl) (funext fun s => hf36 68 s rfl) (funext fun s => hf36 69 s rfl) hXw
              have t42 : H31 53 0 = h 53 0 := hf36 53 0 rfl
              have hHB43 : fl_HB H31 := fl_HB_of2 f39 (funext fun s => hf36 62 s rfl) (hf36 53 10 rfl) (hf36 53 0 rfl) (funext fun s => hf36 54 s rfl) (fun q => (hI35.1 54 q).1)
              have hHT45 : fl_HTh h H31 := f39
              refine fz_bipush ⟨by decide, by decide⟩ kX11_home rfl ?_
              refine fz_istore (ls' := [(4, fz_i (-2)), (0, fz_r 53), (1, fz_i on), (2, fz_i th), (3, fz_i wh)]) kX11_home rfl (by decide) rfl ?_
              refine fz_iconst ⟨by decide, by decide⟩ kX11_home rfl ?_
              refine fz_istore (ls' := [(5, fz_i 0), (4, fz_i (-2)), (0, fz_r 53), (1, fz_i on), (2, fz_i th), (3, fz_i wh)]) kX11_home rfl (by decide) rfl ?_
              refine fz_iconst ⟨by decide, by decide⟩ kX11_home rfl ?_
              refine fz_istore (ls' := [(6, fz_i 0), (5, fz_i 0), (4, fz_i (-2)), (0, fz_r 53), (1, fz_i on), (2, fz_i th), (3, fz_i wh)]) kX11_home rfl (by decide) rfl ?_
              have lp59 : ∀ (n58 : Nat) (x47 : Int) (x48 : Int) (x49 : Int) (H55 : fz_H), fz_Iv H55 → fz_fr [(74, 99999), (75, 99999), (86, 99999), (87, 99999), (88, 99999)] h H55 → fz_Xw H55 → fz_RM H55 → fl_RPm H55 → fl_HB H55 → fl_HTh h H55 → (0 ≤ x47 ∧ x47 ≤ 2147483647) → ((-2147483648) ≤ x48 ∧ x48 ≤ 2147483647) → ((-2147483648) ≤ x49 ∧ x49 ≤ 2147483647) → (x47 ≤ h 53 0) → (fl_hI (fl_ft h (th / 1000)) (fl_uM h on) (th % 1000) x47 x49 x48) → ((h 53 0) - x47).toNat < n58 → fz_R 5 mX11_home 40 [(6, fz_i x47), (5, fz_i x48), (4, fz_i x49), (0, fz_r 53), (1, fz_i on), (2, fz_i th), (3, fz_i wh)] [] H55 (qX11_home h on th wh) := by
                intro n58
                induction n58 with
                | zero => intro x47 x48 x49 H55 hI56 hf57 hXw50 hRM51 hRPm52 hHB53 hHT54 hv62 hv63 hv64 hv65 hv66 hm61; exact absurd hm61 (by omega)
                | succ n58 ih60 =>
                  intro x47 x48 x49 H55 hI56 hf57 hXw50 hRM51 hRPm52 hHB53 hHT54 hv62 hv63 hv64 hv65 hv66 hm61
                  refine fz_iload kX11_home rfl rfl ?_
                  refine fz_aload_n kX11_home rfl rfl ?_
                  refine fz_getV (v := h 53 0) kX11_home rfl rfl (hf57 53 0 rfl) ?_
                  have b67 : 0 ≤ h 53 0 ∧ h 53 0 ≤ 8 := hI.1 53 _
                  refine fz_icmp_ge (tgt := 130) kX11_home rfl (by decide) (fun c68 => ?_) (fun c68 => ?_)
                  · refine fz_iload kX11_home rfl rfl ?_
                    refine fz_bipush ⟨by decide, by decide⟩ kX11_home rfl ?_
                    refine fz_icmp_eq (tgt := 142) kX11_home rfl (by decide) (fun c69 => ?_) (fun c69 => ?_)
                    · refine fz_iload kX11_home rfl rfl ?_
                      refine fz_goto (tgt := 149) kX11_home rfl (by decide) ?_
                      exact fz_iret kX11_home rfl rfl (fun _ => ⟨hI56, hf57, hXw50, hRM51, hRPm52, _, rfl, (by omega), (by first | exact Or.inl ⟨(by unfold fl_oH; omega), fl_hI_1 hv66 (by omega) (by omega)⟩ | exact Or.inl ⟨(by unfold fl_oH; omega), fl_hI_2 hv66 (by omega) (by omega)⟩ | exact Or.inr ⟨(by unfold fl_oH; omega), rfl⟩)⟩)
                    · refine fz_iload_n kX11_home rfl rfl ?_
                      refine fz_iconst ⟨by decide, by decide⟩ kX11_home rfl ?_
                      refine fz_icmp_ne (tgt := 147) kX11_home rfl (by decide) (fun c71 => ?_) (fun c71 => ?_)
                      · refine fz_iload kX11_home rfl rfl ?_
                        exact fz_iret kX11_home rfl rfl (fun _ => ⟨hI56, hf57, hXw50, hRM51, hRPm52, _, rfl, (by omega), (by first | exact Or.inl ⟨(by unfold fl_oH; omega), fl_hI_1 hv66 (by omega) (by omega)⟩ | exact Or.inl ⟨(by unfold fl_oH; omega), fl_hI_2 hv66 (by omega) (by omega)⟩ | exact Or.inr ⟨(by unfold fl_oH; omega), rfl⟩)⟩)
                      · refine fz_iload kX11_home rfl rfl ?_
                        refine fz_goto (tgt := 149) kX11_home rfl (by decide) ?_
                        exact fz_iret kX11_home rfl rfl (fun _ => ⟨hI56, hf57, hXw50, hRM51, hRPm52, _, rfl, (by omega), (by first | exact Or.inl ⟨(by unfold fl_oH; omega), fl_hI_1 hv66 (by omega) (by omega)⟩ | exact Or.inl ⟨(by unfold fl_oH; omega), fl_hI_2 hv66 (by omega) (by omega)⟩ | exact Or.inr ⟨(by unfold fl_oH; omega), rfl⟩)⟩)
                  · refine fz_aload_n kX11_home rfl rfl ?_
                    refine fz_iload_n kX11_home rfl rfl ?_
                    refine fz_sipush ⟨by decide, by decide⟩ kX11_home rfl ?_
                    refine fz_idivN kX11_home rfl (by omega) (by omega) (by omega) ?_
                    refine fz_iload kX11_home rfl rfl ?_
                    have e74 : H55 53 0 = h 53 0 := hf57 53 0 rfl
                    refine fz_callV (d' := 2) (M' := mX11_feet) (As := [fz_i (th / 1000), fz_i x47]) (st := []) kX11_home rfl rfl vX11_feet rfl rfl rfl rfl (Nat.le_of_ble_eq_true rfl) (Nat.le_of_ble_eq_true rfl) (by decide) (sX11_feet H55 hI56 (th / 1000) x47 hRM51 (by omega) (by omega) (by omega)) (fun H75 r76 q77 o78 => ?_)
                    obtain ⟨hI79, hf80, hRM81, y85, rfl, f82, f83, f84⟩ := q77
                    clear o78
                    have hf86 := fz_fr_tr hf57 hf80 (show fz_su [(86, 99999), (87, 99999)] [(74, 99999), (75, 99999), (86, 99999), (87, 99999), (88, 99999)] = true from rfl)
                    have hXw87 : fz_Xw H75 := fz_Xw_eq (hf80 53 19 rfl) (funext fun s => hf80 66 s rfl) (funext fun s => hf80 67 s rfl) (funext fun s => hf80 68 s rfl) (funext fun s => hf80 69 s rfl) hXw50
                    have hRPm88 : fl_RPm H75 := fl_RPm_eq (funext fun s => hf80 61 s rfl) (hf80 53 10 rfl) (hf80 53 0 rfl) hRPm52
                    have hHB89 : fl_HB H75 := fl_HB_eq (funext fun s => hf80 88 s rfl) (funext fun s => hf80 62 s rfl) (hf80 53 10 rfl) (hf80 53 0 rfl) hHB53
                    have hHT90 : fl_HTh h H75 := fl_HTh_eq (funext fun s => hf80 88 s rfl) hHT54
                    have t91 : H75 53 0 = H55 53 0 := hf80 53 0 rfl
                    have k92 : y85 = fl_ft h (th / 1000) x47 := by rw [← fl_ft_fr hf57 rfl]; exact f83
                    refine fz_istore (ls' := [(7, fz_i y85), (6, fz_i x47), (5, fz_i x48), (4, fz_i x49), (0, fz_r 53), (1, fz_i on), (2, fz_i th), (3, fz_i wh)]) kX11_home rfl (by decide) rfl ?_
                    refine fz_iload_n kX11_home rfl rfl ?_
                    refine fz_sipush ⟨by decide, by decide⟩ kX11_home rfl ?_
                    refine fz_iremN kX11_home rfl (by omega) (by omega) (by omega) ?_
                    refine fz_iload kX11_home rfl rfl ?_
                    refine fz_iaddN kX11_home rfl (by omega) ?_
                    refine fz_istore (ls' := [(8, fz_i ((th % 1000) + y85)), (7, fz_i y85), (6, fz_i x47), (5, fz_i x48), (4, fz_i x49), (0, fz_r 53), (1, fz_i on), (2, fz_i th), (3, fz_i wh)]) kX11_home rfl (by decide) rfl ?_
                    refine fz_iload kX11_home rfl rfl ?_
                    refine fz_bipush ⟨by decide, by decide⟩ kX11_home rfl ?_
                    refine fz_icmp_eq (tgt := 124) kX11_home rfl (by decide) (fun c94 => ?_) (fun c94 => ?_)
                    · refine fz_iincN (ls' := [(6, fz_i (x47 + 1)), (8, fz_i ((th % 1000) + y85)), (7, fz_i y85), (5, fz_i x48), (4, fz_i x49), (0, fz_r 53), (1, fz_i on), (2, fz_i th), (3, fz_i wh)]) kX11_home rfl (by decide) rfl (by omega) rfl ?_
                      refine fz_goto (tgt := 40) kX11_home rfl (by decide) ?_
                      refine fz_sub (fz_pk_sub (ls' := [(6, fz_i (x47 + 1)), (5, fz_i x48), (4, fz_i x49), (0, fz_r 53), (1, fz_i on), (2, fz_i th), (3, fz_i wh)]) [0, 3, 4, 5, 6, 7, 8] rfl) ?_
                      exact ih60 (x47 + 1) x48 x49 H75 hI79 hf86 hXw87 hRM81 hRPm88 hHB89 hHT90 (by omega) (by omega) (by omega) (by omega) (by first | exact fl_hI_y hv66 (by omega) k92 rfl ⟨by omega, by omega, by omega⟩ (lost.symm.trans (by omega)) | exact fl_hI_n hv66 (by omega) k92 rfl (Or.inl (by omega)) | exact fl_hI_n hv66 (by omega) k92 rfl (Or.inr (Or.inl (by omega))) | exact fl_hI_n hv66 (by omega) k92 rfl (Or.inr (Or.inr (Or.inl ⟨by omega, by omega⟩))) | exact fl_hI_n hv66 (by omega) k92 rfl (Or.inr (Or.inr (Or.inr (fun z => by have q := lost; omega))))) (by omega)
                    · refine fz_iload kX11_home rfl rfl ?_
                      refine fz_sipush ⟨by decide, by decide⟩ kX11_home rfl ?_
                      refine fz_icmp_gt (tgt := 124) kX11_home rfl (by decide) (fun c96 => ?_) (fun c96 => ?_)
                      · refine fz_iincN (ls' := [(6, fz_i (x47 + 1)), (8, fz_i ((th % 1000) + y85)), (7, fz_i y85), (5, fz_i x48), (4, fz_i x49), (0, fz_r 53), (1, fz_i on), (2, fz_i th), (3, fz_i wh)]) kX11_home rfl (by decide) rfl (by omega) rfl ?_
                        refine fz_goto (tgt := 40) kX11_home rfl (by decide) ?_
                        refine fz_sub (fz_pk_sub (ls' := [(6, fz_i (x47 + 1)), (5, fz_i x48), (4, fz_i x49), (0, fz_r 53), (1, fz_i on), (2, fz_i th), (3, fz_i wh)]) [0, 3, 4, 5, 6, 7, 8] rfl) ?_
                        exact ih60 (x47 + 1) x48 x49 H75 hI79 hf86 hXw87 hRM81 hRPm88 hHB89 hHT90 (by omega) (by omega) (by omega) (by omega) (by first | exact fl_hI_y hv66 (by omega) k92 rfl ⟨by omega, by omega, by omega⟩ (lost.symm.trans (by omega)) | exact fl_hI_n hv66 (by omega) k92 rfl (Or.inl (by omega)) | exact fl_hI_n hv66 (by omega) k92 rfl (Or.inr (Or.inl (by omega))) | exact fl_hI_n hv66 (by omega) k92 rfl (Or.inr (Or.inr (Or.inl ⟨by omega, by omega⟩))) | exact fl_hI_n hv66 (by omega) k92 rfl (Or.inr (Or.inr (Or.inr (fun z => by have q := lost; omega))))) (by omega)
                      · refine fz_iload kX11_home rfl rfl ?_
                        refine fz_bipush ⟨by decide, by decide⟩ kX11_home rfl ?_
                        refine fz_icmp_eq (tgt := 101) kX11_home rfl (by decide) (fun c98 => ?_) (fun c98 => ?_)
                        · refine fz_aload_n kX11_home rfl rfl ?_
                          refine fz_iload_n kX11_home rfl rfl ?_
                          refine fz_iload kX11_home rfl rfl ?_
                          refine fz_iload kX11_home rfl rfl ?_
                          have e99 : H75 53 0 = h 53 0 := hf86 53 0 rfl
                          refine fz_callV (d' := 4) (M' := mX11_marksIn) (As := [fz_i on, fz_i x47, fz_i ((th % 1000) + y85)]) (st := []) kX11_home rfl rfl vX11_marksIn rfl rfl rfl rfl (Nat.le_of_ble_eq_true rfl) (Nat.le_of_ble_eq_true rfl) (by decide) (sX11_marksIn H75 hI79 on x47 ((th % 1000) + y85) hXw87 hHB89 (by omega) (by omega)) (fun H100 r101 q102 o103 => ?_)
                          obtain ⟨hI104, hf105, hXw106, hHB107, y110, rfl, f108, f109⟩ := q102
                          clear o103
                          have hf111 := fz_fr_tr hf86 hf105 (show fz_su [(74, 99999), (75, 99999)] [(74, 99999), (75, 99999), (86, 99999), (87, 99999), (88, 99999)] = true from rfl)
                          have hRM112 : fz_RM H100 := fz_RM_eq (funext fun s => hf105 55 s rfl) (funext fun s => hf105 56 s rfl) (hf105 53 0 rfl) (hf105 53 2 rfl) hRM81
                          have hRPm113 : fl_RPm H100 := fl_RPm_eq (funext fun s => hf105 61 s rfl) (hf105 53 10 rfl) (hf105 53 0 rfl) hRPm88
                          have hHT114 : fl_HTh h H100 := fl_HTh_eq (funext fun s => hf105 88 s rfl) hHT90
                          have t115 : H100 53 0 = H75 53 0 := hf105 53 0 rfl
                          have k116 := fl_uM_in hf86 rfl hHT90 ⟨by omega, by omega⟩ f109
                          refine fz_if_le (tgt := 116) kX11_home rfl (by decide) (fun c118 => ?_) (fun c118 => ?_)
                          · refine fz_iload kX11_home rfl rfl ?_
                            refine fz_istore (ls' := [(5, fz_i ((th % 1000) + y85)), (8, fz_i ((th % 1000) + y85)), (7, fz_i y85), (6, fz_i x47), (4, fz_i x49), (0, fz_r 53), (1, fz_i on), (2, fz_i th), (3, fz_i wh)]) kX11_home rfl (by decide) rfl ?_
                            refine fz_iload kX11_home rfl rfl ?_
                            refine fz_istore (ls' := [(4, fz_i x47), (5, fz_i ((th % 1000) + y85)), (8, fz_i ((th % 1000) + y85)), (7, fz_i y85), (6, fz_i x47), (0, fz_r 53), (1, fz_i on), (2, fz_i th), (3, fz_i wh)]) kX11_home rfl (by decide) rfl ?_
                            refine fz_iincN (ls' := [(6, fz_i (x47 + 1)), (4, fz_i x47), (5, fz_i ((th % 1000) + y85)), (8, fz_i ((th % 1000) + y85)), (7, fz_i y85), (0, fz_r 53), (1, fz_i on), (2, fz_i th), (3, fz_i wh)]) kX11_home rfl (by decide) rfl (by omega) rfl ?_
                            refine fz_goto (tgt := 40) kX11_home rfl (by decide) ?_
                            refine fz_sub (fz_pk_sub (ls' := [(6, fz_i (x47 + 1)), (5, fz_i ((th % 1000) + y85)), (4, fz_i x47), (0, fz_r 53), (1, fz_i on), (2, fz_i th), (3, fz_i wh)]) [0, 2, 1, 5, 6, 7, 8] rfl) ?_
                            exact ih60 (x47 + 1) ((th % 1000) + y85) x47 H100 hI104 hf111 hXw106 hRM112 hRPm113 hHB107 hHT114 (by omega) (by omega) (by omega) (by omega) (by first | exact fl_hI_y hv66 (by omega) k92 rfl ⟨by omega, by omega, by omega⟩ (k116.symm.trans (by omega)) | exact fl_hI_n hv66 (by omega) k92 rfl (Or.inl (by omega)) | exact fl_hI_n hv66 (by omega) k92 rfl (Or.inr (Or.inl (by omega))) | exact fl_hI_n hv66 (by omega) k92 rfl (Or.inr (Or.inr (Or.inl ⟨by omega, by omega⟩))) | exact fl_hI_n hv66 (by omega) k92 rfl (Or.inr (Or.inr (Or.inr (fun z => by have q := k116; omega))))) (by omega)
                          · refine fz_goto (tgt := 124) kX11_home rfl (by decide) ?_
                            refine fz_iincN (ls' := [(6, fz_i (x47 + 1)), (8, fz_i ((th % 1000) + y85)), (7, fz_i y85), (5, fz_i x48), (4, fz_i x49), (0, fz_r 53), (1, fz_i on), (2, fz_i th), (3, fz_i wh)]) kX11_home rfl (by decide) rfl (by omega) rfl ?_
                            refine fz_goto (tgt := 40) kX11_home rfl (by decide) ?_
                            refine fz_sub (fz_pk_sub (ls' := [(6, fz_i (x47 + 1)), (5, fz_i x48), (4, fz_i x49), (0, fz_r 53), (1, fz_i on), (2, fz_i th), (3, fz_i wh)]) [0, 3, 4, 5, 6, 7, 8] rfl) ?_
                            exact ih60 (x47 + 1) x48 x49 H100 hI104 hf111 hXw106 hRM112 hRPm113 hHB107 hHT114 (by omega) (by omega) (by omega) (by omega) (by first | exact fl_hI_y hv66 (by omega) k92 rfl ⟨by omega, by omega, by omega⟩ (k116.symm.trans (by omega)) | exact fl_hI_n hv66 (by omega) k92 rfl (Or.inl (by omega)) | exact fl_hI_n hv66 (by omega) k92 rfl (Or.inr (Or.inl (by omega))) | exact fl_hI_n hv66 (by omega) k92 rfl (Or.inr (Or.inr (Or.inl ⟨by omega, by omega⟩))) | exact fl_hI_n hv66 (by omega) k92 rfl (Or.inr (Or.inr (Or.inr (fun z => by have q := k116; omega))))) (by omega)
                        · refine fz_iload kX11_home rfl rfl ?_
                          refine fz_iload kX11_home rfl rfl ?_
                          refine fz_icmp_ge (tgt := 124) kX11_home rfl (by decide) (fun c121 => ?_) (fun c121 => ?_)
                          · refine fz_iincN (ls' := [(6, fz_i (x47 + 1)), (8, fz_i ((th % 1000) + y85)), (7, fz_i y85), (5, fz_i x48), (4, fz_i x49), (0, fz_r 53), (1, fz_i on), (2, fz_i th), (3, fz_i wh)]) kX11_home rfl (by decide) rfl (by omega) rfl ?_
                            refine fz_goto (tgt := 40) kX11_home rfl (by decide) ?_
                            refine fz_sub (fz_pk_sub (ls' := [(6, fz_i (x47 + 1)), (5, fz_i x48), (4, fz_i x49), (0, fz_r 53), (1, fz_i on), (2, fz_i th), (3, fz_i wh)]) [0, 3, 4, 5, 6, 7, 8] rfl) ?_
                            exact ih60 (x47 + 1) x48 x49 H75 hI79 hf86 hXw87 hRM81 hRPm88 hHB89 hHT90 (by omega) (by omega) (by omega) (by omega) (by first | exact fl_hI_y hv66 (by omega) k92 rfl ⟨by omega, by omega, by omega⟩ (lost.symm.trans (by omega)) | exact fl_hI_n hv66 (by omega) k92 rfl (Or.inl (by omega)) | exact fl_hI_n hv66 (by omega) k92 rfl (Or.inr (Or.inl (by omega))) | exact fl_hI_n hv66 (by omega) k92 rfl (Or.inr (Or.inr (Or.inl ⟨by omega, by omega⟩))) | exact fl_hI_n hv66 (by omega) k92 rfl (Or.inr (Or.inr (Or.inr (fun z => by have q := lost; omega))))) (by omega)
                          · refine fz_aload_n kX11_home rfl rfl ?_
                            refine fz_iload_n kX11_home rfl rfl ?_
                            refine fz_iload kX11_home rfl rfl ?_
                            refine fz_iload kX11_home rfl rfl ?_
                            have e123 : H75 53 0 = h 53 0 := hf86 53 0 rfl
                            refine fz_callV (d' := 4) (M' := mX11_marksIn) (As := [fz_i on, fz_i x47, fz_i ((th % 1000) + y85)]) (st := []) kX11_home rfl rfl vX11_marksIn rfl rfl rfl rfl (Nat.le_of_ble_eq_true rfl) (Nat.le_of_ble_eq_true rfl) (by decide) (sX11_marksIn H75 hI79 on x47 ((th % 1000) + y85) hXw87 hHB89 (by omega) (by omega)) (fun H124 r125 q126 o127 => ?_)
                            obtain ⟨hI128, hf129, hXw130, hHB131, y134, rfl, f132, f133⟩ := q126
                            clear o127
                            have hf135 := fz_fr_tr hf86 hf129 (show fz_su [(74, 99999), (75, 99999)] [(74, 99999), (75, 99999), (86, 99999), (87, 99999), (88, 99999)] = true from rfl)
                            have hRM136 : fz_RM H124 := fz_RM_eq (funext fun s => hf129 55 s rfl) (funext fun s => hf129 56 s rfl) (hf129 53 0 rfl) (hf129 53 2 rfl) hRM81
                            have hRPm137 : fl_RPm H124 := fl_RPm_eq (funext fun s => hf129 61 s rfl) (hf129 53 10 rfl) (hf129 53 0 rfl) hRPm88
                            have hHT138 : fl_HTh h H124 := fl_HTh_eq (funext fun s => hf129 88 s rfl) hHT90
                            have t139 : H124 53 0 = H75 53 0 := hf129 53 0 rfl
                            have k140 := fl_uM_in hf86 rfl hHT90 ⟨by omega, by omega⟩ f133
                            refine fz_if_le (tgt := 116) kX11_home rfl (by decide) (fun c142 => ?_) (fun c142 => ?_)
                            · refine fz_iload kX11_home rfl rfl ?_
                              refine fz_istore (ls' := [(5, fz_i ((th % 1000) + y85)), (8, fz_i ((th % 1000) + y85)), (7, fz_i y85), (6, fz_i x47), (4, fz_i x49), (0, fz_r 53), (1, fz_i on), (2, fz_i th), (3, fz_i wh)]) kX11_home rfl (by decide) rfl ?_
                              refine fz_iload kX11_home rfl rfl ?_
                              refine fz_istore (ls' := [(4, fz_i x47), (5, fz_i ((th % 1000) + y85)), (8, fz_i ((th % 1000) + y85)), (7, fz_i y85), (6, fz_i x47), (0, fz_r 53), (1, fz_i on), (2, fz_i th), (3, fz_i wh)]) kX11_home rfl (by decide) rfl ?_
                              refine fz_iincN (ls' := [(6, fz_i (x47 + 1)), (4, fz_i x47), (5, fz_i ((th % 1000) + y85)), (8, fz_i ((th % 1000) + y85)), (7, fz_i y85), (0, fz_r 53), (1, fz_i on), (2, fz_i th), (3, fz_i wh)]) kX11_home rfl (by decide) rfl (by omega) rfl ?_
                              refine fz_goto (tgt := 40) kX11_home rfl (by decide) ?_
                              refine fz_sub (fz_pk_sub (ls' := [(6, fz_i (x47 + 1)), (5, fz_i ((th % 1000) + y85)), (4, fz_i x47), (0, fz_r 53), (1, fz_i on), (2, fz_i th), (3, fz_i wh)]) [0, 2, 1, 5, 6, 7, 8] rfl) ?_
                              exact ih60 (x47 + 1) ((th % 1000) + y85) x47 H124 hI128 hf135 hXw130 hRM136 hRPm137 hHB131 hHT138 (by omega) (by omega) (by omega) (by omega) (by first | exact fl_hI_y hv66 (by omega) k92 rfl ⟨by omega, by omega, by omega⟩ (k140.symm.trans (by omega)) | exact fl_hI_n hv66 (by omega) k92 rfl (Or.inl (by omega)) | exact fl_hI_n hv66 (by omega) k92 rfl (Or.inr (Or.inl (by omega))) | exact fl_hI_n hv66 (by omega) k92 rfl (Or.inr (Or.inr (Or.inl ⟨by omega, by omega⟩))) | exact fl_hI_n hv66 (by omega) k92 rfl (Or.inr (Or.inr (Or.inr (fun z => by have q := k140; omega))))) (by omega)
                            · refine fz_goto (tgt := 124) kX11_home rfl (by decide) ?_
                              refine fz_iincN (ls' := [(6, fz_i (x47 + 1)), (8, fz_i ((th % 1000) + y85)), (7, fz_i y85), (5, fz_i x48), (4, fz_i x49), (0, fz_r 53), (1, fz_i on), (2, fz_i th), (3, fz_i wh)]) kX11_home rfl (by decide) rfl (by omega) rfl ?_
                              refine fz_goto (tgt := 40) kX11_home rfl (by decide) ?_
                              refine fz_sub (fz_pk_sub (ls' := [(6, fz_i (x47 + 1)), (5, fz_i x48), (4, fz_i x49), (0, fz_r 53), (1, fz_i on), (2, fz_i th), (3, fz_i wh)]) [0, 3, 4, 5, 6, 7, 8] rfl) ?_
                              exact ih60 (x47 + 1) x48 x49 H124 hI128 hf135 hXw130 hRM136 hRPm137 hHB131 hHT138 (by omega) (by omega) (by omega) (by omega) (by first | exact fl_hI_y hv66 (by omega) k92 rfl ⟨by omega, by omega, by omega⟩ (k140.symm.trans (by omega)) | exact fl_hI_n hv66 (by omega) k92 rfl (Or.inl (by omega)) | exact fl_hI_n hv66 (by omega) k92 rfl (Or.inr (Or.inl (by omega))) | exact fl_hI_n hv66 (by omega) k92 rfl (Or.inr (Or.inr (Or.inl ⟨by omega, by omega⟩))) | exact fl_hI_n hv66 (by omega) k92 rfl (Or.inr (Or.inr (Or.inr (fun z => by have q := k140; omega))))) (by omega)
              exact lp59 _ 0 0 (-2) H31 hI35 hf40 hXw41 hRM37 hRPm38 hHB43 hHT45 (by omega) (by omega) (by omega) (by omega) (⟨rfl, fun z => absurd rfl z⟩) (Nat.lt_succ_self _)
            · exfalso; omega
          · refine fz_if_ne (tgt := 26) kX11_home rfl (by decide) (fun c146 => ?_) (fun c146 => ?_)
            · exfalso; omega
            · refine fz_iconst ⟨by decide, by decide⟩ kX11_home rfl ?_
              exact fz_iret kX11_home rfl rfl (fun _ => ⟨hI, hf, hXw, hRM, hRPm, _, rfl, (by omega), (by first | exact Or.inl ⟨(by unfold fl_oH; omega), fl_hI_1 lost (by omega) (by omega)⟩ | exact Or.inl ⟨(by unfold fl_oH; omega), fl_hI_2 lost (by omega) (by omega)⟩ | exact Or.inr ⟨(by unfold fl_oH; omega), rfl⟩)⟩)
      · refine fz_if_eq (tgt := 24) kX11_home rfl (by decide) (fun c148 => ?_) (fun c148 => ?_)
        · refine fz_iconst ⟨by decide, by decide⟩ kX11_home rfl ?_
          exact fz_iret kX11_home rfl rfl (fun _ => ⟨hI, hf, hXw, hRM, hRPm, _, rfl, (by omega), (by first | exact Or.inl ⟨(by unfold fl_oH; omega), fl_hI_1 lost (by omega) (by omega)⟩ | exact Or.inl ⟨(by unfold fl_oH; omega), fl_hI_2 lost (by omega) (by omega)⟩ | exact Or.inr ⟨(by unfold fl_oH; omega), rfl⟩)⟩)
        · exfalso; omega
  · refine fz_if_eq (tgt := 24) kX11_home rfl (by decide) (fun c150 => ?_) (fun c150 => ?_)
    · refine fz_iconst ⟨by decide, by decide⟩ kX11_home rfl ?_
      exact fz_iret kX11_home rfl rfl (fun _ => ⟨hI, hf, hXw, hRM, hRPm, _, rfl, (by omega), (by first | exact Or.inl ⟨(by unfold fl_oH; omega), fl_hI_1 lost (by omega) (by omega)⟩ | exact Or.inl ⟨(by unfold fl_oH; omega), fl_hI_2 lost (by omega) (by omega)⟩ | exact Or.inr ⟨(by unfold fl_oH; omega), rfl⟩)⟩)
    · exfalso; omega

abbrev qX11_isAhead (h : fz_H) (n : Int) : fz_H → Option fz_V → Prop := fun h' r0 => h' = h ∧ ∃ r : Int, r0 = some (fz_i r) ∧ (r = 0 ∨ r = 1)
set_option maxHeartbeats 1000000 in
set_option maxRecDepth 100000 in
theorem sX11_isAhead (h : fz_H) (hI : fz_Iv h) (n : Int) (hp0 : 0 ≤ n ∧ n ≤ 4) : fz_R 0 mX11_isAhead 0 [(0, fz_r 53), (1, fz_i n)] [] h (qX11_isAhead h n) := by
  refine fz_knowl (fun hk => ?_)
  have hr_n : -2147483648 ≤ n ∧ n < 2147483648 := hk _ (List.Mem.tail _ (List.Mem.head _))
  clear hk
  refine fz_iload_n kX11_isAhead rfl rfl ?_
  refine fz_aload_n kX11_isAhead rfl rfl ?_
  refine fz_getV (v := h 53 55) kX11_isAhead rfl rfl rfl ?_
  have b1 : 0 ≤ h 53 55 ∧ h 53 55 ≤ 4 := hI.1 53 _
  refine fz_icmp_eq (tgt := 22) kX11_isAhead rfl (by decide) (fun c2 => ?_) (fun c2 => ?_)
  · refine fz_iconst ⟨by decide, by decide⟩ kX11_isAhead rfl ?_
    refine fz_istore_n (ls' := [(2, fz_i 0), (0, fz_r 53), (1, fz_i n)]) kX11_isAhead rfl (by decide) rfl ?_
    have lp5 : ∀ (n4 : Nat) (x3 : Int), (0 ≤ x3 ∧ x3 ≤ 2147483647) → (n - x3).toNat < n4 → fz_R 0 mX11_isAhead 24 [(2, fz_i x3), (0, fz_r 53), (1, fz_i n)] [] h (qX11_isAhead h n) := by
      intro n4
      induction n4 with
      | zero => intro x3 hv8 hm7; exact absurd hm7 (by omega)
      | succ n4 ih6 =>
        intro x3 hv8 hm7
        refine fz_iload_n kX11_isAhead rfl rfl ?_
        refine fz_iload_n kX11_isAhead rfl rfl ?_
        refine fz_icmp_ge (tgt := 71) kX11_isAhead rfl (by decide) (fun c9 => ?_) (fun c9 => ?_)
        · refine fz_iconst ⟨by decide, by decide⟩ kX11_isAhead rfl ?_
          exact fz_zret kX11_isAhead rfl rfl (by omega) ⟨rfl, _, rfl, (by omega)⟩
        · refine fz_aload_n kX11_isAhead rfl rfl ?_
          refine fz_getR (t := 90) kX11_isAhead rfl rfl ?_
          refine fz_iload_n kX11_isAhead rfl rfl ?_
          refine fz_ialdV (n := 4) (v := h 90 (x3.toNat)) kX11_isAhead rfl rfl (by omega) (by omega) rfl ?_
          have b10 : 0 ≤ h 90 (x3.toNat) ∧ h 90 (x3.toNat) ≤ 7 := hI.1 90 _
          refine fz_aload_n kX11_isAhead rfl rfl ?_
          refine fz_getR (t := 89) kX11_isAhead rfl rfl ?_
          refine fz_iload_n kX11_isAhead rfl rfl ?_
          refine fz_ialdV (n := 4) (v := h 89 (x3.toNat)) kX11_isAhead rfl rfl (by omega) (by omega) rfl ?_
          have b11 : 0 ≤ h 89 (x3.toNat) ∧ h 89 (x3.toNat) ≤ 7 := hI.1 89 _
          refine fz_icmp_eq (tgt := 65) kX11_isAhead rfl (by decide) (fun c12 => ?_) (fun c12 => ?_)
          · refine fz_iincN (ls' := [(2, fz_i (x3 + 1)), (0, fz_r 53), (1, fz_i n)]) kX11_isAhead rfl (by decide) rfl (by omega) rfl ?_
            refine fz_goto (tgt := 24) kX11_isAhead rfl (by decide) ?_
            exact ih6 (x3 + 1) (by omega) (by omega)
          · refine fz_aload_n kX11_isAhead rfl rfl ?_
            refine fz_getR (t := 90) kX11_isAhead rfl rfl ?_
            refine fz_iload_n kX11_isAhead rfl rfl ?_
            refine fz_ialdV (n := 4) (v := h 90 (x3.toNat)) kX11_isAhead rfl rfl (by omega) (by omega) rfl ?_
            refine fz_aload_n kX11_isAhead rfl rfl ?_
            refine fz_getR (t := 89) kX11_isAhead rfl rfl ?_
            refine fz_iload_n kX11_isAhead rfl rfl ?_
            refine fz_ialdV (n := 4) (v := h 89 (x3.toNat)) kX11_isAhead rfl rfl (by omega) (by omega) rfl ?_
            refine fz_icmp_ge (tgt := 63) kX11_isAhead rfl (by decide) (fun c13 => ?_) (fun c13 => ?_)
            · refine fz_iconst ⟨by decide, by decide⟩ kX11_isAhead rfl ?_
              exact fz_zret kX11_isAhead rfl rfl (by omega) ⟨rfl, _, rfl, (by omega)⟩
            · refine fz_iconst ⟨by decide, by decide⟩ kX11_isAhead rfl ?_
              refine fz_goto (tgt := 64) kX11_isAhead rfl (by decide) ?_
              exact fz_zret kX11_isAhead rfl rfl (by omega) ⟨rfl, _, rfl, (by omega)⟩
    exact lp5 _ 0 (by omega) (Nat.lt_succ_self _)
  · refine fz_iload_n kX11_isAhead rfl rfl ?_
    refine fz_aload_n kX11_isAhead rfl rfl ?_
    refine fz_getV (v := h 53 55) kX11_isAhead rfl rfl rfl ?_
    refine fz_icmp_ge (tgt := 20) kX11_isAhead rfl (by decide) (fun c14 => ?_) (fun c14 => ?_)
    · refine fz_iconst ⟨by decide, by decide⟩ kX11_isAhead rfl ?_
      exact fz_zret kX11_isAhead rfl rfl (by omega) ⟨rfl, _, rfl, (by omega)⟩
    · refine fz_iconst ⟨by decide, by decide⟩ kX11_isAhead rfl ?_
      refine fz_goto (tgt := 21) kX11_isAhead rfl (by decide) ?_
      exact fz_zret kX11_isAhead rfl rfl (by omega) ⟨rfl, _, rfl, (by omega)⟩

abbrev qX11_tries_4 (h : fz_H) (pe t hr su : Int) : fz_H → Option fz_V → Prop := fun h' r0 => fz_Iv h' ∧ fz_fr [(53, 54), (53, 55), (74, 99999), (75, 99999), (89, 99999), (90, 99999)] h h' ∧ fz_Xw h' ∧ fl_HB h' ∧ fz_RM h' ∧ r0 = none
set_option maxHeartbeats 1000000 in
set_option maxRecDepth 100000 in
theorem sX11_tries_4 (h : fz_H) (hI : fz_Iv h) (pe t hr su : Int) (hXw : fz_Xw h) (hHB : fl_HB h) (hRM : fz_RM h) (hp0 : 0 ≤ t ∧ t ≤ 7) (hp1 : t < h 53 0) : fz_R 1 mX11_tries 0 [(0, fz_r 53), (1, fz_i pe), (2, fz_i t), (3, fz_i hr), (4, fz_i 4), (5, fz_i su)] [] h (qX11_tries_4 h pe t hr su) := by
  refine fz_knowl (fun hk => ?_)
  have hr_pe : -2147483648 ≤ pe ∧ pe < 2147483648 := hk _ (List.Mem.tail _ (List.Mem.head _))
  have hr_t : -2147483648 ≤ t ∧ t < 2147483648 := hk _ (List.Mem.tail _ (List.Mem.tail _ (List.Mem.head _)))
  have hr_hr : -2147483648 ≤ hr ∧ hr < 2147483648 := hk _ (List.Mem.tail _ (List.Mem.tail _ (List.Mem.tail _ (List.Mem.head _))))
  have hr_su : -2147483648 ≤ su ∧ su < 2147483648 := hk _ (List.Mem.tail _ (List.Mem.tail _ (List.Mem.tail _ (List.Mem.tail _ (List.Mem.tail _ (List.Mem.head _))))))
  clear hk
  have hf : fz_fr [(53, 54), (53, 55), (74, 99999), (75, 99999), (89, 99999), (90, 99999)] h h := fz_fr_rf
  have b1 : 0 ≤ h 53 0 ∧ h 53 0 ≤ 8 := hI.1 53 _
  refine fz_iload kX11_tries rfl rfl ?_
  refine fz_aload_n kX11_tries rfl rfl ?_
  refine fz_getV (v := h 53 54) kX11_tries rfl rfl rfl ?_
  have b2 : (-2147483648) ≤ h 53 54 ∧ h 53 54 ≤ 2147483647 := hI.1 53 _
  refine fz_icmp_gt (tgt := 27) kX11_tries rfl (by decide) (fun c3 => ?_) (fun c3 => ?_)
  · refine fz_aload_n kX11_tries rfl rfl ?_
    refine fz_iload kX11_tries rfl rfl ?_
    refine fz_putI kX11_tries rfl rfl rfl ?_
    refine fz_nmu (S := [(53, 54), (53, 55), (74, 99999), (75, 99999), (89, 99999), (90, 99999)]) (h0 := h) (fz_Iv_up hI (by decide) (show ((-2147483648) : Int) ≤ su by omega) (show (su : Int) ≤ 2147483647 by omega)) (fz_fr_up hf rfl) (fun H4 hI5 hf6 e7 => ?_)
    have k8 : H4 53 54 = su := by rw [e7]; exact fz_up_e
    have t9 : H4 53 0 = h 53 0 := by rw [e7]; exact fz_up_s (by decide)
    have hXw10 : fz_Xw H4 := fz_Xw_eq (by rw [e7]; exact fz_up_s (by decide)) (by rw [e7]; exact fz_up_ne (by decide)) (by rw [e7]; exact fz_up_ne (by decide)) (by rw [e7]; exact fz_up_ne (by decide)) (by rw [e7]; exact fz_up_ne (by decide)) hXw
    have hHB11 : fl_HB H4 := fl_HB_eq (by rw [e7]; exact fz_up_ne (by decide)) (by rw [e7]; exact fz_up_ne (by decide)) (by rw [e7]; exact fz_up_s (by decide)) (by rw [e7]; exact fz_up_s (by decide)) hHB
    have hRM12 : fz_RM H4 := fz_RM_eq (by rw [e7]; exact fz_up_ne (by decide)) (by rw [e7]; exact fz_up_ne (by decide)) (by rw [e7]; exact fz_up_s (by decide)) (by rw [e7]; exact fz_up_s (by decide)) hRM
    clear e7
    refine fz_aload_n kX11_tries rfl rfl ?_
    refine fz_iload kX11_tries rfl rfl ?_
    refine fz_putI kX11_tries rfl rfl rfl ?_
    refine fz_nmu (S := [(53, 54), (53, 55), (74, 99999), (75, 99999), (89, 99999), (90, 99999)]) (h0 := h) (fz_Iv_up hI5 (by decide) (show (0 : Int) ≤ 4 by decide) (show (4 : Int) ≤ 4 by decide)) (fz_fr_up hf6 rfl) (fun H13 hI14 hf15 e16 => ?_)
    have k17 : H13 53 54 = su := by rw [e16]; exact (fz_up_s (by decide)).trans k8
    have k18 : H13 53 55 = 4 := by rw [e16]; exact fz_up_e
    have t19 : H13 53 0 = H4 53 0 := by rw [e16]; exact fz_up_s (by decide)
    have hXw20 : fz_Xw H13 := fz_Xw_eq (by rw [e16]; exact fz_up_s (by decide)) (by rw [e16]; exact fz_up_ne (by decide)) (by rw [e16]; exact fz_up_ne (by decide)) (by rw [e16]; exact fz_up_ne (by decide)) (by rw [e16]; exact fz_up_ne (by decide)) hXw10
    have hHB21 : fl_HB H13 := fl_HB_eq (by rw [e16]; exact fz_up_ne (by decide)) (by rw [e16]; exact fz_up_ne (by decide)) (by rw [e16]; exact fz_up_s (by decide)) (by rw [e16]; exact fz_up_s (by decide)) hHB11
    have hRM22 : fz_RM H13 := fz_RM_eq (by rw [e16]; exact fz_up_ne (by decide)) (by rw [e16]; exact fz_up_ne (by decide)) (by rw [e16]; exact fz_up_s (by decide)) (by rw [e16]; exact fz_up_s (by decide)) hRM12
    clear e16
    refine fz_iconst ⟨by decide, by decide⟩ kX11_tries rfl ?_
    refine fz_istore (ls' := [(6, fz_i 0), (0, fz_r 53), (1, fz_i pe), (2, fz_i t), (3, fz_i hr), (4, fz_i 4), (5, fz_i su)]) kX11_tries rfl (by decide) rfl ?_
    have lp31 : ∀ (n30 : Nat) (x23 : Int) (H27 : fz_H), fz_Iv H27 → fz_fr [(53, 54), (53, 55), (74, 99999), (75, 99999), (89, 99999), (90, 99999)] h H27 → fz_Xw H27 → fl_HB H27 → fz_RM H27 → (0 ≤ x23 ∧ x23 ≤ 2147483647) → (4 - x23).toNat < n30 → fz_R 1 mX11_tries 42 [(6, fz_i x23), (0, fz_r 53), (1, fz_i pe), (2, fz_i t), (3, fz_i hr), (4, fz_i 4), (5, fz_i su)] [] H27 (qX11_tries_4 h pe t hr su) := by
      intro n30
      induction n30 with
      | zero => intro x23 H27 hI28 hf29 hXw24 hHB25 hRM26 hv34 hm33; exact absurd hm33 (by omega)
      | succ n30 ih32 =>
        intro x23 H27 hI28 hf29 hXw24 hHB25 hRM26 hv34 hm33
        refine fz_iload kX11_tries rfl rfl ?_
        refine fz_iload kX11_tries rfl rfl ?_
        refine fz_icmp_ge (tgt := 69) kX11_tries rfl (by decide) (fun c35 => ?_) (fun c35 => ?_)
        · refine fz_iload kX11_tries rfl rfl ?_
          refine fz_iconst ⟨by decide, by decide⟩ kX11_tries rfl ?_
          refine fz_icmp_ne (tgt := 76) kX11_tries rfl (by decide) (fun c36 => ?_) (fun c36 => ?_)
          · exfalso; omega
          · exact fz_vret kX11_tries rfl rfl ⟨hI28, hf29, hXw24, hHB25, hRM26, rfl⟩
        · refine fz_aload_n kX11_tries rfl rfl ?_
          refine fz_getR (t := 89) kX11_tries rfl rfl ?_
          refine fz_iload kX11_tries rfl rfl ?_
          refine fz_aload_n kX11_tries rfl rfl ?_
          refine fz_getR (t := 90) kX11_tries rfl rfl ?_
          refine fz_iload kX11_tries rfl rfl ?_
          obtain ⟨v37, e38⟩ : ∃ z, H27 90 (x23.toNat) = z := ⟨_, rfl⟩
          refine fz_ialdV (n := 4) (v := v37) kX11_tries rfl rfl (by omega) (by omega) e38 ?_
          have b39 : 0 ≤ v37 ∧ v37 ≤ 7 := by rw [← e38]; exact hI28.1 90 _
          refine fz_iast (n := 4) kX11_tries rfl rfl (by omega) (by omega) ?_
          refine fz_nmu (S := [(53, 54), (53, 55), (74, 99999), (75, 99999), (89, 99999), (90, 99999)]) (h0 := h) (fz_Iv_up hI28 (by decide) (show (0 : Int) ≤ v37 by omega) (show (v37 : Int) ≤ 7 by omega)) (fz_fr_up hf29 rfl) (fun H40 hI41 hf42 e43 => ?_)
          have t44 : H40 53 0 = H27 53 0 := by rw [e43]; exact fz_up_o (by decide)
          have hXw45 : fz_Xw H40 := fz_Xw_eq (by rw [e43]; exact fz_up_o (by decide)) (by rw [e43]; exact fz_up_ne (by decide)) (by rw [e43]; exact fz_up_ne (by decide)) (by rw [e43]; exact fz_up_ne (by decide)) (by rw [e43]; exact fz_up_ne (by decide)) hXw24
          have hHB46 : fl_HB H40 := fl_HB_eq (by rw [e43]; exact fz_up_ne (by decide)) (by rw [e43]; exact fz_up_ne (by decide)) (by rw [e43]; exact fz_up_o (by decide)) (by rw [e43]; exact fz_up_o (by decide)) hHB25
          have hRM47 : fz_RM H40 := fz_RM_eq (by rw [e43]; exact fz_up_ne (by decide)) (by rw [e43]; exact fz_up_ne (by decide)) (by rw [e43]; exact fz_up_o (by decide)) (by rw [e43]; exact fz_up_o (by decide)) hRM26
          clear e43
          refine fz_iincN (ls' := [(6, fz_i (x23 + 1)), (0, fz_r 53), (1, fz_i pe), (2, fz_i t), (3, fz_i hr), (4, fz_i 4), (5, fz_i su)]) kX11_tries rfl (by decide) rfl (by omega) rfl ?_
          refine fz_goto (tgt := 42) kX11_tries rfl (by decide) ?_
          exact ih32 (x23 + 1) H40 hI41 hf42 hXw45 hHB46 hRM47 (by omega) (by omega)
    exact lp31 _ 0 H13 hI14 hf15 hXw20 hHB21 hRM22 (by omega) (Nat.lt_succ_self _)
  · refine fz_iload kX11_tries rfl rfl ?_
    refine fz_aload_n kX11_tries rfl rfl ?_
    refine fz_getV (v := h 53 54) kX11_tries rfl rfl rfl ?_
    refine fz_icmp_ne (tgt := 69) kX11_tries rfl (by decide) (fun c48 => ?_) (fun c48 => ?_)
    · refine fz_iload kX11_tries rfl rfl ?_
      refine fz_iconst ⟨by decide, by decide⟩ kX11_tries rfl ?_
      refine fz_icmp_ne (tgt := 76) kX11_tries rfl (by decide) (fun c49 => ?_) (fun c49 => ?_)
      · exfalso; omega
      · exact fz_vret kX11_tries rfl rfl ⟨hI, hf, hXw, hHB, hRM, rfl⟩
    · refine fz_aload_n kX11_tries rfl rfl ?_
      refine fz_iload kX11_tries rfl rfl ?_
      refine fz_callV (d' := 0) (M' := mX11_isAhead) (As := [fz_i 4]) (st := []) kX11_tries rfl rfl vX11_isAhead rfl rfl rfl rfl (Nat.le_of_ble_eq_true rfl) (Nat.le_of_ble_eq_true rfl) (by decide) (sX11_isAhead h hI 4 (by omega)) (fun H50 r51 q52 o53 => ?_)
      obtain ⟨e54, y55, rfl, p56⟩ := q52
      subst H50
      clear o53
      refine fz_if_eq (tgt := 69) kX11_tries rfl (by decide) (fun c57 => ?_) (fun c57 => ?_)
      · refine fz_iload kX11_tries rfl rfl ?_
        refine fz_iconst ⟨by decide, by decide⟩ kX11_tries rfl ?_
        refine fz_icmp_ne (tgt := 76) kX11_tries rfl (by decide) (fun c58 => ?_) (fun c58 => ?_)
        · exfalso; omega
        · exact fz_vret kX11_tries rfl rfl ⟨hI, hf, hXw, hHB, hRM, rfl⟩
      · refine fz_aload_n kX11_tries rfl rfl ?_
        refine fz_iload kX11_tries rfl rfl ?_
        refine fz_putI kX11_tries rfl rfl rfl ?_
        refine fz_nmu (S := [(53, 54), (53, 55), (74, 99999), (75, 99999), (89, 99999), (90, 99999)]) (h0 := h) (fz_Iv_up hI (by decide) (show ((-2147483648) : Int) ≤ su by omega) (show (su : Int) ≤ 2147483647 by omega)) (fz_fr_up hf rfl) (fun H59 hI60 hf61 e62 => ?_)
        have k63 : H59 53 54 = su := by rw [e62]; exact fz_up_e
        have t64 : H59 53 0 = h 53 0 := by rw [e62]; exact fz_up_s (by decide)
        have hXw65 : fz_Xw H59 := fz_Xw_eq (by rw [e62]; exact fz_up_s (by decide)) (by rw [e62]; exact fz_up_ne (by decide)) (by rw [e62]; exact fz_up_ne (by decide)) (by rw [e62]; exact fz_up_ne (by decide)) (by rw [e62]; exact fz_up_ne (by decide)) hXw
        have hHB66 : fl_HB H59 := fl_HB_eq (by rw [e62]; exact fz_up_ne (by decide)) (by rw [e62]; exact fz_up_ne (by decide)) (by rw [e62]; exact fz_up_s (by decide)) (by rw [e62]; exact fz_up_s (by decide)) hHB
        have hRM67 : fz_RM H59 := fz_RM_eq (by rw [e62]; exact fz_up_ne (by decide)) (by rw [e62]; exact fz_up_ne (by decide)) (by rw [e62]; exact fz_up_s (by decide)) (by rw [e62]; exact fz_up_s (by decide)) hRM
        clear e62
        refine fz_aload_n kX11_tries rfl rfl ?_
        refine fz_iload kX11_tries rfl rfl ?_
        refine fz_putI kX11_tries rfl rfl rfl ?_
        refine fz_nmu (S := [(53, 54), (53, 55), (74, 99999), (75, 99999), (89, 99999), (90, 99999)]) (h0 := h) (fz_Iv_up hI60 (by decide) (show (0 : Int) ≤ 4 by decide) (show (4 : Int) ≤ 4 by decide)) (fz_fr_up hf61 rfl) (fun H68 hI69 hf70 e71 => ?_)
        have k72 : H68 53 54 = su := by rw [e71]; exact (fz_up_s (by decide)).trans k63
        have k73 : H68 53 55 = 4 := by rw [e71]; exact fz_up_e
        have t74 : H68 53 0 = H59 53 0 := by rw [e71]; exact fz_up_s (by decide)
        have hXw75 : fz_Xw H68 := fz_Xw_eq (by rw [e71]; exact fz_up_s (by decide)) (by rw [e71]; exact fz_up_ne (by decide)) (by rw [e71]; exact fz_up_ne (by decide)) (by rw [e71]; exact fz_up_ne (by decide)) (by rw [e71]; exact fz_up_ne (by decide)) hXw65
        have hHB76 : fl_HB H68 := fl_HB_eq (by rw [e71]; exact fz_up_ne (by decide)) (by rw [e71]; exact fz_up_ne (by decide)) (by rw [e71]; exact fz_up_s (by decide)) (by rw [e71]; exact fz_up_s (by decide)) hHB66
        have hRM77 : fz_RM H68 := fz_RM_eq (by rw [e71]; exact fz_up_ne (by decide)) (by rw [e71]; exact fz_up_ne (by decide)) (by rw [e71]; exact fz_up_s (by decide)) (by rw [e71]; exact fz_up_s (by decide)) hRM67
        clear e71
        refine fz_iconst ⟨by decide, by decide⟩ kX11_tries rfl ?_
        refine fz_istore (ls' := [(6, fz_i 0), (0, fz_r 53), (1, fz_i pe), (2, fz_i t), (3, fz_i hr), (4, fz_i 4), (5, fz_i su)]) kX11_tries rfl (by decide) rfl ?_
        have lp86 : ∀ (n85 : Nat) (x78 : Int) (H82 : fz_H), fz_Iv H82 → fz_fr [(53, 54), (53, 55), (74, 99999), (75, 99999), (89, 99999), (90, 99999)] h H82 → fz_Xw H82 → fl_HB H82 → fz_RM H82 → (0 ≤ x78 ∧ x78 ≤ 2147483647) → (4 - x78).toNat < n85 → fz_R 1 mX11_tries 42 [(6, fz_i x78), (0, fz_r 53), (1, fz_i pe), (2, fz_i t), (3, fz_i hr), (4, fz_i 4), (5, fz_i su)] [] H82 (qX11_tries_4 h pe t hr su) := by
          intro n85
          induction n85 with
          | zero => intro x78 H82 hI83 hf84 hXw79 hHB80 hRM81 hv89 hm88; exact absurd hm88 (by omega)
          | succ n85 ih87 =>
            intro x78 H82 hI83 hf84 hXw79 hHB80 hRM81 hv89 hm88
            refine fz_iload kX11_tries rfl rfl ?_
            refine fz_iload kX11_tries rfl rfl ?_
            refine fz_icmp_ge (tgt := 69) kX11_tries rfl (by decide) (fun c90 => ?_) (fun c90 => ?_)
            · refine fz_iload kX11_tries rfl rfl ?_
              refine fz_iconst ⟨by decide, by decide⟩ kX11_tries rfl ?_
              refine fz_icmp_ne (tgt := 76) kX11_tries rfl (by decide) (fun c91 => ?_) (fun c91 => ?_)
              · exfalso; omega
              · exact fz_vret kX11_tries rfl rfl ⟨hI83, hf84, hXw79, hHB80, hRM81, rfl⟩
            · refine fz_aload_n kX11_tries rfl rfl ?_
              refine fz_getR (t := 89) kX11_tries rfl rfl ?_
              refine fz_iload kX11_tries rfl rfl ?_
              refine fz_aload_n kX11_tries rfl rfl ?_
              refine fz_getR (t := 90) kX11_tries rfl rfl ?_
              refine fz_iload kX11_tries rfl rfl ?_
              obtain ⟨v92, e93⟩ : ∃ z, H82 90 (x78.toNat) = z := ⟨_, rfl⟩
              refine fz_ialdV (n := 4) (v := v92) kX11_tries rfl rfl (by omega) (by omega) e93 ?_
              have b94 : 0 ≤ v92 ∧ v92 ≤ 7 := by rw [← e93]; exact hI83.1 90 _
              refine fz_iast (n := 4) kX11_tries rfl rfl (by omega) (by omega) ?_
              refine fz_nmu (S := [(53, 54), (53, 55), (74, 99999), (75, 99999), (89, 99999), (90, 99999)]) (h0 := h) (fz_Iv_up hI83 (by decide) (show (0 : Int) ≤ v92 by omega) (show (v92 : Int) ≤ 7 by omega)) (fz_fr_up hf84 rfl) (fun H95 hI96 hf97 e98 => ?_)
              have t99 : H95 53 0 = H82 53 0 := by rw [e98]; exact fz_up_o (by decide)
              have hXw100 : fz_Xw H95 := fz_Xw_eq (by rw [e98]; exact fz_up_o (by decide)) (by rw [e98]; exact fz_up_ne (by decide)) (by rw [e98]; exact fz_up_ne (by decide)) (by rw [e98]; exact fz_up_ne (by decide)) (by rw [e98]; exact fz_up_ne (by decide)) hXw79
              have hHB101 : fl_HB H95 := fl_HB_eq (by rw [e98]; exact fz_up_ne (by decide)) (by rw [e98]; exact fz_up_ne (by decide)) (by rw [e98]; exact fz_up_o (by decide)) (by rw [e98]; exact fz_up_o (by decide)) hHB80
              have hRM102 : fz_RM H95 := fz_RM_eq (by rw [e98]; exact fz_up_ne (by decide)) (by rw [e98]; exact fz_up_ne (by decide)) (by rw [e98]; exact fz_up_o (by decide)) (by rw [e98]; exact fz_up_o (by decide)) hRM81
              clear e98
              refine fz_iincN (ls' := [(6, fz_i (x78 + 1)), (0, fz_r 53), (1, fz_i pe), (2, fz_i t), (3, fz_i hr), (4, fz_i 4), (5, fz_i su)]) kX11_tries rfl (by decide) rfl (by omega) rfl ?_
              refine fz_goto (tgt := 42) kX11_tries rfl (by decide) ?_
              exact ih87 (x78 + 1) H95 hI96 hf97 hXw100 hHB101 hRM102 (by omega) (by omega)
        exact lp86 _ 0 H68 hI69 hf70 hXw75 hHB76 hRM77 (by omega) (Nat.lt_succ_self _)

abbrev qX11_tries_g (h : fz_H) (pe t hr su : Int) : fz_H → Option fz_V → Prop := fun h' r0 => fz_Iv h' ∧ fz_fr [(53, 54), (53, 55), (74, 99999), (75, 99999), (89, 99999), (90, 99999)] h h' ∧ fz_Xw h' ∧ fl_HB h' ∧ fz_RM h' ∧ r0 = none
set_option maxHeartbeats 1000000 in
set_option maxRecDepth 100000 in
theorem sX11_tries_g (L : Int) (D De : Nat) (hL : 1 ≤ L ∧ L ≤ 3) (hD : De < D ∧ 5 ≤ D) (ih : ∀ (h : fz_H) (hI : fz_Iv h) (pe t hr su : Int) (hXw : fz_Xw h) (hHB : fl_HB h) (hRM : fz_RM h) (hp0 : 0 ≤ t ∧ t ≤ 7) (hp1 : t < h 53 0), fz_R De mX11_tries 0 [(0, fz_r 53), (1, fz_i pe), (2, fz_i t), (3, fz_i hr), (4, fz_i (L + 1)), (5, fz_i su)] [] h (qX11_tries_g h pe t hr su)) (h : fz_H) (hI : fz_Iv h) (pe t hr su : Int) (hXw : fz_Xw h) (hHB : fl_HB h) (hRM : fz_RM h) (hp0 : 0 ≤ t ∧ t ≤ 7) (hp1 : t < h 53 0) : fz_R D mX11_tries 0 [(0, fz_r 53), (1, fz_i pe), (2, fz_i t), (3, fz_i hr), (4, fz_i L), (5, fz_i su)] [] h (qX11_tries_g h pe t hr su) := by
  refine fz_knowl (fun hk => ?_)
  have hr_pe : -2147483648 ≤ pe ∧ pe < 2147483648 := hk _ (List.Mem.tail _ (List.Mem.head _))
  have hr_t : -2147483648 ≤ t ∧ t < 2147483648 := hk _ (List.Mem.tail _ (List.Mem.tail _ (List.Mem.head _)))
  have hr_hr : -2147483648 ≤ hr ∧ hr < 2147483648 := hk _ (List.Mem.tail _ (List.Mem.tail _ (List.Mem.tail _ (List.Mem.head _))))
  have hr_su : -2147483648 ≤ su ∧ su < 2147483648 := hk _ (List.Mem.tail _ (List.Mem.tail _ (List.Mem.tail _ (List.Mem.tail _ (List.Mem.tail _ (List.Mem.head _))))))
  clear hk
  have hf : fz_fr [(53, 54), (53, 55), (74, 99999), (75, 99999), (89, 99999), (90, 99999)] h h := fz_fr_rf
  have b1 : 0 ≤ h 53 0 ∧ h 53 0 ≤ 8 := hI.1 53 _
  refine fz_iload kX11_tries rfl rfl ?_
  refine fz_aload_n kX11_tries rfl rfl ?_
  refine fz_getV (v := h 53 54) kX11_tries rfl rfl rfl ?_
  have b2 : (-2147483648) ≤ h 53 54 ∧ h 53 54 ≤ 2147483647 := hI.1 53 _
  refine fz_icmp_gt (tgt := 27) kX11_tries rfl (by decide) (fun c3 => ?_) (fun c3 => ?_)
  · refine fz_aload_n kX11_tries rfl rfl ?_
    refine fz_iload kX11_tries rfl rfl ?_
    refine fz_putI kX11_tries rfl rfl rfl ?_
    refine fz_nmu (S := [(53, 54), (53, 55), (74, 99999), (75, 99999), (89, 99999), (90, 99999)]) (h0 := h) (fz_Iv_up hI (by decide) (show ((-2147483648) : Int) ≤ su by omega) (show (su : Int) ≤ 2147483647 by omega)) (fz_fr_up hf rfl) (fun H4 hI5 hf6 e7 => ?_)
    have k8 : H4 53 54 = su := by rw [e7]; exact fz_up_e
    have t9 : H4 53 0 = h 53 0 := by rw [e7]; exact fz_up_s (by decide)
    have hXw10 : fz_Xw H4 := fz_Xw_eq (by rw [e7]; exact fz_up_s (by decide)) (by rw [e7]; exact fz_up_ne (by decide)) (by rw [e7]; exact fz_up_ne (by decide)) (by rw [e7]; exact fz_up_ne (by decide)) (by rw [e7]; exact fz_up_ne (by decide)) hXw
    have hHB11 : fl_HB H4 := fl_HB_eq (by rw [e7]; exact fz_up_ne (by decide)) (by rw [e7]; exact fz_up_ne (by decide)) (by rw [e7]; exact fz_up_s (by decide)) (by rw [e7]; exact fz_up_s (by decide)) hHB
    have hRM12 : fz_RM H4 := fz_RM_eq (by rw [e7]; exact fz_up_ne (by decide)) (by rw [e7]; exact fz_up_ne (by decide)) (by rw [e7]; exact fz_up_s (by decide)) (by rw [e7]; exact fz_up_s (by decide)) hRM
    clear e7
    refine fz_aload_n kX11_tries rfl rfl ?_
    refine fz_iload kX11_tries rfl rfl ?_
    refine fz_putI kX11_tries rfl rfl rfl ?_
    refine fz_nmu (S := [(53, 54), (53, 55), (74, 99999), (75, 99999), (89, 99999), (90, 99999)]) (h0 := h) (fz_Iv_up hI5 (by decide) (show (0 : Int) ≤ L by omega) (show (L : Int) ≤ 4 by omega)) (fz_fr_up hf6 rfl) (fun H13 hI14 hf15 e16 => ?_)
    have k17 : H13 53 54 = su := by rw [e16]; exact (fz_up_s (by decide)).trans k8
    have k18 : H13 53 55 = L := by rw [e16]; exact fz_up_e
    have t19 : H13 53 0 = H4 53 0 := by rw [e16]; exact fz_up_s (by decide)
    have hXw20 : fz_Xw H13 := fz_Xw_eq (by rw [e16]; exact fz_up_s (by decide)) (by rw [e16]; exact fz_up_ne (by decide)) (by rw [e16]; exact fz_up_ne (by decide)) (by rw [e16]; exact fz_up_ne (by decide)) (by rw [e16]; exact fz_up_ne (by decide)) hXw10
    have hHB21 : fl_HB H13 := fl_HB_eq (by rw [e16]; exact fz_up_ne (by decide)) (by rw [e16]; exact fz_up_ne (by decide)) (by rw [e16]; exact fz_up_s (by decide)) (by rw [e16]; exact fz_up_s (by decide)) hHB11
    have hRM22 : fz_RM H13 := fz_RM_eq (by rw [e16]; exact fz_up_ne (by decide)) (by rw [e16]; exact fz_up_ne (by decide)) (by rw [e16]; exact fz_up_s (by decide)) (by rw [e16]; exact fz_up_s (by decide)) hRM12
    clear e16
    refine fz_iconst ⟨by decide, by decide⟩ kX11_tries rfl ?_
    refine fz_istore (ls' := [(6, fz_i 0), (0, fz_r 53), (1, fz_i pe), (2, fz_i t), (3, fz_i hr), (4, fz_i L), (5, fz_i su)]) kX11_tries rfl (by decide) rfl ?_
    have lp31 : ∀ (n30 : Nat) (x23 : Int) (H27 : fz_H), fz_Iv H27 → fz_fr [(53, 54), (53, 55), (74, 99999), (75, 99999), (89, 99999), (90, 99999)] h H27 → fz_Xw H27 → fl_HB H27 → fz_RM H27 → (0 ≤ x23 ∧ x23 ≤ 2147483647) → (L - x23).toNat < n30 → fz_R D mX11_tries 42 [(6, fz_i x23), (0, fz_r 53), (1, fz_i pe), (2, fz_i t), (3, fz_i hr), (4, fz_i L), (5, fz_i su)] [] H27 (qX11_tries_g h pe t hr su) := by
      intro n30
      induction n30 with
      | zero => intro x23 H27 hI28 hf29 hXw24 hHB25 hRM26 hv34 hm33; exact absurd hm33 (by omega)
      | succ n30 ih32 =>
        intro x23 H27 hI28 hf29 hXw24 hHB25 hRM26 hv34 hm33
        refine fz_iload kX11_tries rfl rfl ?_
        refine fz_iload kX11_tries rfl rfl ?_
        refine fz_icmp_ge (tgt := 69) kX11_tries rfl (by decide) (fun c35 => ?_) (fun c35 => ?_)
        · refine fz_iload kX11_tries rfl rfl ?_
          refine fz_iconst ⟨by decide, by decide⟩ kX11_tries rfl ?_
          refine fz_icmp_ne (tgt := 76) kX11_tries rfl (by decide) (fun c36 => ?_) (fun c36 => ?_)
          · refine fz_iconst ⟨by decide, by decide⟩ kX11_tries rfl ?_
            refine fz_istore (ls' := [(6, fz_i 0), (0, fz_r 53), (1, fz_i pe), (2, fz_i t), (3, fz_i hr), (4, fz_i L), (5, fz_i su)]) kX11_tries rfl (by decide) rfl ?_
            have lp45 : ∀ (n44 : Nat) (x37 : Int) (H41 : fz_H), fz_Iv H41 → fz_fr [(53, 54), (53, 55), (74, 99999), (75, 99999), (89, 99999), (90, 99999)] h H41 → fz_Xw H41 → fl_HB H41 → fz_RM H41 → (0 ≤ x37 ∧ x37 ≤ 2147483647) → ((h 53 2) - x37).toNat < n44 → fz_R D mX11_tries 79 [(6, fz_i x37), (0, fz_r 53), (1, fz_i pe), (2, fz_i t), (3, fz_i hr), (4, fz_i L), (5, fz_i su)] [] H41 (qX11_tries_g h pe t hr su) := by
              intro n44
              induction n44 with
              | zero => intro x37 H41 hI42 hf43 hXw38 hHB39 hRM40 hv48 hm47; exact absurd hm47 (by omega)
              | succ n44 ih46 =>
                intro x37 H41 hI42 hf43 hXw38 hHB39 hRM40 hv48 hm47
                refine fz_iload kX11_tries rfl rfl ?_
                refine fz_aload_n kX11_tries rfl rfl ?_
                refine fz_getV (v := h 53 2) kX11_tries rfl rfl (hf43 53 2 rfl) ?_
                have b49 : 0 ≤ h 53 2 ∧ h 53 2 ≤ 12 := hI.1 53 _
                refine fz_icmp_ge (tgt := 217) kX11_tries rfl (by decide) (fun c50 => ?_) (fun c50 => ?_)
                · exact fz_vret kX11_tries rfl rfl ⟨hI42, hf43, hXw38, hHB39, hRM40, rfl⟩
                · refine fz_aload_n kX11_tries rfl rfl ?_
                  refine fz_getR (t := 55) kX11_tries rfl rfl ?_
                  refine fz_iload kX11_tries rfl rfl ?_
                  refine fz_ialdV (n := 12) (v := h 55 (x37.toNat)) kX11_tries rfl rfl (by omega) (by omega) (hf43 55 _ rfl) ?_
                  have b51 : 0 ≤ h 55 (x37.toNat) ∧ h 55 (x37.toNat) ≤ 7 := hI.1 55 _
                  refine fz_iload_n kX11_tries rfl rfl ?_
                  refine fz_icmp_eq (tgt := 113) kX11_tries rfl (by decide) (fun c52 => ?_) (fun c52 => ?_)
                  · refine fz_aload_n kX11_tries rfl rfl ?_
                    refine fz_getR (t := 55) kX11_tries rfl rfl ?_
                    refine fz_iload kX11_tries rfl rfl ?_
                    refine fz_ialdV (n := 12) (v := h 55 (x37.toNat)) kX11_tries rfl rfl (by omega) (by omega) (hf43 55 _ rfl) ?_
                    refine fz_iload_n kX11_tries rfl rfl ?_
                    refine fz_icmp_ne (tgt := 134) kX11_tries rfl (by decide) (fun c53 => ?_) (fun c53 => ?_)
                    · refine fz_aload_n kX11_tries rfl rfl ?_
                      refine fz_getR (t := 55) kX11_tries rfl rfl ?_
                      refine fz_iload kX11_tries rfl rfl ?_
                      refine fz_ialdV (n := 12) (v := h 55 (x37.toNat)) kX11_tries rfl rfl (by omega) (by omega) (hf43 55 _ rfl) ?_
                      have k54 := hRM (x37).toNat (by omega)
                      refine fz_istore (ls' := [(7, fz_i (h 55 (x37.toNat))), (6, fz_i x37), (0, fz_r 53), (1, fz_i pe), (2, fz_i t), (3, fz_i hr), (4, fz_i L), (5, fz_i su)]) kX11_tries rfl (by decide) rfl ?_
                      refine fz_iload_n kX11_tries rfl rfl ?_
                      refine fz_aload_n kX11_tries rfl rfl ?_
                      refine fz_getR (t := 57) kX11_tries rfl rfl ?_
                      refine fz_iload kX11_tries rfl rfl ?_
                      refine fz_ialdV (n := 12) (v := h 57 (x37.toNat)) kX11_tries rfl rfl (by omega) (by omega) (hf43 57 _ rfl) ?_
                      have b55 : 0 ≤ h 57 (x37.toNat) ∧ h 57 (x37.toNat) ≤ 24 := hI.1 57 _
                      refine fz_iadd kX11_tries rfl ?_
                      refine fz_nmw (fun z56 e57 => ?_)
                      refine fz_istore (ls' := [(8, fz_i z56), (7, fz_i (h 55 (x37.toNat))), (6, fz_i x37), (0, fz_r 53), (1, fz_i pe), (2, fz_i t), (3, fz_i hr), (4, fz_i L), (5, fz_i su)]) kX11_tries rfl (by decide) rfl ?_
                      refine fz_iload kX11_tries rfl rfl ?_
                      refine fz_sipush ⟨by decide, by decide⟩ kX11_tries rfl ?_
                      refine fz_icmp_gt (tgt := 211) kX11_tries rfl (by decide) (fun c58 => ?_) (fun c58 => ?_)
                      · refine fz_iincN (ls' := [(6, fz_i (x37 + 1)), (8, fz_i z56), (7, fz_i (h 55 (x37.toNat))), (0, fz_r 53), (1, fz_i pe), (2, fz_i t), (3, fz_i hr), (4, fz_i L), (5, fz_i su)]) kX11_tries rfl (by decide) rfl (by omega) rfl ?_
                        refine fz_goto (tgt := 79) kX11_tries rfl (by decide) ?_
                        refine fz_sub (fz_pk_sub (ls' := [(6, fz_i (x37 + 1)), (0, fz_r 53), (1, fz_i pe), (2, fz_i t), (3, fz_i hr), (4, fz_i L), (5, fz_i su)]) [0, 3, 4, 5, 6, 7, 8] rfl) ?_
                        exact ih46 (x37 + 1) H41 hI42 hf43 hXw38 hHB39 hRM40 (by omega) (by omega)
                      · refine fz_aload_n kX11_tries rfl rfl ?_
                        refine fz_iload_n kX11_tries rfl rfl ?_
                        refine fz_iload kX11_tries rfl rfl ?_
                        refine fz_iload kX11_tries rfl rfl ?_
                        have b59 : 0 ≤ h 53 0 ∧ h 53 0 ≤ 8 := hI.1 53 _
                        have b60 : 0 ≤ h 53 8 ∧ h 53 8 ≤ 99 := hI.1 53 _
                        have e61 : H41 53 0 = h 53 0 := hf43 53 0 rfl
                        have e62 : H41 53 8 = h 53 8 := hf43 53 8 rfl
                        refine fz_callV (d' := 4) (M' := mX11_isArrested) (As := [fz_i pe, fz_i (h 55 (x37.toNat)), fz_i z56]) (st := []) kX11_tries rfl rfl vX11_isArrested rfl rfl rfl rfl (Nat.le_of_ble_eq_true rfl) (Nat.le_of_ble_eq_true rfl) (by omega) (sX11_isArrested H41 hI42 pe (h 55 (x37.toNat)) z56 hXw38 hHB39 (by omega) (by omega)) (fun H63 r64 q65 o66 => ?_)
                        obtain ⟨hI67, hf68, hXw69, hHB70, y72, rfl, p73, f71⟩ := q65
                        clear o66
                        have hf74 := fz_fr_tr hf43 hf68 (show fz_su [(74, 99999), (75, 99999)] [(53, 54), (53, 55), (74, 99999), (75, 99999), (89, 99999), (90, 99999)] = true from rfl)
                        have hRM75 : fz_RM H63 := fz_RM_eq (funext fun s => hf68 55 s rfl) (funext fun s => hf68 56 s rfl) (hf68 53 0 rfl) (hf68 53 2 rfl) hRM40
                        have t76 : H63 53 0 = H41 53 0 := hf68 53 0 rfl
                        refine fz_if_eq (tgt := 177) kX11_tries rfl (by decide) (fun c77 => ?_) (fun c77 => ?_)
                        · refine fz_aload_n kX11_tries rfl rfl ?_
                          refine fz_getR (t := 90) kX11_tries rfl rfl ?_
                          refine fz_iload kX11_tries rfl rfl ?_
                          refine fz_iload kX11_tries rfl rfl ?_
                          refine fz_iast (n := 4) kX11_tries rfl rfl (by omega) (by omega) ?_
                          refine fz_nmu (S := [(53, 54), (53, 55), (74, 99999), (75, 99999), (89, 99999), (90, 99999)]) (h0 := h) (fz_Iv_up hI67 (by decide) (show (0 : Int) ≤ (h 55 (x37.toNat)) by omega) (show ((h 55 (x37.toNat)) : Int) ≤ 7 by omega)) (fz_fr_up hf74 rfl) (fun H78 hI79 hf80 e81 => ?_)
                          have t82 : H78 53 0 = H63 53 0 := by rw [e81]; exact fz_up_o (by decide)
                          have hXw83 : fz_Xw H78 := fz_Xw_eq (by rw [e81]; exact fz_up_o (by decide)) (by rw [e81]; exact fz_up_ne (by decide)) (by rw [e81]; exact fz_up_ne (by decide)) (by rw [e81]; exact fz_up_ne (by decide)) (by rw [e81]; exact fz_up_ne (by decide)) hXw69
                          have hHB84 : fl_HB H78 := fl_HB_eq (by rw [e81]; exact fz_up_ne (by decide)) (by rw [e81]; exact fz_up_ne (by decide)) (by rw [e81]; exact fz_up_o (by decide)) (by rw [e81]; exact fz_up_o (by decide)) hHB70
                          have hRM85 : fz_RM H78 := fz_RM_eq (by rw [e81]; exact fz_up_ne (by decide)) (by rw [e81]; exact fz_up_ne (by decide)) (by rw [e81]; exact fz_up_o (by decide)) (by rw [e81]; exact fz_up_o (by decide)) hRM75
                          clear e81
                          refine fz_aload_n kX11_tries rfl rfl ?_
                          refine fz_iload_n kX11_tries rfl rfl ?_
                          refine fz_iload kX11_tries rfl rfl ?_
                          refine fz_iload kX11_tries rfl rfl ?_
                          refine fz_iload kX11_tries rfl rfl ?_
                          refine fz_iconst ⟨by decide, by decide⟩ kX11_tries rfl ?_
                          refine fz_iaddN kX11_tries rfl (by omega) ?_
                          refine fz_eqi (y := (L + 1)) (by omega) ?_
                          refine fz_iload kX11_tries rfl rfl ?_
                          refine fz_aload_n kX11_tries rfl rfl ?_
                          refine fz_iload_n kX11_tries rfl rfl ?_
                          refine fz_iload kX11_tries rfl rfl ?_
                          refine fz_iload kX11_tries rfl rfl ?_
                          have e86 : H78 53 0 = h 53 0 := hf80 53 0 rfl
                          refine fz_callV (d' := 4) (M' := mX11_receivedIn) (As := [fz_i pe, fz_i (h 55 (x37.toNat)), fz_i z56]) (st := [fz_i su, fz_i (L + 1), fz_i z56, fz_i (h 55 (x37.toNat)), fz_i pe, fz_r 53]) kX11_tries rfl rfl vX11_receivedIn rfl rfl rfl rfl (Nat.le_of_ble_eq_true rfl) (Nat.le_of_ble_eq_true rfl) (by omega) (sX11_receivedIn H78 hI79 pe (h 55 (x37.toNat)) z56 hXw83 hHB84 (by omega) (by omega)) (fun H87 r88 q89 o90 => ?_)
                          obtain ⟨hI91, hf92, hXw93, hHB94, y97, rfl, f95, f96⟩ := q89
                          clear o90
                          have hf98 := fz_fr_tr hf80 hf92 (show fz_su [(74, 99999), (75, 99999)] [(53, 54), (53, 55), (74, 99999), (75, 99999), (89, 99999), (90, 99999)] = true from rfl)
                          have hRM99 : fz_RM H87 := fz_RM_eq (funext fun s => hf92 55 s rfl) (funext fun s => hf92 56 s rfl) (hf92 53 0 rfl) (hf92 53 2 rfl) hRM85
                          have t100 : H87 53 0 = H78 53 0 := hf92 53 0 rfl
                          refine fz_iadd kX11_tries rfl ?_
                          refine fz_nmw (fun z101 e102 => ?_)
                          have e103 : H87 53 0 = h 53 0 := hf98 53 0 rfl
                          refine fz_callV (d' := De) (M' := mX11_tries) (As := [fz_i pe, fz_i (h 55 (x37.toNat)), fz_i z56, fz_i (L + 1), fz_i z101]) (st := []) kX11_tries rfl rfl vX11_tries rfl rfl rfl rfl (Nat.le_of_ble_eq_true rfl) (Nat.le_of_ble_eq_true rfl) (by omega) (ih H87 hI91 pe (h 55 (x37.toNat)) z56 z101 hXw93 hHB94 hRM99 (by omega) (by omega)) (fun H104 r105 q106 o107 => ?_)
                          obtain ⟨hI108, hf109, hXw110, hHB111, hRM112, rfl⟩ := q106
                          clear o107
                          have hf113 := fz_fr_tr hf98 hf109 (show fz_su [(53, 54), (53, 55), (74, 99999), (75, 99999), (89, 99999), (90, 99999)] [(53, 54), (53, 55), (74, 99999), (75, 99999), (89, 99999), (90, 99999)] = true from rfl)
                          have t114 : H104 53 0 = H87 53 0 := hf109 53 0 rfl
                          refine fz_iincN (ls' := [(6, fz_i (x37 + 1)), (8, fz_i z56), (7, fz_i (h 55 (x37.toNat))), (0, fz_r 53), (1, fz_i pe), (2, fz_i t), (3, fz_i hr), (4, fz_i L), (5, fz_i su)]) kX11_tries rfl (by decide) rfl (by omega) rfl ?_
                          refine fz_goto (tgt := 79) kX11_tries rfl (by decide) ?_
                          refine fz_sub (fz_pk_sub (ls' := [(6, fz_i (x37 + 1)), (0, fz_r 53), (1, fz_i pe), (2, fz_i t), (3, fz_i hr), (4, fz_i L), (5, fz_i su)]) [0, 3, 4, 5, 6, 7, 8] rfl) ?_
                          exact ih46 (x37 + 1) H104 hI108 hf113 hXw110 hHB111 hRM112 (by omega) (by omega)
                        · refine fz_goto (tgt := 211) kX11_tries rfl (by decide) ?_
                          refine fz_iincN (ls' := [(6, fz_i (x37 + 1)), (8, fz_i z56), (7, fz_i (h 55 (x37.toNat))), (0, fz_r 53), (1, fz_i pe), (2, fz_i t), (3, fz_i hr), (4, fz_i L), (5, fz_i su)]) kX11_tries rfl (by decide) rfl (by omega) rfl ?_
                          refine fz_goto (tgt := 79) kX11_tries rfl (by decide) ?_
                          refine fz_sub (fz_pk_sub (ls' := [(6, fz_i (x37 + 1)), (0, fz_r 53), (1, fz_i pe), (2, fz_i t), (3, fz_i hr), (4, fz_i L), (5, fz_i su)]) [0, 3, 4, 5, 6, 7, 8] rfl) ?_
                          exact ih46 (x37 + 1) H63 hI67 hf74 hXw69 hHB70 hRM75 (by omega) (by omega)
                    · refine fz_aload_n kX11_tries rfl rfl ?_
                      refine fz_getR (t := 56) kX11_tries rfl rfl ?_
                      refine fz_iload kX11_tries rfl rfl ?_
                      refine fz_ialdV (n := 12) (v := h 56 (x37.toNat)) kX11_tries rfl rfl (by omega) (by omega) (hf43 56 _ rfl) ?_
                      have b115 : 0 ≤ h 56 (x37.toNat) ∧ h 56 (x37.toNat) ≤ 7 := hI.1 56 _
                      refine fz_goto (tgt := 141) kX11_tries rfl (by decide) ?_
                      have k116 := hRM (x37).toNat (by omega)
                      refine fz_istore (ls' := [(7, fz_i (h 56 (x37.toNat))), (6, fz_i x37), (0, fz_r 53), (1, fz_i pe), (2, fz_i t), (3, fz_i hr), (4, fz_i L), (5, fz_i su)]) kX11_tries rfl (by decide) rfl ?_
                      refine fz_iload_n kX11_tries rfl rfl ?_
                      refine fz_aload_n kX11_tries rfl rfl ?_
                      refine fz_getR (t := 57) kX11_tries rfl rfl ?_
                      refine fz_iload kX11_tries rfl rfl ?_
                      refine fz_ialdV (n := 12) (v := h 57 (x37.toNat)) kX11_tries rfl rfl (by omega) (by omega) (hf43 57 _ rfl) ?_
                      have b117 : 0 ≤ h 57 (x37.toNat) ∧ h 57 (x37.toNat) ≤ 24 := hI.1 57 _
                      refine fz_iadd kX11_tries rfl ?_
                      refine fz_nmw (fun z118 e119 => ?_)
                      refine fz_istore (ls' := [(8, fz_i z118), (7, fz_i (h 56 (x37.toNat))), (6, fz_i x37), (0, fz_r 53), (1, fz_i pe), (2, fz_i t), (3, fz_i hr), (4, fz_i L), (5, fz_i su)]) kX11_tries rfl (by decide) rfl ?_
                      refine fz_iload kX11_tries rfl rfl ?_
                      refine fz_sipush ⟨by decide, by decide⟩ kX11_tries rfl ?_
                      refine fz_icmp_gt (tgt := 211) kX11_tries rfl (by decide) (fun c120 => ?_) (fun c120 => ?_)
                      · refine fz_iincN (ls' := [(6, fz_i (x37 + 1)), (8, fz_i z118), (7, fz_i (h 56 (x37.toNat))), (0, fz_r 53), (1, fz_i pe), (2, fz_i t), (3, fz_i hr), (4, fz_i L), (5, fz_i su)]) kX11_tries rfl (by decide) rfl (by omega) rfl ?_
                        refine fz_goto (tgt := 79) kX11_tries rfl (by decide) ?_
                        refine fz_sub (fz_pk_sub (ls' := [(6, fz_i (x37 + 1)), (0, fz_r 53), (1, fz_i pe), (2, fz_i t), (3, fz_i hr), (4, fz_i L), (5, fz_i su)]) [0, 3, 4, 5, 6, 7, 8] rfl) ?_
                        exact ih46 (x37 + 1) H41 hI42 hf43 hXw38 hHB39 hRM40 (by omega) (by omega)
                      · refine fz_aload_n kX11_tries rfl rfl ?_
                        refine fz_iload_n kX11_tries rfl rfl ?_
                        refine fz_iload kX11_tries rfl rfl ?_
                        refine fz_iload kX11_tries rfl rfl ?_
                        have b121 : 0 ≤ h 53 0 ∧ h 53 0 ≤ 8 := hI.1 53 _
                        have b122 : 0 ≤ h 53 8 ∧ h 53 8 ≤ 99 := hI.1 53 _
                        have e123 : H41 53 0 = h 53 0 := hf43 53 0 rfl
                        have e124 : H41 53 8 = h 53 8 := hf43 53 8 rfl
                        refine fz_callV (d' := 4) (M' := mX11_isArrested) (As := [fz_i pe, fz_i (h 56 (x37.toNat)), fz_i z118]) (st := []) kX11_tries rfl rfl vX11_isArrested rfl rfl rfl rfl (Nat.le_of_ble_eq_true rfl) (Nat.le_of_ble_eq_true rfl) (by omega) (sX11_isArrested H41 hI42 pe (h 56 (x37.toNat)) z118 hXw38 hHB39 (by omega) (by omega)) (fun H125 r126 q127 o128 => ?_)
                        obtain ⟨hI129, hf130, hXw131, hHB132, y134, rfl, p135, f133⟩ := q127
                        clear o128
                        have hf136 := fz_fr_tr hf43 hf130 (show fz_su [(74, 99999), (75, 99999)] [(53, 54), (53, 55), (74, 99999), (75, 99999), (89, 99999), (90, 99999)] = true from rfl)
                        have hRM137 : fz_RM H125 := fz_RM_eq (funext fun s => hf130 55 s rfl) (funext fun s => hf130 56 s rfl) (hf130 53 0 rfl) (hf130 53 2 rfl) hRM40
                        have t138 : H125 53 0 = H41 53 0 := hf130 53 0 rfl
                        refine fz_if_eq (tgt := 177) kX11_tries rfl (by decide) (fun c139 => ?_) (fun c139 => ?_)
                        · refine fz_aload_n kX11_tries rfl rfl ?_
                          refine fz_getR (t := 90) kX11_tries rfl rfl ?_
                          refine fz_iload kX11_tries rfl rfl ?_
                          refine fz_iload kX11_tries rfl rfl ?_
                          refine fz_iast (n := 4) kX11_tries rfl rfl (by omega) (by omega) ?_
                          refine fz_nmu (S := [(53, 54), (53, 55), (74, 99999), (75, 99999), (89, 99999), (90, 99999)]) (h0 := h) (fz_Iv_up hI129 (by decide) (show (0 : Int) ≤ (h 56 (x37.toNat)) by omega) (show ((h 56 (x37.toNat)) : Int) ≤ 7 by omega)) (fz_fr_up hf136 rfl) (fun H140 hI141 hf142 e143 => ?_)
                          have t144 : H140 53 0 = H125 53 0 := by rw [e143]; exact fz_up_o (by decide)
                          have hXw145 : fz_Xw H140 := fz_Xw_eq (by rw [e143]; exact fz_up_o (by decide)) (by rw [e143]; exact fz_up_ne (by decide)) (by rw [e143]; exact fz_up_ne (by decide)) (by rw [e143]; exact fz_up_ne (by decide)) (by rw [e143]; exact fz_up_ne (by decide)) hXw131
                          have hHB146 : fl_HB H140 := fl_HB_eq (by rw [e143]; exact fz_up_ne (by decide)) (by rw [e143]; exact fz_up_ne (by decide)) (by rw [e143]; exact fz_up_o (by decide)) (by rw [e143]; exact fz_up_o (by decide)) hHB132
                          have hRM147 : fz_RM H140 := fz_RM_eq (by rw [e143]; exact fz_up_ne (by decide)) (by rw [e143]; exact fz_up_ne (by decide)) (by rw [e143]; exact fz_up_o (by decide)) (by rw [e143]; exact fz_up_o (by decide)) hRM137
                          clear e143
                          refine fz_aload_n kX11_tries rfl rfl ?_
                          refine fz_iload_n kX11_tries rfl rfl ?_
                          refine fz_iload kX11_tries rfl rfl ?_
                          refine fz_iload kX11_tries rfl rfl ?_
                          refine fz_iload kX11_tries rfl rfl ?_
                          refine fz_iconst ⟨by decide, by decide⟩ kX11_tries rfl ?_
                          refine fz_iaddN kX11_tries rfl (by omega) ?_
                          refine fz_eqi (y := (L + 1)) (by omega) ?_
                          refine fz_iload kX11_tries rfl rfl ?_
                          refine fz_aload_n kX11_tries rfl rfl ?_
                          refine fz_iload_n kX11_tries rfl rfl ?_
                          refine fz_iload kX11_tries rfl rfl ?_
                          refine fz_iload kX11_tries rfl rfl ?_
                          have e148 : H140 53 0 = h 53 0 := hf142 53 0 rfl
                          refine fz_callV (d' := 4) (M' := mX11_receivedIn) (As := [fz_i pe, fz_i (h 56 (x37.toNat)), fz_i z118]) (st := [fz_i su, fz_i (L + 1), fz_i z118, fz_i (h 56 (x37.toNat)), fz_i pe, fz_r 53]) kX11_tries rfl rfl vX11_receivedIn rfl rfl rfl rfl (Nat.le_of_ble_eq_true rfl) (Nat.le_of_ble_eq_true rfl) (by omega) (sX11_receivedIn H140 hI141 pe (h 56 (x37.toNat)) z118 hXw145 hHB146 (by omega) (by omega)) (fun H149 r150 q151 o152 => ?_)
                          obtain ⟨hI153, hf154, hXw155, hHB156, y159, rfl, f157, f158⟩ := q151
                          clear o152
                          have hf160 := fz_fr_tr hf142 hf154 (show fz_su [(74, 99999), (75, 99999)] [(53, 54), (53, 55), (74, 99999), (75, 99999), (89, 99999), (90, 99999)] = true from rfl)
                          have hRM161 : fz_RM H149 := fz_RM_eq (funext fun s => hf154 55 s rfl) (funext fun s => hf154 56 s rfl) (hf154 53 0 rfl) (hf154 53 2 rfl) hRM147
                          have t162 : H149 53 0 = H140 53 0 := hf154 53 0 rfl
                          refine fz_iadd kX11_tries rfl ?_
                          refine fz_nmw (fun z163 e164 => ?_)
                          have e165 : H149 53 0 = h 53 0 := hf160 53 0 rfl
                          refine fz_callV (d' := De) (M' := mX11_tries) (As := [fz_i pe, fz_i (h 56 (x37.toNat)), fz_i z118, fz_i (L + 1), fz_i z163]) (st := []) kX11_tries rfl rfl vX11_tries rfl rfl rfl rfl (Nat.le_of_ble_eq_true rfl) (Nat.le_of_ble_eq_true rfl) (by omega) (ih H149 hI153 pe (h 56 (x37.toNat)) z118 z163 hXw155 hHB156 hRM161 (by omega) (by omega)) (fun H166 r167 q168 o169 => ?_)
                          obtain ⟨hI170, hf171, hXw172, hHB173, hRM174, rfl⟩ := q168
                          clear o169
                          have hf175 := fz_fr_tr hf160 hf171 (show fz_su [(53, 54), (53, 55), (74, 99999), (75, 99999), (89, 99999), (90, 99999)] [(53, 54), (53, 55), (74, 99999), (75, 99999), (89, 99999), (90, 99999)] = true from rfl)
                          have t176 : H166 53 0 = H149 53 0 := hf171 53 0 rfl
                          refine fz_iincN (ls' := [(6, fz_i (x37 + 1)), (8, fz_i z118), (7, fz_i (h 56 (x37.toNat))), (0, fz_r 53), (1, fz_i pe), (2, fz_i t), (3, fz_i hr), (4, fz_i L), (5, fz_i su)]) kX11_tries rfl (by decide) rfl (by omega) rfl ?_
                          refine fz_goto (tgt := 79) kX11_tries rfl (by decide) ?_
                          refine fz_sub (fz_pk_sub (ls' := [(6, fz_i (x37 + 1)), (0, fz_r 53), (1, fz_i pe), (2, fz_i t), (3, fz_i hr), (4, fz_i L), (5, fz_i su)]) [0, 3, 4, 5, 6, 7, 8] rfl) ?_
                          exact ih46 (x37 + 1) H166 hI170 hf175 hXw172 hHB173 hRM174 (by omega) (by omega)
                        · refine fz_goto (tgt := 211) kX11_tries rfl (by decide) ?_
                          refine fz_iincN (ls' := [(6, fz_i (x37 + 1)), (8, fz_i z118), (7, fz_i (h 56 (x37.toNat))), (0, fz_r 53), (1, fz_i pe), (2, fz_i t), (3, fz_i hr), (4, fz_i L), (5, fz_i su)]) kX11_tries rfl (by decide) rfl (by omega) rfl ?_
                          refine fz_goto (tgt := 79) kX11_tries rfl (by decide) ?_
                          refine fz_sub (fz_pk_sub (ls' := [(6, fz_i (x37 + 1)), (0, fz_r 53), (1, fz_i pe), (2, fz_i t), (3, fz_i hr), (4, fz_i L), (5, fz_i su)]) [0, 3, 4, 5, 6, 7, 8] rfl) ?_
                          exact ih46 (x37 + 1) H125 hI129 hf136 hXw131 hHB132 hRM137 (by omega) (by omega)
                  · refine fz_aload_n kX11_tries rfl rfl ?_
                    refine fz_getR (t := 56) kX11_tries rfl rfl ?_
                    refine fz_iload kX11_tries rfl rfl ?_
                    refine fz_ialdV (n := 12) (v := h 56 (x37.toNat)) kX11_tries rfl rfl (by omega) (by omega) (hf43 56 _ rfl) ?_
                    have b177 : 0 ≤ h 56 (x37.toNat) ∧ h 56 (x37.toNat) ≤ 7 := hI.1 56 _
                    refine fz_iload_n kX11_tries rfl rfl ?_
                    refine fz_icmp_eq (tgt := 113) kX11_tries rfl (by decide) (fun c178 => ?_) (fun c178 => ?_)
                    · refine fz_aload_n kX11_tries rfl rfl ?_
                      refine fz_getR (t := 55) kX11_tries rfl rfl ?_
                      refine fz_iload kX11_tries rfl rfl ?_
                      refine fz_ialdV (n := 12) (v := h 55 (x37.toNat)) kX11_tries rfl rfl (by omega) (by omega) (hf43 55 _ rfl) ?_
                      refine fz_iload_n kX11_tries rfl rfl ?_
                      refine fz_icmp_ne (tgt := 134) kX11_tries rfl (by decide) (fun c179 => ?_) (fun c179 => ?_)
                      · refine fz_aload_n kX11_tries rfl rfl ?_
                        refine fz_getR (t := 55) kX11_tries rfl rfl ?_
                        refine fz_iload kX11_tries rfl rfl ?_
                        refine fz_ialdV (n := 12) (v := h 55 (x37.toNat)) kX11_tries rfl rfl (by omega) (by omega) (hf43 55 _ rfl) ?_
                        have k180 := hRM (x37).toNat (by omega)
                        refine fz_istore (ls' := [(7, fz_i (h 55 (x37.toNat))), (6, fz_i x37), (0, fz_r 53), (1, fz_i pe), (2, fz_i t), (3, fz_i hr), (4, fz_i L), (5, fz_i su)]) kX11_tries rfl (by decide) rfl ?_
                        refine fz_iload_n kX11_tries rfl rfl ?_
                        refine fz_aload_n kX11_tries rfl rfl ?_
                        refine fz_getR (t := 57) kX11_tries rfl rfl ?_
                        refine fz_iload kX11_tries rfl rfl ?_
                        refine fz_ialdV (n := 12) (v := h 57 (x37.toNat)) kX11_tries rfl rfl (by omega) (by omega) (hf43 57 _ rfl) ?_
                        have b181 : 0 ≤ h 57 (x37.toNat) ∧ h 57 (x37.toNat) ≤ 24 := hI.1 57 _
                        refine fz_iadd kX11_tries rfl ?_
                        refine fz_nmw (fun z182 e183 => ?_)
                        refine fz_istore (ls' := [(8, fz_i z182), (7, fz_i (h 55 (x37.toNat))), (6, fz_i x37), (0, fz_r 53), (1, fz_i pe), (2, fz_i t), (3, fz_i hr), (4, fz_i L), (5, fz_i su)]) kX11_tries rfl (by decide) rfl ?_
                        refine fz_iload kX11_tries rfl rfl ?_
                        refine fz_sipush ⟨by decide, by decide⟩ kX11_tries rfl ?_
                        refine fz_icmp_gt (tgt := 211) kX11_tries rfl (by decide) (fun c184 => ?_) (fun c184 => ?_)
                        · refine fz_iincN (ls' := [(6, fz_i (x37 + 1)), (8, fz_i z182), (7, fz_i (h 55 (x37.toNat))), (0, fz_r 53), (1, fz_i pe), (2, fz_i t), (3, fz_i hr), (4, fz_i L), (5, fz_i su)]) kX11_tries rfl (by decide) rfl (by omega) rfl ?_
                          refine fz_goto (tgt := 79) kX11_tries rfl (by decide) ?_
                          refine fz_sub (fz_pk_sub (ls' := [(6, fz_i (x37 + 1)), (0, fz_r 53), (1, fz_i pe), (2, fz_i t), (3, fz_i hr), (4, fz_i L), (5, fz_i su)]) [0, 3, 4, 5, 6, 7, 8] rfl) ?_
                          exact ih46 (x37 + 1) H41 hI42 hf43 hXw38 hHB39 hRM40 (by omega) (by omega)
                        · refine fz_aload_n kX11_tries rfl rfl ?_
                          refine fz_iload_n kX11_tries rfl rfl ?_
                          refine fz_iload kX11_tries rfl rfl ?_
                          refine fz_iload kX11_tries rfl rfl ?_
                          have b185 : 0 ≤ h 53 0 ∧ h 53 0 ≤ 8 := hI.1 53 _
                          have b186 : 0 ≤ h 53 8 ∧ h 53 8 ≤ 99 := hI.1 53 _
                          have e187 : H41 53 0 = h 53 0 := hf43 53 0 rfl
                          have e188 : H41 53 8 = h 53 8 := hf43 53 8 rfl
                          refine fz_callV (d' := 4) (M' := mX11_isArrested) (As := [fz_i pe, fz_i (h 55 (x37.toNat)), fz_i z182]) (st := []) kX11_tries rfl rfl vX11_isArrested rfl rfl rfl rfl (Nat.le_of_ble_eq_true rfl) (Nat.le_of_ble_eq_true rfl) (by omega) (sX11_isArrested H41 hI42 pe (h 55 (x37.toNat)) z182 hXw38 hHB39 (by omega) (by omega)) (fun H189 r190 q191 o192 => ?_)
                          obtain ⟨hI193, hf194, hXw195, hHB196, y198, rfl, p199, f197⟩ := q191
                          clear o192
                          have hf200 := fz_fr_tr hf43 hf194 (show fz_su [(74, 99999), (75, 99999)] [(53, 54), (53, 55), (74, 99999), (75, 99999), (89, 99999), (90, 99999)] = true from rfl)
                          have hRM201 : fz_RM H189 := fz_RM_eq (funext fun s => hf194 55 s rfl) (funext fun s => hf194 56 s rfl) (hf194 53 0 rfl) (hf194 53 2 rfl) hRM40
                          have t202 : H189 53 0 = H41 53 0 := hf194 53 0 rfl
                          refine fz_if_eq (tgt := 177) kX11_tries rfl (by decide) (fun c203 => ?_) (fun c203 => ?_)
                          · refine fz_aload_n kX11_tries rfl rfl ?_
                            refine fz_getR (t := 90) kX11_tries rfl rfl ?_
                            refine fz_iload kX11_tries rfl rfl ?_
                            refine fz_iload kX11_tries rfl rfl ?_
                            refine fz_iast (n := 4) kX11_tries rfl rfl (by omega) (by omega) ?_
                            refine fz_nmu (S := [(53, 54), (53, 55), (74, 99999), (75, 99999), (89, 99999), (90, 99999)]) (h0 := h) (fz_Iv_up hI193 (by decide) (show (0 : Int) ≤ (h 55 (x37.toNat)) by omega) (show ((h 55 (x37.toNat)) : Int) ≤ 7 by omega)) (fz_fr_up hf200 rfl) (fun H204 hI205 hf206 e207 => ?_)
                            have t208 : H204 53 0 = H189 53 0 := by rw [e207]; exact fz_up_o (by decide)
                            have hXw209 : fz_Xw H204 := fz_Xw_eq (by rw [e207]; exact fz_up_o (by decide)) (by rw [e207]; exact fz_up_ne (by decide)) (by rw [e207]; exact fz_up_ne (by decide)) (by rw [e207]; exact fz_up_ne (by decide)) (by rw [e207]; exact fz_up_ne (by decide)) hXw195
                            have hHB210 : fl_HB H204 := fl_HB_eq (by rw [e207]; exact fz_up_ne (by decide)) (by rw [e207]; exact fz_up_ne (by decide)) (by rw [e207]; exact fz_up_o (by decide)) (by rw [e207]; exact fz_up_o (by decide)) hHB196
                            have hRM211 : fz_RM H204 := fz_RM_eq (by rw [e207]; exact fz_up_ne (by decide)) (by rw [e207]; exact fz_up_ne (by decide)) (by rw [e207]; exact fz_up_o (by decide)) (by rw [e207]; exact fz_up_o (by decide)) hRM201
                            clear e207
                            refine fz_aload_n kX11_tries rfl rfl ?_
                            refine fz_iload_n kX11_tries rfl rfl ?_
                            refine fz_iload kX11_tries rfl rfl ?_
                            refine fz_iload kX11_tries rfl rfl ?_
                            refine fz_iload kX11_tries rfl rfl ?_
                            refine fz_iconst ⟨by decide, by decide⟩ kX11_tries rfl ?_
                            refine fz_iaddN kX11_tries rfl (by omega) ?_
                            refine fz_eqi (y := (L + 1)) (by omega) ?_
                            refine fz_iload kX11_tries rfl rfl ?_
                            refine fz_aload_n kX11_tries rfl rfl ?_
                            refine fz_iload_n kX11_tries rfl rfl ?_
                            refine fz_iload kX11_tries rfl rfl ?_
                            refine fz_iload kX11_tries rfl rfl ?_
                            have e212 : H204 53 0 = h 53 0 := hf206 53 0 rfl
                            refine fz_callV (d' := 4) (M' := mX11_receivedIn) (As := [fz_i pe, fz_i (h 55 (x37.toNat)), fz_i z182]) (st := [fz_i su, fz_i (L + 1), fz_i z182, fz_i (h 55 (x37.toNat)), fz_i pe, fz_r 53]) kX11_tries rfl rfl vX11_receivedIn rfl rfl rfl rfl (Nat.le_of_ble_eq_true rfl) (Nat.le_of_ble_eq_true rfl) (by omega) (sX11_receivedIn H204 hI205 pe (h 55 (x37.toNat)) z182 hXw209 hHB210 (by omega) (by omega)) (fun H213 r214 q215 o216 => ?_)
                            obtain ⟨hI217, hf218, hXw219, hHB220, y223, rfl, f221, f222⟩ := q215
                            clear o216
                            have hf224 := fz_fr_tr hf206 hf218 (show fz_su [(74, 99999), (75, 99999)] [(53, 54), (53, 55), (74, 99999), (75, 99999), (89, 99999), (90, 99999)] = true from rfl)
                            have hRM225 : fz_RM H213 := fz_RM_eq (funext fun s => hf218 55 s rfl) (funext fun s => hf218 56 s rfl) (hf218 53 0 rfl) (hf218 53 2 rfl) hRM211
                            have t226 : H213 53 0 = H204 53 0 := hf218 53 0 rfl
                            refine fz_iadd kX11_tries rfl ?_
                            refine fz_nmw (fun z227 e228 => ?_)
                            have e229 : H213 53 0 = h 53 0 := hf224 53 0 rfl
                            refine fz_callV (d' := De) (M' := mX11_tries) (As := [fz_i pe, fz_i (h 55 (x37.toNat)), fz_i z182, fz_i (L + 1), fz_i z227]) (st := []) kX11_tries rfl rfl vX11_tries rfl rfl rfl rfl (Nat.le_of_ble_eq_true rfl) (Nat.le_of_ble_eq_true rfl) (by omega) (ih H213 hI217 pe (h 55 (x37.toNat)) z182 z227 hXw219 hHB220 hRM225 (by omega) (by omega)) (fun H230 r231 q232 o233 => ?_)
                            obtain ⟨hI234, hf235, hXw236, hHB237, hRM238, rfl⟩ := q232
                            clear o233
                            have hf239 := fz_fr_tr hf224 hf235 (show fz_su [(53, 54), (53, 55), (74, 99999), (75, 99999), (89, 99999), (90, 99999)] [(53, 54), (53, 55), (74, 99999), (75, 99999), (89, 99999), (90, 99999)] = true from rfl)
                            have t240 : H230 53 0 = H213 53 0 := hf235 53 0 rfl
                            refine fz_iincN (ls' := [(6, fz_i (x37 + 1)), (8, fz_i z182), (7, fz_i (h 55 (x37.toNat))), (0, fz_r 53), (1, fz_i pe), (2, fz_i t), (3, fz_i hr), (4, fz_i L), (5, fz_i su)]) kX11_tries rfl (by decide) rfl (by omega) rfl ?_
                            refine fz_goto (tgt := 79) kX11_tries rfl (by decide) ?_
                            refine fz_sub (fz_pk_sub (ls' := [(6, fz_i (x37 + 1)), (0, fz_r 53), (1, fz_i pe), (2, fz_i t), (3, fz_i hr), (4, fz_i L), (5, fz_i su)]) [0, 3, 4, 5, 6, 7, 8] rfl) ?_
                            exact ih46 (x37 + 1) H230 hI234 hf239 hXw236 hHB237 hRM238 (by omega) (by omega)
                          · refine fz_goto (tgt := 211) kX11_tries rfl (by decide) ?_
                            refine fz_iincN (ls' := [(6, fz_i (x37 + 1)), (8, fz_i z182), (7, fz_i (h 55 (x37.toNat))), (0, fz_r 53), (1, fz_i pe), (2, fz_i t), (3, fz_i hr), (4, fz_i L), (5, fz_i su)]) kX11_tries rfl (by decide) rfl (by omega) rfl ?_
                            refine fz_goto (tgt := 79) kX11_tries rfl (by decide) ?_
                            refine fz_sub (fz_pk_sub (ls' := [(6, fz_i (x37 + 1)), (0, fz_r 53), (1, fz_i pe), (2, fz_i t), (3, fz_i hr), (4, fz_i L), (5, fz_i su)]) [0, 3, 4, 5, 6, 7, 8] rfl) ?_
                            exact ih46 (x37 + 1) H189 hI193 hf200 hXw195 hHB196 hRM201 (by omega) (by omega)
                      · refine fz_aload_n kX11_tries rfl rfl ?_
                        refine fz_getR (t := 56) kX11_tries rfl rfl ?_
                        refine fz_iload kX11_tries rfl rfl ?_
                        refine fz_ialdV (n := 12) (v := h 56 (x37.toNat)) kX11_tries rfl rfl (by omega) (by omega) (hf43 56 _ rfl) ?_
                        refine fz_goto (tgt := 141) kX11_tries rfl (by decide) ?_
                        have k241 := hRM (x37).toNat (by omega)
                        refine fz_istore (ls' := [(7, fz_i (h 56 (x37.toNat))), (6, fz_i x37), (0, fz_r 53), (1, fz_i pe), (2, fz_i t), (3, fz_i hr), (4, fz_i L), (5, fz_i su)]) kX11_tries rfl (by decide) rfl ?_
                        refine fz_iload_n kX11_tries rfl rfl ?_
                        refine fz_aload_n kX11_tries rfl rfl ?_
                        refine fz_getR (t := 57) kX11_tries rfl rfl ?_
                        refine fz_iload kX11_tries rfl rfl ?_
                        refine fz_ialdV (n := 12) (v := h 57 (x37.toNat)) kX11_tries rfl rfl (by omega) (by omega) (hf43 57 _ rfl) ?_
                        have b242 : 0 ≤ h 57 (x37.toNat) ∧ h 57 (x37.toNat) ≤ 24 := hI.1 57 _
                        refine fz_iadd kX11_tries rfl ?_
                        refine fz_nmw (fun z243 e244 => ?_)
                        refine fz_istore (ls' := [(8, fz_i z243), (7, fz_i (h 56 (x37.toNat))), (6, fz_i x37), (0, fz_r 53), (1, fz_i pe), (2, fz_i t), (3, fz_i hr), (4, fz_i L), (5, fz_i su)]) kX11_tries rfl (by decide) rfl ?_
                        refine fz_iload kX11_tries rfl rfl ?_
                        refine fz_sipush ⟨by decide, by decide⟩ kX11_tries rfl ?_
                        refine fz_icmp_gt (tgt := 211) kX11_tries rfl (by decide) (fun c245 => ?_) (fun c245 => ?_)
                        · refine fz_iincN (ls' := [(6, fz_i (x37 + 1)), (8, fz_i z243), (7, fz_i (h 56 (x37.toNat))), (0, fz_r 53), (1, fz_i pe), (2, fz_i t), (3, fz_i hr), (4, fz_i L), (5, fz_i su)]) kX11_tries rfl (by decide) rfl (by omega) rfl ?_
                          refine fz_goto (tgt := 79) kX11_tries rfl (by decide) ?_
                          refine fz_sub (fz_pk_sub (ls' := [(6, fz_i (x37 + 1)), (0, fz_r 53), (1, fz_i pe), (2, fz_i t), (3, fz_i hr), (4, fz_i L), (5, fz_i su)]) [0, 3, 4, 5, 6, 7, 8] rfl) ?_
                          exact ih46 (x37 + 1) H41 hI42 hf43 hXw38 hHB39 hRM40 (by omega) (by omega)
                        · refine fz_aload_n kX11_tries rfl rfl ?_
                          refine fz_iload_n kX11_tries rfl rfl ?_
                          refine fz_iload kX11_tries rfl rfl ?_
                          refine fz_iload kX11_tries rfl rfl ?_
                          have b246 : 0 ≤ h 53 0 ∧ h 53 0 ≤ 8 := hI.1 53 _
                          have b247 : 0 ≤ h 53 8 ∧ h 53 8 ≤ 99 := hI.1 53 _
                          have e248 : H41 53 0 = h 53 0 := hf43 53 0 rfl
                          have e249 : H41 53 8 = h 53 8 := hf43 53 8 rfl
                          refine fz_callV (d' := 4) (M' := mX11_isArrested) (As := [fz_i pe, fz_i (h 56 (x37.toNat)), fz_i z243]) (st := []) kX11_tries rfl rfl vX11_isArrested rfl rfl rfl rfl (Nat.le_of_ble_eq_true rfl) (Nat.le_of_ble_eq_true rfl) (by omega) (sX11_isArrested H41 hI42 pe (h 56 (x37.toNat)) z243 hXw38 hHB39 (by omega) (by omega)) (fun H250 r251 q252 o253 => ?_)
                          obtain ⟨hI254, hf255, hXw256, hHB257, y259, rfl, p260, f258⟩ := q252
                          clear o253
                          have hf261 := fz_fr_tr hf43 hf255 (show fz_su [(74, 99999), (75, 99999)] [(53, 54), (53, 55), (74, 99999), (75, 99999), (89, 99999), (90, 99999)] = true from rfl)
                          have hRM262 : fz_RM H250 := fz_RM_eq (funext fun s => hf255 55 s rfl) (funext fun s => hf255 56 s rfl) (hf255 53 0 rfl) (hf255 53 2 rfl) hRM40
                          have t263 : H250 53 0 = H41 53 0 := hf255 53 0 rfl
                          refine fz_if_eq (tgt := 177) kX11_tries rfl (by decide) (fun c264 => ?_) (fun c264 => ?_)
                          · refine fz_aload_n kX11_tries rfl rfl ?_
                            refine fz_getR (t := 90) kX11_tries rfl rfl ?_
                            refine fz_iload kX11_tries rfl rfl ?_
                            refine fz_iload kX11_tries rfl rfl ?_
                            refine fz_iast (n := 4) kX11_tries rfl rfl (by omega) (by omega) ?_
                            refine fz_nmu (S := [(53, 54), (53, 55), (74, 99999), (75, 99999), (89, 99999), (90, 99999)]) (h0 := h) (fz_Iv_up hI254 (by decide) (show (0 : Int) ≤ (h 56 (x37.toNat)) by omega) (show ((h 56 (x37.toNat)) : Int) ≤ 7 by omega)) (fz_fr_up hf261 rfl) (fun H265 hI266 hf267 e268 => ?_)
                            have t269 : H265 53 0 = H250 53 0 := by rw [e268]; exact fz_up_o (by decide)
                            have hXw270 : fz_Xw H265 := fz_Xw_eq (by rw [e268]; exact fz_up_o (by decide)) (by rw [e268]; exact fz_up_ne (by decide)) (by rw [e268]; exact fz_up_ne (by decide)) (by rw [e268]; exact fz_up_ne (by decide)) (by rw [e268]; exact fz_up_ne (by decide)) hXw256
                            have hHB271 : fl_HB H265 := fl_HB_eq (by rw [e268]; exact fz_up_ne (by decide)) (by rw [e268]; exact fz_up_ne (by decide)) (by rw [e268]; exact fz_up_o (by decide)) (by rw [e268]; exact fz_up_o (by decide)) hHB257
                            have hRM272 : fz_RM H265 := fz_RM_eq (by rw [e268]; exact fz_up_ne (by decide)) (by rw [e268]; exact fz_up_ne (by decide)) (by rw [e268]; exact fz_up_o (by decide)) (by rw [e268]; exact fz_up_o (by decide)) hRM262
                            clear e268
                            refine fz_aload_n kX11_tries rfl rfl ?_
                            refine fz_iload_n kX11_tries rfl rfl ?_
                            refine fz_iload kX11_tries rfl rfl ?_
                            refine fz_iload kX11_tries rfl rfl ?_
                            refine fz_iload kX11_tries rfl rfl ?_
                            refine fz_iconst ⟨by decide, by decide⟩ kX11_tries rfl ?_
                            refine fz_iaddN kX11_tries rfl (by omega) ?_
                            refine fz_eqi (y := (L + 1)) (by omega) ?_
                            refine fz_iload kX11_tries rfl rfl ?_
                            refine fz_aload_n kX11_tries rfl rfl ?_
                            refine fz_iload_n kX11_tries rfl rfl ?_
                            refine fz_iload kX11_tries rfl rfl ?_
                            refine fz_iload kX11_tries rfl rfl ?_
                            have e273 : H265 53 0 = h 53 0 := hf267 53 0 rfl
                            refine fz_callV (d' := 4) (M' := mX11_receivedIn) (As := [fz_i pe, fz_i (h 56 (x37.toNat)), fz_i z243]) (st := [fz_i su, fz_i (L + 1), fz_i z243, fz_i (h 56 (x37.toNat)), fz_i pe, fz_r 53]) kX11_tries rfl rfl vX11_receivedIn rfl rfl rfl rfl (Nat.le_of_ble_eq_true rfl) (Nat.le_of_ble_eq_true rfl) (by omega) (sX11_receivedIn H265 hI266 pe (h 56 (x37.toNat)) z243 hXw270 hHB271 (by omega) (by omega)) (fun H274 r275 q276 o277 => ?_)
                            obtain ⟨hI278, hf279, hXw280, hHB281, y284, rfl, f282, f283⟩ := q276
                            clear o277
                            have hf285 := fz_fr_tr hf267 hf279 (show fz_su [(74, 99999), (75, 99999)] [(53, 54), (53, 55), (74, 99999), (75, 99999), (89, 99999), (90, 99999)] = true from rfl)
                            have hRM286 : fz_RM H274 := fz_RM_eq (funext fun s => hf279 55 s rfl) (funext fun s => hf279 56 s rfl) (hf279 53 0 rfl) (hf279 53 2 rfl) hRM272
                            have t287 : H274 53 0 = H265 53 0 := hf279 53 0 rfl
                            refine fz_iadd kX11_tries rfl ?_
                            refine fz_nmw (fun z288 e289 => ?_)
                            have e290 : H274 53 0 = h 53 0 := hf285 53 0 rfl
                            refine fz_callV (d' := De) (M' := mX11_tries) (As := [fz_i pe, fz_i (h 56 (x37.toNat)), fz_i z243, fz_i (L + 1), fz_i z288]) (st := []) kX11_tries rfl rfl vX11_tries rfl rfl rfl rfl (Nat.le_of_ble_eq_true rfl) (Nat.le_of_ble_eq_true rfl) (by omega) (ih H274 hI278 pe (h 56 (x37.toNat)) z243 z288 hXw280 hHB281 hRM286 (by omega) (by omega)) (fun H291 r292 q293 o294 => ?_)
                            obtain ⟨hI295, hf296, hXw297, hHB298, hRM299, rfl⟩ := q293
                            clear o294
                            have hf300 := fz_fr_tr hf285 hf296 (show fz_su [(53, 54), (53, 55), (74, 99999), (75, 99999), (89, 99999), (90, 99999)] [(53, 54), (53, 55), (74, 99999), (75, 99999), (89, 99999), (90, 99999)] = true from rfl)
                            have t301 : H291 53 0 = H274 53 0 := hf296 53 0 rfl
                            refine fz_iincN (ls' := [(6, fz_i (x37 + 1)), (8, fz_i z243), (7, fz_i (h 56 (x37.toNat))), (0, fz_r 53), (1, fz_i pe), (2, fz_i t), (3, fz_i hr), (4, fz_i L), (5, fz_i su)]) kX11_tries rfl (by decide) rfl (by omega) rfl ?_
                            refine fz_goto (tgt := 79) kX11_tries rfl (by decide) ?_
                            refine fz_sub (fz_pk_sub (ls' := [(6, fz_i (x37 + 1)), (0, fz_r 53), (1, fz_i pe), (2, fz_i t), (3, fz_i hr), (4, fz_i L), (5, fz_i su)]) [0, 3, 4, 5, 6, 7, 8] rfl) ?_
                            exact ih46 (x37 + 1) H291 hI295 hf300 hXw297 hHB298 hRM299 (by omega) (by omega)
                          · refine fz_goto (tgt := 211) kX11_tries rfl (by decide) ?_
                            refine fz_iincN (ls' := [(6, fz_i (x37 + 1)), (8, fz_i z243), (7, fz_i (h 56 (x37.toNat))), (0, fz_r 53), (1, fz_i pe), (2, fz_i t), (3, fz_i hr), (4, fz_i L), (5, fz_i su)]) kX11_tries rfl (by decide) rfl (by omega) rfl ?_
                            refine fz_goto (tgt := 79) kX11_tries rfl (by decide) ?_
                            refine fz_sub (fz_pk_sub (ls' := [(6, fz_i (x37 + 1)), (0, fz_r 53), (1, fz_i pe), (2, fz_i t), (3, fz_i hr), (4, fz_i L), (5, fz_i su)]) [0, 3, 4, 5, 6, 7, 8] rfl) ?_
                            exact ih46 (x37 + 1) H250 hI254 hf261 hXw256 hHB257 hRM262 (by omega) (by omega)
                    · refine fz_goto (tgt := 211) kX11_tries rfl (by decide) ?_
                      refine fz_iincN (ls' := [(6, fz_i (x37 + 1)), (0, fz_r 53), (1, fz_i pe), (2, fz_i t), (3, fz_i hr), (4, fz_i L), (5, fz_i su)]) kX11_tries rfl (by decide) rfl (by omega) rfl ?_
                      refine fz_goto (tgt := 79) kX11_tries rfl (by decide) ?_
                      exact ih46 (x37 + 1) H41 hI42 hf43 hXw38 hHB39 hRM40 (by omega) (by omega)
            exact lp45 _ 0 H27 hI28 hf29 hXw24 hHB25 hRM26 (by omega) (Nat.lt_succ_self _)
          · exfalso; omega
        · refine fz_aload_n kX11_tries rfl rfl ?_
          refine fz_getR (t := 89) kX11_tries rfl rfl ?_
          refine fz_iload kX11_tries rfl rfl ?_
          refine fz_aload_n kX11_tries rfl rfl ?_
          refine fz_getR (t := 90) kX11_tries rfl rfl ?_
          refine fz_iload kX11_tries rfl rfl ?_
          obtain ⟨v302, e303⟩ : ∃ z, H27 90 (x23.toNat) = z := ⟨_, rfl⟩
          refine fz_ialdV (n := 4) (v := v302) kX11_tries rfl rfl (by omega) (by omega) e303 ?_
          have b304 : 0 ≤ v302 ∧ v302 ≤ 7 := by rw [← e303]; exact hI28.1 90 _
          refine fz_iast (n := 4) kX11_tries rfl rfl (by omega) (by omega) ?_
          refine fz_nmu (S := [(53, 54), (53, 55), (74, 99999), (75, 99999), (89, 99999), (90, 99999)]) (h0 := h) (fz_Iv_up hI28 (by decide) (show (0 : Int) ≤ v302 by omega) (show (v302 : Int) ≤ 7 by omega)) (fz_fr_up hf29 rfl) (fun H305 hI306 hf307 e308 => ?_)
          have t309 : H305 53 0 = H27 53 0 := by rw [e308]; exact fz_up_o (by decide)
          have hXw310 : fz_Xw H305 := fz_Xw_eq (by rw [e308]; exact fz_up_o (by decide)) (by rw [e308]; exact fz_up_ne (by decide)) (by rw [e308]; exact fz_up_ne (by decide)) (by rw [e308]; exact fz_up_ne (by decide)) (by rw [e308]; exact fz_up_ne (by decide)) hXw24
          have hHB311 : fl_HB H305 := fl_HB_eq (by rw [e308]; exact fz_up_ne (by decide)) (by rw [e308]; exact fz_up_ne (by decide)) (by rw [e308]; exact fz_up_o (by decide)) (by rw [e308]; exact fz_up_o (by decide)) hHB25
          have hRM312 : fz_RM H305 := fz_RM_eq (by rw [e308]; exact fz_up_ne (by decide)) (by rw [e308]; exact fz_up_ne (by decide)) (by rw [e308]; exact fz_up_o (by decide)) (by rw [e308]; exact fz_up_o (by decide)) hRM26
          clear e308
          refine fz_iincN (ls' := [(6, fz_i (x23 + 1)), (0, fz_r 53), (1, fz_i pe), (2, fz_i t), (3, fz_i hr), (4, fz_i L), (5, fz_i su)]) kX11_tries rfl (by decide) rfl (by omega) rfl ?_
          refine fz_goto (tgt := 42) kX11_tries rfl (by decide) ?_
          exact ih32 (x23 + 1) H305 hI306 hf307 hXw310 hHB311 hRM312 (by omega) (by omega)
    exact lp31 _ 0 H13 hI14 hf15 hXw20 hHB21 hRM22 (by omega) (Nat.lt_succ_self _)
  · refine fz_iload kX11_tries rfl rfl ?_
    refine fz_aload_n kX11_tries rfl rfl ?_
    refine fz_getV (v := h 53 54) kX11_tries rfl rfl rfl ?_
    refine fz_icmp_ne (tgt := 69) kX11_tries rfl (by decide) (fun c313 => ?_) (fun c313 => ?_)
    · refine fz_iload kX11_tries rfl rfl ?_
      refine fz_iconst ⟨by decide, by decide⟩ kX11_tries rfl ?_
      refine fz_icmp_ne (tgt := 76) kX11_tries rfl (by decide) (fun c314 => ?_) (fun c314 => ?_)
      · refine fz_iconst ⟨by decide, by decide⟩ kX11_tries rfl ?_
        refine fz_istore (ls' := [(6, fz_i 0), (0, fz_r 53), (1, fz_i pe), (2, fz_i t), (3, fz_i hr), (4, fz_i L), (5, fz_i su)]) kX11_tries rfl (by decide) rfl ?_
        have lp323 : ∀ (n322 : Nat) (x315 : Int) (H319 : fz_H), fz_Iv H319 → fz_fr [(53, 54), (53, 55), (74, 99999), (75, 99999), (89, 99999), (90, 99999)] h H319 → fz_Xw H319 → fl_HB H319 → fz_RM H319 → (0 ≤ x315 ∧ x315 ≤ 2147483647) → ((h 53 2) - x315).toNat < n322 → fz_R D mX11_tries 79 [(6, fz_i x315), (0, fz_r 53), (1, fz_i pe), (2, fz_i t), (3, fz_i hr), (4, fz_i L), (5, fz_i su)] [] H319 (qX11_tries_g h pe t hr su) := by
          intro n322
          induction n322 with
          | zero => intro x315 H319 hI320 hf321 hXw316 hHB317 hRM318 hv326 hm325; exact absurd hm325 (by omega)
          | succ n322 ih324 =>
            intro x315 H319 hI320 hf321 hXw316 hHB317 hRM318 hv326 hm325
            refine fz_iload kX11_tries rfl rfl ?_
            refine fz_aload_n kX11_tries rfl rfl ?_
            refine fz_getV (v := h 53 2) kX11_tries rfl rfl (hf321 53 2 rfl) ?_
            have b327 : 0 ≤ h 53 2 ∧ h 53 2 ≤ 12 := hI.1 53 _
            refine fz_icmp_ge (tgt := 217) kX11_tries rfl (by decide) (fun c328 => ?_) (fun c328 => ?_)
            · exact fz_vret kX11_tries rfl rfl ⟨hI320, hf321, hXw316, hHB317, hRM318, rfl⟩
            · refine fz_aload_n kX11_tries rfl rfl ?_
              refine fz_getR (t := 55) kX11_tries rfl rfl ?_
              refine fz_iload kX11_tries rfl rfl ?_
              refine fz_ialdV (n := 12) (v := h 55 (x315.toNat)) kX11_tries rfl rfl (by omega) (by omega) (hf321 55 _ rfl) ?_
              have b329 : 0 ≤ h 55 (x315.toNat) ∧ h 55 (x315.toNat) ≤ 7 := hI.1 55 _
              refine fz_iload_n kX11_tries rfl rfl ?_
              refine fz_icmp_eq (tgt := 113) kX11_tries rfl (by decide) (fun c330 => ?_) (fun c330 => ?_)
              · refine fz_aload_n kX11_tries rfl rfl ?_
                refine fz_getR (t := 55) kX11_tries rfl rfl ?_
                refine fz_iload kX11_tries rfl rfl ?_
                refine fz_ialdV (n := 12) (v := h 55 (x315.toNat)) kX11_tries rfl rfl (by omega) (by omega) (hf321 55 _ rfl) ?_
                refine fz_iload_n kX11_tries rfl rfl ?_
                refine fz_icmp_ne (tgt := 134) kX11_tries rfl (by decide) (fun c331 => ?_) (fun c331 => ?_)
                · refine fz_aload_n kX11_tries rfl rfl ?_
                  refine fz_getR (t := 55) kX11_tries rfl rfl ?_
                  refine fz_iload kX11_tries rfl rfl ?_
                  refine fz_ialdV (n := 12) (v := h 55 (x315.toNat)) kX11_tries rfl rfl (by omega) (by omega) (hf321 55 _ rfl) ?_
                  have k332 := hRM (x315).toNat (by omega)
                  refine fz_istore (ls' := [(7, fz_i (h 55 (x315.toNat))), (6, fz_i x315), (0, fz_r 53), (1, fz_i pe), (2, fz_i t), (3, fz_i hr), (4, fz_i L), (5, fz_i su)]) kX11_tries rfl (by decide) rfl ?_
                  refine fz_iload_n kX11_tries rfl rfl ?_
                  refine fz_aload_n kX11_tries rfl rfl ?_
                  refine fz_getR (t := 57) kX11_tries rfl rfl ?_
                  refine fz_iload kX11_tries rfl rfl ?_
                  refine fz_ialdV (n := 12) (v := h 57 (x315.toNat)) kX11_tries rfl rfl (by omega) (by omega) (hf321 57 _ rfl) ?_
                  have b333 : 0 ≤ h 57 (x315.toNat) ∧ h 57 (x315.toNat) ≤ 24 := hI.1 57 _
                  refine fz_iadd kX11_tries rfl ?_
                  refine fz_nmw (fun z334 e335 => ?_)
                  refine fz_istore (ls' := [(8, fz_i z334), (7, fz_i (h 55 (x315.toNat))), (6, fz_i x315), (0, fz_r 53), (1, fz_i pe), (2, fz_i t), (3, fz_i hr), (4, fz_i L), (5, fz_i su)]) kX11_tries rfl (by decide) rfl ?_
                  refine fz_iload kX11_tries rfl rfl ?_
                  refine fz_sipush ⟨by decide, by decide⟩ kX11_tries rfl ?_
                  refine fz_icmp_gt (tgt := 211) kX11_tries rfl (by decide) (fun c336 => ?_) (fun c336 => ?_)
                  · refine fz_iincN (ls' := [(6, fz_i (x315 + 1)), (8, fz_i z334), (7, fz_i (h 55 (x315.toNat))), (0, fz_r 53), (1, fz_i pe), (2, fz_i t), (3, fz_i hr), (4, fz_i L), (5, fz_i su)]) kX11_tries rfl (by decide) rfl (by omega) rfl ?_
                    refine fz_goto (tgt := 79) kX11_tries rfl (by decide) ?_
                    refine fz_sub (fz_pk_sub (ls' := [(6, fz_i (x315 + 1)), (0, fz_r 53), (1, fz_i pe), (2, fz_i t), (3, fz_i hr), (4, fz_i L), (5, fz_i su)]) [0, 3, 4, 5, 6, 7, 8] rfl) ?_
                    exact ih324 (x315 + 1) H319 hI320 hf321 hXw316 hHB317 hRM318 (by omega) (by omega)
                  · refine fz_aload_n kX11_tries rfl rfl ?_
                    refine fz_iload_n kX11_tries rfl rfl ?_
                    refine fz_iload kX11_tries rfl rfl ?_
                    refine fz_iload kX11_tries rfl rfl ?_
                    have b337 : 0 ≤ h 53 0 ∧ h 53 0 ≤ 8 := hI.1 53 _
                    have b338 : 0 ≤ h 53 8 ∧ h 53 8 ≤ 99 := hI.1 53 _
                    have e339 : H319 53 0 = h 53 0 := hf321 53 0 rfl
                    have e340 : H319 53 8 = h 53 8 := hf321 53 8 rfl
                    refine fz_callV (d' := 4) (M' := mX11_isArrested) (As := [fz_i pe, fz_i (h 55 (x315.toNat)), fz_i z334]) (st := []) kX11_tries rfl rfl vX11_isArrested rfl rfl rfl rfl (Nat.le_of_ble_eq_true rfl) (Nat.le_of_ble_eq_true rfl) (by omega) (sX11_isArrested H319 hI320 pe (h 55 (x315.toNat)) z334 hXw316 hHB317 (by omega) (by omega)) (fun H341 r342 q343 o344 => ?_)
                    obtain ⟨hI345, hf346, hXw347, hHB348, y350, rfl, p351, f349⟩ := q343
                    clear o344
                    have hf352 := fz_fr_tr hf321 hf346 (show fz_su [(74, 99999), (75, 99999)] [(53, 54), (53, 55), (74, 99999), (75, 99999), (89, 99999), (90, 99999)] = true from rfl)
                    have hRM353 : fz_RM H341 := fz_RM_eq (funext fun s => hf346 55 s rfl) (funext fun s => hf346 56 s rfl) (hf346 53 0 rfl) (hf346 53 2 rfl) hRM318
                    have t354 : H341 53 0 = H319 53 0 := hf346 53 0 rfl
                    refine fz_if_eq (tgt := 177) kX11_tries rfl (by decide) (fun c355 => ?_) (fun c355 => ?_)
                    · refine fz_aload_n kX11_tries rfl rfl ?_
                      refine fz_getR (t := 90) kX11_tries rfl rfl ?_
                      refine fz_iload kX11_tries rfl rfl ?_
                      refine fz_iload kX11_tries rfl rfl ?_
                      refine fz_iast (n := 4) kX11_tries rfl rfl (by omega) (by omega) ?_
                      refine fz_nmu (S := [(53, 54), (53, 55), (74, 99999), (75, 99999), (89, 99999), (90, 99999)]) (h0 := h) (fz_Iv_up hI345 (by decide) (show (0 : Int) ≤ (h 55 (x315.toNat)) by omega) (show ((h 55 (x315.toNat)) : Int) ≤ 7 by omega)) (fz_fr_up hf352 rfl) (fun H356 hI357 hf358 e359 => ?_)
                      have t360 : H356 53 0 = H341 53 0 := by rw [e359]; exact fz_up_o (by decide)
                      have hXw361 : fz_Xw H356 := fz_Xw_eq (by rw [e359]; exact fz_up_o (by decide)) (by rw [e359]; exact fz_up_ne (by decide)) (by rw [e359]; exact fz_up_ne (by decide)) (by rw [e359]; exact fz_up_ne (by decide)) (by rw [e359]; exact fz_up_ne (by decide)) hXw347
                      have hHB362 : fl_HB H356 := fl_HB_eq (by rw [e359]; exact fz_up_ne (by decide)) (by rw [e359]; exact fz_up_ne (by decide)) (by rw [e359]; exact fz_up_o (by decide)) (by rw [e359]; exact fz_up_o (by decide)) hHB348
                      have hRM363 : fz_RM H356 := fz_RM_eq (by rw [e359]; exact fz_up_ne (by decide)) (by rw [e359]; exact fz_up_ne (by decide)) (by rw [e359]; exact fz_up_o (by decide)) (by rw [e359]; exact fz_up_o (by decide)) hRM353
                      clear e359
                      refine fz_aload_n kX11_tries rfl rfl ?_
                      refine fz_iload_n kX11_tries rfl rfl ?_
                      refine fz_iload kX11_tries rfl rfl ?_
                      refine fz_iload kX11_tries rfl rfl ?_
                      refine fz_iload kX11_tries rfl rfl ?_
                      refine fz_iconst ⟨by decide, by decide⟩ kX11_tries rfl ?_
                      refine fz_iaddN kX11_tries rfl (by omega) ?_
                      refine fz_eqi (y := (L + 1)) (by omega) ?_
                      refine fz_iload kX11_tries rfl rfl ?_
                      refine fz_aload_n kX11_tries rfl rfl ?_
                      refine fz_iload_n kX11_tries rfl rfl ?_
                      refine fz_iload kX11_tries rfl rfl ?_
                      refine fz_iload kX11_tries rfl rfl ?_
                      have e364 : H356 53 0 = h 53 0 := hf358 53 0 rfl
                      refine fz_callV (d' := 4) (M' := mX11_receivedIn) (As := [fz_i pe, fz_i (h 55 (x315.toNat)), fz_i z334]) (st := [fz_i su, fz_i (L + 1), fz_i z334, fz_i (h 55 (x315.toNat)), fz_i pe, fz_r 53]) kX11_tries rfl rfl vX11_receivedIn rfl rfl rfl rfl (Nat.le_of_ble_eq_true rfl) (Nat.le_of_ble_eq_true rfl) (by omega) (sX11_receivedIn H356 hI357 pe (h 55 (x315.toNat)) z334 hXw361 hHB362 (by omega) (by omega)) (fun H365 r366 q367 o368 => ?_)
                      obtain ⟨hI369, hf370, hXw371, hHB372, y375, rfl, f373, f374⟩ := q367
                      clear o368
                      have hf376 := fz_fr_tr hf358 hf370 (show fz_su [(74, 99999), (75, 99999)] [(53, 54), (53, 55), (74, 99999), (75, 99999), (89, 99999), (90, 99999)] = true from rfl)
                      have hRM377 : fz_RM H365 := fz_RM_eq (funext fun s => hf370 55 s rfl) (funext fun s => hf370 56 s rfl) (hf370 53 0 rfl) (hf370 53 2 rfl) hRM363
                      have t378 : H365 53 0 = H356 53 0 := hf370 53 0 rfl
                      refine fz_iadd kX11_tries rfl ?_
                      refine fz_nmw (fun z379 e380 => ?_)
                      have e381 : H365 53 0 = h 53 0 := hf376 53 0 rfl
                      refine fz_callV (d' := De) (M' := mX11_tries) (As := [fz_i pe, fz_i (h 55 (x315.toNat)), fz_i z334, fz_i (L + 1), fz_i z379]) (st := []) kX11_tries rfl rfl vX11_tries rfl rfl rfl rfl (Nat.le_of_ble_eq_true rfl) (Nat.le_of_ble_eq_true rfl) (by omega) (ih H365 hI369 pe (h 55 (x315.toNat)) z334 z379 hXw371 hHB372 hRM377 (by omega) (by omega)) (fun H382 r383 q384 o385 => ?_)
                      obtain ⟨hI386, hf387, hXw388, hHB389, hRM390, rfl⟩ := q384
                      clear o385
                      have hf391 := fz_fr_tr hf376 hf387 (show fz_su [(53, 54), (53, 55), (74, 99999), (75, 99999), (89, 99999), (90, 99999)] [(53, 54), (53, 55), (74, 99999), (75, 99999), (89, 99999), (90, 99999)] = true from rfl)
                      have t392 : H382 53 0 = H365 53 0 := hf387 53 0 rfl
                      refine fz_iincN (ls' := [(6, fz_i (x315 + 1)), (8, fz_i z334), (7, fz_i (h 55 (x315.toNat))), (0, fz_r 53), (1, fz_i pe), (2, fz_i t), (3, fz_i hr), (4, fz_i L), (5, fz_i su)]) kX11_tries rfl (by decide) rfl (by omega) rfl ?_
                      refine fz_goto (tgt := 79) kX11_tries rfl (by decide) ?_
                      refine fz_sub (fz_pk_sub (ls' := [(6, fz_i (x315 + 1)), (0, fz_r 53), (1, fz_i pe), (2, fz_i t), (3, fz_i hr), (4, fz_i L), (5, fz_i su)]) [0, 3, 4, 5, 6, 7, 8] rfl) ?_
                      exact ih324 (x315 + 1) H382 hI386 hf391 hXw388 hHB389 hRM390 (by omega) (by omega)
                    · refine fz_goto (tgt := 211) kX11_tries rfl (by decide) ?_
                      refine fz_iincN (ls' := [(6, fz_i (x315 + 1)), (8, fz_i z334), (7, fz_i (h 55 (x315.toNat))), (0, fz_r 53), (1, fz_i pe), (2, fz_i t), (3, fz_i hr), (4, fz_i L), (5, fz_i su)]) kX11_tries rfl (by decide) rfl (by omega) rfl ?_
                      refine fz_goto (tgt := 79) kX11_tries rfl (by decide) ?_
                      refine fz_sub (fz_pk_sub (ls' := [(6, fz_i (x315 + 1)), (0, fz_r 53), (1, fz_i pe), (2, fz_i t), (3, fz_i hr), (4, fz_i L), (5, fz_i su)]) [0, 3, 4, 5, 6, 7, 8] rfl) ?_
                      exact ih324 (x315 + 1) H341 hI345 hf352 hXw347 hHB348 hRM353 (by omega) (by omega)
                · refine fz_aload_n kX11_tries rfl rfl ?_
                  refine fz_getR (t := 56) kX11_tries rfl rfl ?_
                  refine fz_iload kX11_tries rfl rfl ?_
                  refine fz_ialdV (n := 12) (v := h 56 (x315.toNat)) kX11_tries rfl rfl (by omega) (by omega) (hf321 56 _ rfl) ?_
                  have b393 : 0 ≤ h 56 (x315.toNat) ∧ h 56 (x315.toNat) ≤ 7 := hI.1 56 _
                  refine fz_goto (tgt := 141) kX11_tries rfl (by decide) ?_
                  have k394 := hRM (x315).toNat (by omega)
                  refine fz_istore (ls' := [(7, fz_i (h 56 (x315.toNat))), (6, fz_i x315), (0, fz_r 53), (1, fz_i pe), (2, fz_i t), (3, fz_i hr), (4, fz_i L), (5, fz_i su)]) kX11_tries rfl (by decide) rfl ?_
                  refine fz_iload_n kX11_tries rfl rfl ?_
                  refine fz_aload_n kX11_tries rfl rfl ?_
                  refine fz_getR (t := 57) kX11_tries rfl rfl ?_
                  refine fz_iload kX11_tries rfl rfl ?_
                  refine fz_ialdV (n := 12) (v := h 57 (x315.toNat)) kX11_tries rfl rfl (by omega) (by omega) (hf321 57 _ rfl) ?_
                  have b395 : 0 ≤ h 57 (x315.toNat) ∧ h 57 (x315.toNat) ≤ 24 := hI.1 57 _
                  refine fz_iadd kX11_tries rfl ?_
                  refine fz_nmw (fun z396 e397 => ?_)
                  refine fz_istore (ls' := [(8, fz_i z396), (7, fz_i (h 56 (x315.toNat))), (6, fz_i x315), (0, fz_r 53), (1, fz_i pe), (2, fz_i t), (3, fz_i hr), (4, fz_i L), (5, fz_i su)]) kX11_tries rfl (by decide) rfl ?_
                  refine fz_iload kX11_tries rfl rfl ?_
                  refine fz_sipush ⟨by decide, by decide⟩ kX11_tries rfl ?_
                  refine fz_icmp_gt (tgt := 211) kX11_tries rfl (by decide) (fun c398 => ?_) (fun c398 => ?_)
                  · refine fz_iincN (ls' := [(6, fz_i (x315 + 1)), (8, fz_i z396), (7, fz_i (h 56 (x315.toNat))), (0, fz_r 53), (1, fz_i pe), (2, fz_i t), (3, fz_i hr), (4, fz_i L), (5, fz_i su)]) kX11_tries rfl (by decide) rfl (by omega) rfl ?_
                    refine fz_goto (tgt := 79) kX11_tries rfl (by decide) ?_
                    refine fz_sub (fz_pk_sub (ls' := [(6, fz_i (x315 + 1)), (0, fz_r 53), (1, fz_i pe), (2, fz_i t), (3, fz_i hr), (4, fz_i L), (5, fz_i su)]) [0, 3, 4, 5, 6, 7, 8] rfl) ?_
                    exact ih324 (x315 + 1) H319 hI320 hf321 hXw316 hHB317 hRM318 (by omega) (by omega)
                  · refine fz_aload_n kX11_tries rfl rfl ?_
                    refine fz_iload_n kX11_tries rfl rfl ?_
                    refine fz_iload kX11_tries rfl rfl ?_
                    refine fz_iload kX11_tries rfl rfl ?_
                    have b399 : 0 ≤ h 53 0 ∧ h 53 0 ≤ 8 := hI.1 53 _
                    have b400 : 0 ≤ h 53 8 ∧ h 53 8 ≤ 99 := hI.1 53 _
                    have e401 : H319 53 0 = h 53 0 := hf321 53 0 rfl
                    have e402 : H319 53 8 = h 53 8 := hf321 53 8 rfl
                    refine fz_callV (d' := 4) (M' := mX11_isArrested) (As := [fz_i pe, fz_i (h 56 (x315.toNat)), fz_i z396]) (st := []) kX11_tries rfl rfl vX11_isArrested rfl rfl rfl rfl (Nat.le_of_ble_eq_true rfl) (Nat.le_of_ble_eq_true rfl) (by omega) (sX11_isArrested H319 hI320 pe (h 56 (x315.toNat)) z396 hXw316 hHB317 (by omega) (by omega)) (fun H403 r404 q405 o406 => ?_)
                    obtain ⟨hI407, hf408, hXw409, hHB410, y412, rfl, p413, f411⟩ := q405
                    clear o406
                    have hf414 := fz_fr_tr hf321 hf408 (show fz_su [(74, 99999), (75, 99999)] [(53, 54), (53, 55), (74, 99999), (75, 99999), (89, 99999), (90, 99999)] = true from rfl)
                    have hRM415 : fz_RM H403 := fz_RM_eq (funext fun s => hf408 55 s rfl) (funext fun s => hf408 56 s rfl) (hf408 53 0 rfl) (hf408 53 2 rfl) hRM318
                    have t416 : H403 53 0 = H319 53 0 := hf408 53 0 rfl
                    refine fz_if_eq (tgt := 177) kX11_tries rfl (by decide) (fun c417 => ?_) (fun c417 => ?_)
                    · refine fz_aload_n kX11_tries rfl rfl ?_
                      refine fz_getR (t := 90) kX11_tries rfl rfl ?_
                      refine fz_iload kX11_tries rfl rfl ?_
                      refine fz_iload kX11_tries rfl rfl ?_
                      refine fz_iast (n := 4) kX11_tries rfl rfl (by omega) (by omega) ?_
                      refine fz_nmu (S := [(53, 54), (53, 55), (74, 99999), (75, 99999), (89, 99999), (90, 99999)]) (h0 := h) (fz_Iv_up hI407 (by decide) (show (0 : Int) ≤ (h 56 (x315.toNat)) by omega) (show ((h 56 (x315.toNat)) : Int) ≤ 7 by omega)) (fz_fr_up hf414 rfl) (fun H418 hI419 hf420 e421 => ?_)
                      have t422 : H418 53 0 = H403 53 0 := by rw [e421]; exact fz_up_o (by decide)
                      have hXw423 : fz_Xw H418 := fz_Xw_eq (by rw [e421]; exact fz_up_o (by decide)) (by rw [e421]; exact fz_up_ne (by decide)) (by rw [e421]; exact fz_up_ne (by decide)) (by rw [e421]; exact fz_up_ne (by decide)) (by rw [e421]; exact fz_up_ne (by decide)) hXw409
                      have hHB424 : fl_HB H418 := fl_HB_eq (by rw [e421]; exact fz_up_ne (by decide)) (by rw [e421]; exact fz_up_ne (by decide)) (by rw [e421]; exact fz_up_o (by decide)) (by rw [e421]; exact fz_up_o (by decide)) hHB410
                      have hRM425 : fz_RM H418 := fz_RM_eq (by rw [e421]; exact fz_up_ne (by decide)) (by rw [e421]; exact fz_up_ne (by decide)) (by rw [e421]; exact fz_up_o (by decide)) (by rw [e421]; exact fz_up_o (by decide)) hRM415
                      clear e421
                      refine fz_aload_n kX11_tries rfl rfl ?_
                      refine fz_iload_n kX11_tries rfl rfl ?_
                      refine fz_iload kX11_tries rfl rfl ?_
                      refine fz_iload kX11_tries rfl rfl ?_
                      refine fz_iload kX11_tries rfl rfl ?_
                      refine fz_iconst ⟨by decide, by decide⟩ kX11_tries rfl ?_
                      refine fz_iaddN kX11_tries rfl (by omega) ?_
                      refine fz_eqi (y := (L + 1)) (by omega) ?_
                      refine fz_iload kX11_tries rfl rfl ?_
                      refine fz_aload_n kX11_tries rfl rfl ?_
                      refine fz_iload_n kX11_tries rfl rfl ?_
                      refine fz_iload kX11_tries rfl rfl ?_
                      refine fz_iload kX11_tries rfl rfl ?_
                      have e426 : H418 53 0 = h 53 0 := hf420 53 0 rfl
                      refine fz_callV (d' := 4) (M' := mX11_receivedIn) (As := [fz_i pe, fz_i (h 56 (x315.toNat)), fz_i z396]) (st := [fz_i su, fz_i (L + 1), fz_i z396, fz_i (h 56 (x315.toNat)), fz_i pe, fz_r 53]) kX11_tries rfl rfl vX11_receivedIn rfl rfl rfl rfl (Nat.le_of_ble_eq_true rfl) (Nat.le_of_ble_eq_true rfl) (by omega) (sX11_receivedIn H418 hI419 pe (h 56 (x315.toNat)) z396 hXw423 hHB424 (by omega) (by omega)) (fun H427 r428 q429 o430 => ?_)
                      obtain ⟨hI431, hf432, hXw433, hHB434, y437, rfl, f435, f436⟩ := q429
                      clear o430
                      have hf438 := fz_fr_tr hf420 hf432 (show fz_su [(74, 99999), (75, 99999)] [(53, 54), (53, 55), (74, 99999), (75, 99999), (89, 99999), (90, 99999)] = true from rfl)
                      have hRM439 : fz_RM H427 := fz_RM_eq (funext fun s => hf432 55 s rfl) (funext fun s => hf432 56 s rfl) (hf432 53 0 rfl) (hf432 53 2 rfl) hRM425
                      have t440 : H427 53 0 = H418 53 0 := hf432 53 0 rfl
                      refine fz_iadd kX11_tries rfl ?_
                      refine fz_nmw (fun z441 e442 => ?_)
                      have e443 : H427 53 0 = h 53 0 := hf438 53 0 rfl
                      refine fz_callV (d' := De) (M' := mX11_tries) (As := [fz_i pe, fz_i (h 56 (x315.toNat)), fz_i z396, fz_i (L + 1), fz_i z441]) (st := []) kX11_tries rfl rfl vX11_tries rfl rfl rfl rfl (Nat.le_of_ble_eq_true rfl) (Nat.le_of_ble_eq_true rfl) (by omega) (ih H427 hI431 pe (h 56 (x315.toNat)) z396 z441 hXw433 hHB434 hRM439 (by omega) (by omega)) (fun H444 r445 q446 o447 => ?_)
                      obtain ⟨hI448, hf449, hXw450, hHB451, hRM452, rfl⟩ := q446
                      clear o447
                      have hf453 := fz_fr_tr hf438 hf449 (show fz_su [(53, 54), (53, 55), (74, 99999), (75, 99999), (89, 99999), (90, 99999)] [(53, 54), (53, 55), (74, 99999), (75, 99999), (89, 99999), (90, 99999)] = true from rfl)
                      have t454 : H444 53 0 = H427 53 0 := hf449 53 0 rfl
                      refine fz_iincN (ls' := [(6, fz_i (x315 + 1)), (8, fz_i z396), (7, fz_i (h 56 (x315.toNat))), (0, fz_r 53), (1, fz_i pe), (2, fz_i t), (3, fz_i hr), (4, fz_i L), (5, fz_i su)]) kX11_tries rfl (by decide) rfl (by omega) rfl ?_
                      refine fz_goto (tgt := 79) kX11_tries rfl (by decide) ?_
                      refine fz_sub (fz_pk_sub (ls' := [(6, fz_i (x315 + 1)), (0, fz_r 53), (1, fz_i pe), (2, fz_i t), (3, fz_i hr), (4, fz_i L), (5, fz_i su)]) [0, 3, 4, 5, 6, 7, 8] rfl) ?_
                      exact ih324 (x315 + 1) H444 hI448 hf453 hXw450 hHB451 hRM452 (by omega) (by omega)
                    · refine fz_goto (tgt := 211) kX11_tries rfl (by decide) ?_
                      refine fz_iincN (ls' := [(6, fz_i (x315 + 1)), (8, fz_i z396), (7, fz_i (h 56 (x315.toNat))), (0, fz_r 53), (1, fz_i pe), (2, fz_i t), (3, fz_i hr), (4, fz_i L), (5, fz_i su)]) kX11_tries rfl (by decide) rfl (by omega) rfl ?_
                      refine fz_goto (tgt := 79) kX11_tries rfl (by decide) ?_
                      refine fz_sub (fz_pk_sub (ls' := [(6, fz_i (x315 + 1)), (0, fz_r 53), (1, fz_i pe), (2, fz_i t), (3, fz_i hr), (4, fz_i L), (5, fz_i su)]) [0, 3, 4, 5, 6, 7, 8] rfl) ?_
                      exact ih324 (x315 + 1) H403 hI407 hf414 hXw409 hHB410 hRM415 (by omega) (by omega)
              · refine fz_aload_n kX11_tries rfl rfl ?_
                refine fz_getR (t := 56) kX11_tries rfl rfl ?_
                refine fz_iload kX11_tries rfl rfl ?_
                refine fz_ialdV (n := 12) (v := h 56 (x315.toNat)) kX11_tries rfl rfl (by omega) (by omega) (hf321 56 _ rfl) ?_
                have b455 : 0 ≤ h 56 (x315.toNat) ∧ h 56 (x315.toNat) ≤ 7 := hI.1 56 _
                refine fz_iload_n kX11_tries rfl rfl ?_
                refine fz_icmp_eq (tgt := 113) kX11_tries rfl (by decide) (fun c456 => ?_) (fun c456 => ?_)
                · refine fz_aload_n kX11_tries rfl rfl ?_
                  refine fz_getR (t := 55) kX11_tries rfl rfl ?_
                  refine fz_iload kX11_tries rfl rfl ?_
                  refine fz_ialdV (n := 12) (v := h 55 (x315.toNat)) kX11_tries rfl rfl (by omega) (by omega) (hf321 55 _ rfl) ?_
                  refine fz_iload_n kX11_tries rfl rfl ?_
                  refine fz_icmp_ne (tgt := 134) kX11_tries rfl (by decide) (fun c457 => ?_) (fun c457 => ?_)
                  · refine fz_aload_n kX11_tries rfl rfl ?_
                    refine fz_getR (t := 55) kX11_tries rfl rfl ?_
                    refine fz_iload kX11_tries rfl rfl ?_
                    refine fz_ialdV (n := 12) (v := h 55 (x315.toNat)) kX11_tries rfl rfl (by omega) (by omega) (hf321 55 _ rfl) ?_
                    have k458 := hRM (x315).toNat (by omega)
                    refine fz_istore (ls' := [(7, fz_i (h 55 (x315.toNat))), (6, fz_i x315), (0, fz_r 53), (1, fz_i pe), (2, fz_i t), (3, fz_i hr), (4, fz_i L), (5, fz_i su)]) kX11_tries rfl (by decide) rfl ?_
                    refine fz_iload_n kX11_tries rfl rfl ?_
                    refine fz_aload_n kX11_tries rfl rfl ?_
                    refine fz_getR (t := 57) kX11_tries rfl rfl ?_
                    refine fz_iload kX11_tries rfl rfl ?_
                    refine fz_ialdV (n := 12) (v := h 57 (x315.toNat)) kX11_tries rfl rfl (by omega) (by omega) (hf321 57 _ rfl) ?_
                    have b459 : 0 ≤ h 57 (x315.toNat) ∧ h 57 (x315.toNat) ≤ 24 := hI.1 57 _
                    refine fz_iadd kX11_tries rfl ?_
                    refine fz_nmw (fun z460 e461 => ?_)
                    refine fz_istore (ls' := [(8, fz_i z460), (7, fz_i (h 55 (x315.toNat))), (6, fz_i x315), (0, fz_r 53), (1, fz_i pe), (2, fz_i t), (3, fz_i hr), (4, fz_i L), (5, fz_i su)]) kX11_tries rfl (by decide) rfl ?_
                    refine fz_iload kX11_tries rfl rfl ?_
                    refine fz_sipush ⟨by decide, by decide⟩ kX11_tries rfl ?_
                    refine fz_icmp_gt (tgt := 211) kX11_tries rfl (by decide) (fun c462 => ?_) (fun c462 => ?_)
                    · refine fz_iincN (ls' := [(6, fz_i (x315 + 1)), (8, fz_i z460), (7, fz_i (h 55 (x315.toNat))), (0, fz_r 53), (1, fz_i pe), (2, fz_i t), (3, fz_i hr), (4, fz_i L), (5, fz_i su)]) kX11_tries rfl (by decide) rfl (by omega) rfl ?_
                      refine fz_goto (tgt := 79) kX11_tries rfl (by decide) ?_
                      refine fz_sub (fz_pk_sub (ls' := [(6, fz_i (x315 + 1)), (0, fz_r 53), (1, fz_i pe), (2, fz_i t), (3, fz_i hr), (4, fz_i L), (5, fz_i su)]) [0, 3, 4, 5, 6, 7, 8] rfl) ?_
                      exact ih324 (x315 + 1) H319 hI320 hf321 hXw316 hHB317 hRM318 (by omega) (by omega)
                    · refine fz_aload_n kX11_tries rfl rfl ?_
                      refine fz_iload_n kX11_tries rfl rfl ?_
                      refine fz_iload kX11_tries rfl rfl ?_
                      refine fz_iload kX11_tries rfl rfl ?_
                      have b463 : 0 ≤ h 53 0 ∧ h 53 0 ≤ 8 := hI.1 53 _
                      have b464 : 0 ≤ h 53 8 ∧ h 53 8 ≤ 99 := hI.1 53 _
                      have e465 : H319 53 0 = h 53 0 := hf321 53 0 rfl
                      have e466 : H319 53 8 = h 53 8 := hf321 53 8 rfl
                      refine fz_callV (d' := 4) (M' := mX11_isArrested) (As := [fz_i pe, fz_i (h 55 (x315.toNat)), fz_i z460]) (st := []) kX11_tries rfl rfl vX11_isArrested rfl rfl rfl rfl (Nat.le_of_ble_eq_true rfl) (Nat.le_of_ble_eq_true rfl) (by omega) (sX11_isArrested H319 hI320 pe (h 55 (x315.toNat)) z460 hXw316 hHB317 (by omega) (by omega)) (fun H467 r468 q469 o470 => ?_)
                      obtain ⟨hI471, hf472, hXw473, hHB474, y476, rfl, p477, f475⟩ := q469
                      clear o470
                      have hf478 := fz_fr_tr hf321 hf472 (show fz_su [(74, 99999), (75, 99999)] [(53, 54), (53, 55), (74, 99999), (75, 99999), (89, 99999), (90, 99999)] = true from rfl)
                      have hRM479 : fz_RM H467 := fz_RM_eq (funext fun s => hf472 55 s rfl) (funext fun s => hf472 56 s rfl) (hf472 53 0 rfl) (hf472 53 2 rfl) hRM318
                      have t480 : H467 53 0 = H319 53 0 := hf472 53 0 rfl
                      refine fz_if_eq (tgt := 177) kX11_tries rfl (by decide) (fun c481 => ?_) (fun c481 => ?_)
                      · refine fz_aload_n kX11_tries rfl rfl ?_
                        refine fz_getR (t := 90) kX11_tries rfl rfl ?_
                        refine fz_iload kX11_tries rfl rfl ?_
                        refine fz_iload kX11_tries rfl rfl ?_
                        refine fz_iast (n := 4) kX11_tries rfl rfl (by omega) (by omega) ?_
                        refine fz_nmu (S := [(53, 54), (53, 55), (74, 99999), (75, 99999), (89, 99999), (90, 99999)]) (h0 := h) (fz_Iv_up hI471 (by decide) (show (0 : Int) ≤ (h 55 (x315.toNat)) by omega) (show ((h 55 (x315.toNat)) : Int) ≤ 7 by omega)) (fz_fr_up hf478 rfl) (fun H482 hI483 hf484 e485 => ?_)
                        have t486 : H482 53 0 = H467 53 0 := by rw [e485]; exact fz_up_o (by decide)
                        have hXw487 : fz_Xw H482 := fz_Xw_eq (by rw [e485]; exact fz_up_o (by decide)) (by rw [e485]; exact fz_up_ne (by decide)) (by rw [e485]; exact fz_up_ne (by decide)) (by rw [e485]; exact fz_up_ne (by decide)) (by rw [e485]; exact fz_up_ne (by decide)) hXw473
                        have hHB488 : fl_HB H482 := fl_HB_eq (by rw [e485]; exact fz_up_ne (by decide)) (by rw [e485]; exact fz_up_ne (by decide)) (by rw [e485]; exact fz_up_o (by decide)) (by rw [e485]; exact fz_up_o (by decide)) hHB474
                        have hRM489 : fz_RM H482 := fz_RM_eq (by rw [e485]; exact fz_up_ne (by decide)) (by rw [e485]; exact fz_up_ne (by decide)) (by rw [e485]; exact fz_up_o (by decide)) (by rw [e485]; exact fz_up_o (by decide)) hRM479
                        clear e485
                        refine fz_aload_n kX11_tries rfl rfl ?_
                        refine fz_iload_n kX11_tries rfl rfl ?_
                        refine fz_iload kX11_tries rfl rfl ?_
                        refine fz_iload kX11_tries rfl rfl ?_
                        refine fz_iload kX11_tries rfl rfl ?_
                        refine fz_iconst ⟨by decide, by decide⟩ kX11_tries rfl ?_
                        refine fz_iaddN kX11_tries rfl (by omega) ?_
                        refine fz_eqi (y := (L + 1)) (by omega) ?_
                        refine fz_iload kX11_tries rfl rfl ?_
                        refine fz_aload_n kX11_tries rfl rfl ?_
                        refine fz_iload_n kX11_tries rfl rfl ?_
                        refine fz_iload kX11_tries rfl rfl ?_
                        refine fz_iload kX11_tries rfl rfl ?_
                        have e490 : H482 53 0 = h 53 0 := hf484 53 0 rfl
                        refine fz_callV (d' := 4) (M' := mX11_receivedIn) (As := [fz_i pe, fz_i (h 55 (x315.toNat)), fz_i z460]) (st := [fz_i su, fz_i (L + 1), fz_i z460, fz_i (h 55 (x315.toNat)), fz_i pe, fz_r 53]) kX11_tries rfl rfl vX11_receivedIn rfl rfl rfl rfl (Nat.le_of_ble_eq_true rfl) (Nat.le_of_ble_eq_true rfl) (by omega) (sX11_receivedIn H482 hI483 pe (h 55 (x315.toNat)) z460 hXw487 hHB488 (by omega) (by omega)) (fun H491 r492 q493 o494 => ?_)
                        obtain ⟨hI495, hf496, hXw497, hHB498, y501, rfl, f499, f500⟩ := q493
                        clear o494
                        have hf502 := fz_fr_tr hf484 hf496 (show fz_su [(74, 99999), (75, 99999)] [(53, 54), (53, 55), (74, 99999), (75, 99999), (89, 99999), (90, 99999)] = true from rfl)
                        have hRM503 : fz_RM H491 := fz_RM_eq (funext fun s => hf496 55 s rfl) (funext fun s => hf496 56 s rfl) (hf496 53 0 rfl) (hf496 53 2 rfl) hRM489
                        have t504 : H491 53 0 = H482 53 0 := hf496 53 0 rfl
                        refine fz_iadd kX11_tries rfl ?_
                        refine fz_nmw (fun z505 e506 => ?_)
                        have e507 : H491 53 0 = h 53 0 := hf502 53 0 rfl
                        refine fz_callV (d' := De) (M' := mX11_tries) (As := [fz_i pe, fz_i (h 55 (x315.toNat)), fz_i z460, fz_i (L + 1), fz_i z505]) (st := []) kX11_tries rfl rfl vX11_tries rfl rfl rfl rfl (Nat.le_of_ble_eq_true rfl) (Nat.le_of_ble_eq_true rfl) (by omega) (ih H491 hI495 pe (h 55 (x315.toNat)) z460 z505 hXw497 hHB498 hRM503 (by omega) (by omega)) (fun H508 r509 q510 o511 => ?_)
                        obtain ⟨hI512, hf513, hXw514, hHB515, hRM516, rfl⟩ := q510
                        clear o511
                        have hf517 := fz_fr_tr hf502 hf513 (show fz_su [(53, 54), (53, 55), (74, 99999), (75, 99999), (89, 99999), (90, 99999)] [(53, 54), (53, 55), (74, 99999), (75, 99999), (89, 99999), (90, 99999)] = true from rfl)
                        have t518 : H508 53 0 = H491 53 0 := hf513 53 0 rfl
                        refine fz_iincN (ls' := [(6, fz_i (x315 + 1)), (8, fz_i z460), (7, fz_i (h 55 (x315.toNat))), (0, fz_r 53), (1, fz_i pe), (2, fz_i t), (3, fz_i hr), (4, fz_i L), (5, fz_i su)]) kX11_tries rfl (by decide) rfl (by omega) rfl ?_
                        refine fz_goto (tgt := 79) kX11_tries rfl (by decide) ?_
                        refine fz_sub (fz_pk_sub (ls' := [(6, fz_i (x315 + 1)), (0, fz_r 53), (1, fz_i pe), (2, fz_i t), (3, fz_i hr), (4, fz_i L), (5, fz_i su)]) [0, 3, 4, 5, 6, 7, 8] rfl) ?_
                        exact ih324 (x315 + 1) H508 hI512 hf517 hXw514 hHB515 hRM516 (by omega) (by omega)
                      · refine fz_goto (tgt := 211) kX11_tries rfl (by decide) ?_
                        refine fz_iincN (ls' := [(6, fz_i (x315 + 1)), (8, fz_i z460), (7, fz_i (h 55 (x315.toNat))), (0, fz_r 53), (1, fz_i pe), (2, fz_i t), (3, fz_i hr), (4, fz_i L), (5, fz_i su)]) kX11_tries rfl (by decide) rfl (by omega) rfl ?_
                        refine fz_goto (tgt := 79) kX11_tries rfl (by decide) ?_
                        refine fz_sub (fz_pk_sub (ls' := [(6, fz_i (x315 + 1)), (0, fz_r 53), (1, fz_i pe), (2, fz_i t), (3, fz_i hr), (4, fz_i L), (5, fz_i su)]) [0, 3, 4, 5, 6, 7, 8] rfl) ?_
                        exact ih324 (x315 + 1) H467 hI471 hf478 hXw473 hHB474 hRM479 (by omega) (by omega)
                  · refine fz_aload_n kX11_tries rfl rfl ?_
                    refine fz_getR (t := 56) kX11_tries rfl rfl ?_
                    refine fz_iload kX11_tries rfl rfl ?_
                    refine fz_ialdV (n := 12) (v := h 56 (x315.toNat)) kX11_tries rfl rfl (by omega) (by omega) (hf321 56 _ rfl) ?_
                    refine fz_goto (tgt := 141) kX11_tries rfl (by decide) ?_
                    have k519 := hRM (x315).toNat (by omega)
                    refine fz_istore (ls' := [(7, fz_i (h 56 (x315.toNat))), (6, fz_i x315), (0, fz_r 53), (1, fz_i pe), (2, fz_i t), (3, fz_i hr), (4, fz_i L), (5, fz_i su)]) kX11_tries rfl (by decide) rfl ?_
                    refine fz_iload_n kX11_tries rfl rfl ?_
                    refine fz_aload_n kX11_tries rfl rfl ?_
                    refine fz_getR (t := 57) kX11_tries rfl rfl ?_
                    refine fz_iload kX11_tries rfl rfl ?_
                    refine fz_ialdV (n := 12) (v := h 57 (x315.toNat)) kX11_tries rfl rfl (by omega) (by omega) (hf321 57 _ rfl) ?_
                    have b520 : 0 ≤ h 57 (x315.toNat) ∧ h 57 (x315.toNat) ≤ 24 := hI.1 57 _
                    refine fz_iadd kX11_tries rfl ?_
                    refine fz_nmw (fun z521 e522 => ?_)
                    refine fz_istore (ls' := [(8, fz_i z521), (7, fz_i (h 56 (x315.toNat))), (6, fz_i x315), (0, fz_r 53), (1, fz_i pe), (2, fz_i t), (3, fz_i hr), (4, fz_i L), (5, fz_i su)]) kX11_tries rfl (by decide) rfl ?_
                    refine fz_iload kX11_tries rfl rfl ?_
                    refine fz_sipush ⟨by decide, by decide⟩ kX11_tries rfl ?_
                    refine fz_icmp_gt (tgt := 211) kX11_tries rfl (by decide) (fun c523 => ?_) (fun c523 => ?_)
                    · refine fz_iincN (ls' := [(6, fz_i (x315 + 1)), (8, fz_i z521), (7, fz_i (h 56 (x315.toNat))), (0, fz_r 53), (1, fz_i pe), (2, fz_i t), (3, fz_i hr), (4, fz_i L), (5, fz_i su)]) kX11_tries rfl (by decide) rfl (by omega) rfl ?_
                      refine fz_goto (tgt := 79) kX11_tries rfl (by decide) ?_
                      refine fz_sub (fz_pk_sub (ls' := [(6, fz_i (x315 + 1)), (0, fz_r 53), (1, fz_i pe), (2, fz_i t), (3, fz_i hr), (4, fz_i L), (5, fz_i su)]) [0, 3, 4, 5, 6, 7, 8] rfl) ?_
                      exact ih324 (x315 + 1) H319 hI320 hf321 hXw316 hHB317 hRM318 (by omega) (by omega)
                    · refine fz_aload_n kX11_tries rfl rfl ?_
                      refine fz_iload_n kX11_tries rfl rfl ?_
                      refine fz_iload kX11_tries rfl rfl ?_
                      refine fz_iload kX11_tries rfl rfl ?_
                      have b524 : 0 ≤ h 53 0 ∧ h 53 0 ≤ 8 := hI.1 53 _
                      have b525 : 0 ≤ h 53 8 ∧ h 53 8 ≤ 99 := hI.1 53 _
                      have e526 : H319 53 0 = h 53 0 := hf321 53 0 rfl
                      have e527 : H319 53 8 = h 53 8 := hf321 53 8 rfl
                      refine fz_callV (d' := 4) (M' := mX11_isArrested) (As := [fz_i pe, fz_i (h 56 (x315.toNat)), fz_i z521]) (st := []) kX11_tries rfl rfl vX11_isArrested rfl rfl rfl rfl (Nat.le_of_ble_eq_true rfl) (Nat.le_of_ble_eq_true rfl) (by omega) (sX11_isArrested H319 hI320 pe (h 56 (x315.toNat)) z521 hXw316 hHB317 (by omega) (by omega)) (fun H528 r529 q530 o531 => ?_)
                      obtain ⟨hI532, hf533, hXw534, hHB535, y537, rfl, p538, f536⟩ := q530
                      clear o531
                      have hf539 := fz_fr_tr hf321 hf533 (show fz_su [(74, 99999), (75, 99999)] [(53, 54), (53, 55), (74, 99999), (75, 99999), (89, 99999), (90, 99999)] = true from rfl)
                      have hRM540 : fz_RM H528 := fz_RM_eq (funext fun s => hf533 55 s rfl) (funext fun s => hf533 56 s rfl) (hf533 53 0 rfl) (hf533 53 2 rfl) hRM318
                      have t541 : H528 53 0 = H319 53 0 := hf533 53 0 rfl
                      refine fz_if_eq (tgt := 177) kX11_tries rfl (by decide) (fun c542 => ?_) (fun c542 => ?_)
                      · refine fz_aload_n kX11_tries rfl rfl ?_
                        refine fz_getR (t := 90) kX11_tries rfl rfl ?_
                        refine fz_iload kX11_tries rfl rfl ?_
                        refine fz_iload kX11_tries rfl rfl ?_
                        refine fz_iast (n := 4) kX11_tries rfl rfl (by omega) (by omega) ?_
                        refine fz_nmu (S := [(53, 54), (53, 55), (74, 99999), (75, 99999), (89, 99999), (90, 99999)]) (h0 := h) (fz_Iv_up hI532 (by decide) (show (0 : Int) ≤ (h 56 (x315.toNat)) by omega) (show ((h 56 (x315.toNat)) : Int) ≤ 7 by omega)) (fz_fr_up hf539 rfl) (fun H543 hI544 hf545 e546 => ?_)
                        have t547 : H543 53 0 = H528 53 0 := by rw [e546]; exact fz_up_o (by decide)
                        have hXw548 : fz_Xw H543 := fz_Xw_eq (by rw [e546]; exact fz_up_o (by decide)) (by rw [e546]; exact fz_up_ne (by decide)) (by rw [e546]; exact fz_up_ne (by decide)) (by rw [e546]; exact fz_up_ne (by decide)) (by rw [e546]; exact fz_up_ne (by decide)) hXw534
                        have hHB549 : fl_HB H543 := fl_HB_eq (by rw [e546]; exact fz_up_ne (by decide)) (by rw [e546]; exact fz_up_ne (by decide)) (by rw [e546]; exact fz_up_o (by decide)) (by rw [e546]; exact fz_up_o (by decide)) hHB535
                        have hRM550 : fz_RM H543 := fz_RM_eq (by rw [e546]; exact fz_up_ne (by decide)) (by rw [e546]; exact fz_up_ne (by decide)) (by rw [e546]; exact fz_up_o (by decide)) (by rw [e546]; exact fz_up_o (by decide)) hRM540
                        clear e546
                        refine fz_aload_n kX11_tries rfl rfl ?_
                        refine fz_iload_n kX11_tries rfl rfl ?_
                        refine fz_iload kX11_tries rfl rfl ?_
                        refine fz_iload kX11_tries rfl rfl ?_
                        refine fz_iload kX11_tries rfl rfl ?_
                        refine fz_iconst ⟨by decide, by decide⟩ kX11_tries rfl ?_
                        refine fz_iaddN kX11_tries rfl (by omega) ?_
                        refine fz_eqi (y := (L + 1)) (by omega) ?_
                        refine fz_iload kX11_tries rfl rfl ?_
                        refine fz_aload_n kX11_tries rfl rfl ?_
                        refine fz_iload_n kX11_tries rfl rfl ?_
                        refine fz_iload kX11_tries rfl rfl ?_
                        refine fz_iload kX11_tries rfl rfl ?_
                        have e551 : H543 53 0 = h 53 0 := hf545 53 0 rfl
                        refine fz_callV (d' := 4) (M' := mX11_receivedIn) (As := [fz_i pe, fz_i (h 56 (x315.toNat)), fz_i z521]) (st := [fz_i su, fz_i (L + 1), fz_i z521, fz_i (h 56 (x315.toNat)), fz_i pe, fz_r 53]) kX11_tries rfl rfl vX11_receivedIn rfl rfl rfl rfl (Nat.le_of_ble_eq_true rfl) (Nat.le_of_ble_eq_true rfl) (by omega) (sX11_receivedIn H543 hI544 pe (h 56 (x315.toNat)) z521 hXw548 hHB549 (by omega) (by omega)) (fun H552 r553 q554 o555 => ?_)
                        obtain ⟨hI556, hf557, hXw558, hHB559, y562, rfl, f560, f561⟩ := q554
                        clear o555
                        have hf563 := fz_fr_tr hf545 hf557 (show fz_su [(74, 99999), (75, 99999)] [(53, 54), (53, 55), (74, 99999), (75, 99999), (89, 99999), (90, 99999)] = true from rfl)
                        have hRM564 : fz_RM H552 := fz_RM_eq (funext fun s => hf557 55 s rfl) (funext fun s => hf557 56 s rfl) (hf557 53 0 rfl) (hf557 53 2 rfl) hRM550
                        have t565 : H552 53 0 = H543 53 0 := hf557 53 0 rfl
                        refine fz_iadd kX11_tries rfl ?_
                        refine fz_nmw (fun z566 e567 => ?_)
                        have e568 : H552 53 0 = h 53 0 := hf563 53 0 rfl
                        refine fz_callV (d' := De) (M' := mX11_tries) (As := [fz_i pe, fz_i (h 56 (x315.toNat)), fz_i z521, fz_i (L + 1), fz_i z566]) (st := []) kX11_tries rfl rfl vX11_tries rfl rfl rfl rfl (Nat.le_of_ble_eq_true rfl) (Nat.le_of_ble_eq_true rfl) (by omega) (ih H552 hI556 pe (h 56 (x315.toNat)) z521 z566 hXw558 hHB559 hRM564 (by omega) (by omega)) (fun H569 r570 q571 o572 => ?_)
                        obtain ⟨hI573, hf574, hXw575, hHB576, hRM577, rfl⟩ := q571
                        clear o572
                        have hf578 := fz_fr_tr hf563 hf574 (show fz_su [(53, 54), (53, 55), (74, 99999), (75, 99999), (89, 99999), (90, 99999)] [(53, 54), (53, 55), (74, 99999), (75, 99999), (89, 99999), (90, 99999)] = true from rfl)
                        have t579 : H569 53 0 = H552 53 0 := hf574 53 0 rfl
                        refine fz_iincN (ls' := [(6, fz_i (x315 + 1)), (8, fz_i z521), (7, fz_i (h 56 (x315.toNat))), (0, fz_r 53), (1, fz_i pe), (2, fz_i t), (3, fz_i hr), (4, fz_i L), (5, fz_i su)]) kX11_tries rfl (by decide) rfl (by omega) rfl ?_
                        refine fz_goto (tgt := 79) kX11_tries rfl (by decide) ?_
                        refine fz_sub (fz_pk_sub (ls' := [(6, fz_i (x315 + 1)), (0, fz_r 53), (1, fz_i pe), (2, fz_i t), (3, fz_i hr), (4, fz_i L), (5, fz_i su)]) [0, 3, 4, 5, 6, 7, 8] rfl) ?_
                        exact ih324 (x315 + 1) H569 hI573 hf578 hXw575 hHB576 hRM577 (by omega) (by omega)
                      · refine fz_goto (tgt := 211) kX11_tries rfl (by decide) ?_
                        refine fz_iincN (ls' := [(6, fz_i (x315 + 1)), (8, fz_i z521), (7, fz_i (h 56 (x315.toNat))), (0, fz_r 53), (1, fz_i pe), (2, fz_i t), (3, fz_i hr), (4, fz_i L), (5, fz_i su)]) kX11_tries rfl (by decide) rfl (by omega) rfl ?_
                        refine fz_goto (tgt := 79) kX11_tries rfl (by decide) ?_
                        refine fz_sub (fz_pk_sub (ls' := [(6, fz_i (x315 + 1)), (0, fz_r 53), (1, fz_i pe), (2, fz_i t), (3, fz_i hr), (4, fz_i L), (5, fz_i su)]) [0, 3, 4, 5, 6, 7, 8] rfl) ?_
                        exact ih324 (x315 + 1) H528 hI532 hf539 hXw534 hHB535 hRM540 (by omega) (by omega)
                · refine fz_goto (tgt := 211) kX11_tries rfl (by decide) ?_
                  refine fz_iincN (ls' := [(6, fz_i (x315 + 1)), (0, fz_r 53), (1, fz_i pe), (2, fz_i t), (3, fz_i hr), (4, fz_i L), (5, fz_i su)]) kX11_tries rfl (by decide) rfl (by omega) rfl ?_
                  refine fz_goto (tgt := 79) kX11_tries rfl (by decide) ?_
                  exact ih324 (x315 + 1) H319 hI320 hf321 hXw316 hHB317 hRM318 (by omega) (by omega)
        exact lp323 _ 0 h hI hf hXw hHB hRM (by omega) (Nat.lt_succ_self _)
      · exfalso; omega
    · refine fz_aload_n kX11_tries rfl rfl ?_
      refine fz_iload kX11_tries rfl rfl ?_
      refine fz_callV (d' := 0) (M' := mX11_isAhead) (As := [fz_i L]) (st := []) kX11_tries rfl rfl vX11_isAhead rfl rfl rfl rfl (Nat.le_of_ble_eq_true rfl) (Nat.le_of_ble_eq_true rfl) (by omega) (sX11_isAhead h hI L (by omega)) (fun H580 r581 q582 o583 => ?_)
      obtain ⟨e584, y585, rfl, p586⟩ := q582
      subst H580
      clear o583
      refine fz_if_eq (tgt := 69) kX11_tries rfl (by decide) (fun c587 => ?_) (fun c587 => ?_)
      · refine fz_iload kX11_tries rfl rfl ?_
        refine fz_iconst ⟨by decide, by decide⟩ kX11_tries rfl ?_
        refine fz_icmp_ne (tgt := 76) kX11_tries rfl (by decide) (fun c588 => ?_) (fun c588 => ?_)
        · refine fz_iconst ⟨by decide, by decide⟩ kX11_tries rfl ?_
          refine fz_istore (ls' := [(6, fz_i 0), (0, fz_r 53), (1, fz_i pe), (2, fz_i t), (3, fz_i hr), (4, fz_i L), (5, fz_i su)]) kX11_tries rfl (by decide) rfl ?_
          have lp597 : ∀ (n596 : Nat) (x589 : Int) (H593 : fz_H), fz_Iv H593 → fz_fr [(53, 54), (53, 55), (74, 99999), (75, 99999), (89, 99999), (90, 99999)] h H593 → fz_Xw H593 → fl_HB H593 → fz_RM H593 → (0 ≤ x589 ∧ x589 ≤ 2147483647) → ((h 53 2) - x589).toNat < n596 → fz_R D mX11_tries 79 [(6, fz_i x589), (0, fz_r 53), (1, fz_i pe), (2, fz_i t), (3, fz_i hr), (4, fz_i L), (5, fz_i su)] [] H593 (qX11_tries_g h pe t hr su) := by
            intro n596
            induction n596 with
            | zero => intro x589 H593 hI594 hf595 hXw590 hHB591 hRM592 hv600 hm599; exact absurd hm599 (by omega)
            | succ n596 ih598 =>
              intro x589 H593 hI594 hf595 hXw590 hHB591 hRM592 hv600 hm599
              refine fz_iload kX11_tries rfl rfl ?_
              refine fz_aload_n kX11_tries rfl rfl ?_
              refine fz_getV (v := h 53 2) kX11_tries rfl rfl (hf595 53 2 rfl) ?_
              have b601 : 0 ≤ h 53 2 ∧ h 53 2 ≤ 12 := hI.1 53 _
              refine fz_icmp_ge (tgt := 217) kX11_tries rfl (by decide) (fun c602 => ?_) (fun c602 => ?_)
              · exact fz_vret kX11_tries rfl rfl ⟨hI594, hf595, hXw590, hHB591, hRM592, rfl⟩
              · refine fz_aload_n kX11_tries rfl rfl ?_
                refine fz_getR (t := 55) kX11_tries rfl rfl ?_
                refine fz_iload kX11_tries rfl rfl ?_
                refine fz_ialdV (n := 12) (v := h 55 (x589.toNat)) kX11_tries rfl rfl (by omega) (by omega) (hf595 55 _ rfl) ?_
                have b603 : 0 ≤ h 55 (x589.toNat) ∧ h 55 (x589.toNat) ≤ 7 := hI.1 55 _
                refine fz_iload_n kX11_tries rfl rfl ?_
                refine fz_icmp_eq (tgt := 113) kX11_tries rfl (by decide) (fun c604 => ?_) (fun c604 => ?_)
                · refine fz_aload_n kX11_tries rfl rfl ?_
                  refine fz_getR (t := 55) kX11_tries rfl rfl ?_
                  refine fz_iload kX11_tries rfl rfl ?_
                  refine fz_ialdV (n := 12) (v := h 55 (x589.toNat)) kX11_tries rfl rfl (by omega) (by omega) (hf595 55 _ rfl) ?_
                  refine fz_iload_n kX11_tries rfl rfl ?_
                  refine fz_icmp_ne (tgt := 134) kX11_tries rfl (by decide) (fun c605 => ?_) (fun c605 => ?_)
                  · refine fz_aload_n kX11_tries rfl rfl ?_
                    refine fz_getR (t := 55) kX11_tries rfl rfl ?_
                    refine fz_iload kX11_tries rfl rfl ?_
                    refine fz_ialdV (n := 12) (v := h 55 (x589.toNat)) kX11_tries rfl rfl (by omega) (by omega) (hf595 55 _ rfl) ?_
                    have k606 := hRM (x589).toNat (by omega)
                    refine fz_istore (ls' := [(7, fz_i (h 55 (x589.toNat))), (6, fz_i x589), (0, fz_r 53), (1, fz_i pe), (2, fz_i t), (3, fz_i hr), (4, fz_i L), (5, fz_i su)]) kX11_tries rfl (by decide) rfl ?_
                    refine fz_iload_n kX11_tries rfl rfl ?_
                    refine fz_aload_n kX11_tries rfl rfl ?_
                    refine fz_getR (t := 57) kX11_tries rfl rfl ?_
                    refine fz_iload kX11_tries rfl rfl ?_
                    refine fz_ialdV (n := 12) (v := h 57 (x589.toNat)) kX11_tries rfl rfl (by omega) (by omega) (hf595 57 _ rfl) ?_
                    have b607 : 0 ≤ h 57 (x589.toNat) ∧ h 57 (x589.toNat) ≤ 24 := hI.1 57 _
                    refine fz_iadd kX11_tries rfl ?_
                    refine fz_nmw (fun z608 e609 => ?_)
                    refine fz_istore (ls' := [(8, fz_i z608), (7, fz_i (h 55 (x589.toNat))), (6, fz_i x589), (0, fz_r 53), (1, fz_i pe), (2, fz_i t), (3, fz_i hr), (4, fz_i L), (5, fz_i su)]) kX11_tries rfl (by decide) rfl ?_
                    refine fz_iload kX11_tries rfl rfl ?_
                    refine fz_sipush ⟨by decide, by decide⟩ kX11_tries rfl ?_
                    refine fz_icmp_gt (tgt := 211) kX11_tries rfl (by decide) (fun c610 => ?_) (fun c610 => ?_)
                    · refine fz_iincN (ls' := [(6, fz_i (x589 + 1)), (8, fz_i z608), (7, fz_i (h 55 (x589.toNat))), (0, fz_r 53), (1, fz_i pe), (2, fz_i t), (3, fz_i hr), (4, fz_i L), (5, fz_i su)]) kX11_tries rfl (by decide) rfl (by omega) rfl ?_
                      refine fz_goto (tgt := 79) kX11_tries rfl (by decide) ?_
                      refine fz_sub (fz_pk_sub (ls' := [(6, fz_i (x589 + 1)), (0, fz_r 53), (1, fz_i pe), (2, fz_i t), (3, fz_i hr), (4, fz_i L), (5, fz_i su)]) [0, 3, 4, 5, 6, 7, 8] rfl) ?_
                      exact ih598 (x589 + 1) H593 hI594 hf595 hXw590 hHB591 hRM592 (by omega) (by omega)
                    · refine fz_aload_n kX11_tries rfl rfl ?_
                      refine fz_iload_n kX11_tries rfl rfl ?_
                      refine fz_iload kX11_tries rfl rfl ?_
                      refine fz_iload kX11_tries rfl rfl ?_
                      have b611 : 0 ≤ h 53 0 ∧ h 53 0 ≤ 8 := hI.1 53 _
                      have b612 : 0 ≤ h 53 8 ∧ h 53 8 ≤ 99 := hI.1 53 _
                      have e613 : H593 53 0 = h 53 0 := hf595 53 0 rfl
                      have e614 : H593 53 8 = h 53 8 := hf595 53 8 rfl
                      refine fz_callV (d' := 4) (M' := mX11_isArrested) (As := [fz_i pe, fz_i (h 55 (x589.toNat)), fz_i z608]) (st := []) kX11_tries rfl rfl vX11_isArrested rfl rfl rfl rfl (Nat.le_of_ble_eq_true rfl) (Nat.le_of_ble_eq_true rfl) (by omega) (sX11_isArrested H593 hI594 pe (h 55 (x589.toNat)) z608 hXw590 hHB591 (by omega) (by omega)) (fun H615 r616 q617 o618 => ?_)
                      obtain ⟨hI619, hf620, hXw621, hHB622, y624, rfl, p625, f623⟩ := q617
                      clear o618
                      have hf626 := fz_fr_tr hf595 hf620 (show fz_su [(74, 99999), (75, 99999)] [(53, 54), (53, 55), (74, 99999), (75, 99999), (89, 99999), (90, 99999)] = true from rfl)
                      have hRM627 : fz_RM H615 := fz_RM_eq (funext fun s => hf620 55 s rfl) (funext fun s => hf620 56 s rfl) (hf620 53 0 rfl) (hf620 53 2 rfl) hRM592
                      have t628 : H615 53 0 = H593 53 0 := hf620 53 0 rfl
                      refine fz_if_eq (tgt := 177) kX11_tries rfl (by decide) (fun c629 => ?_) (fun c629 => ?_)
                      · refine fz_aload_n kX11_tries rfl rfl ?_
                        refine fz_getR (t := 90) kX11_tries rfl rfl ?_
                        refine fz_iload kX11_tries rfl rfl ?_
                        refine fz_iload kX11_tries rfl rfl ?_
                        refine fz_iast (n := 4) kX11_tries rfl rfl (by omega) (by omega) ?_
                        refine fz_nmu (S := [(53, 54), (53, 55), (74, 99999), (75, 99999), (89, 99999), (90, 99999)]) (h0 := h) (fz_Iv_up hI619 (by decide) (show (0 : Int) ≤ (h 55 (x589.toNat)) by omega) (show ((h 55 (x589.toNat)) : Int) ≤ 7 by omega)) (fz_fr_up hf626 rfl) (fun H630 hI631 hf632 e633 => ?_)
                        have t634 : H630 53 0 = H615 53 0 := by rw [e633]; exact fz_up_o (by decide)
                        have hXw635 : fz_Xw H630 := fz_Xw_eq (by rw [e633]; exact fz_up_o (by decide)) (by rw [e633]; exact fz_up_ne (by decide)) (by rw [e633]; exact fz_up_ne (by decide)) (by rw [e633]; exact fz_up_ne (by decide)) (by rw [e633]; exact fz_up_ne (by decide)) hXw621
                        have hHB636 : fl_HB H630 := fl_HB_eq (by rw [e633]; exact fz_up_ne (by decide)) (by rw [e633]; exact fz_up_ne (by decide)) (by rw [e633]; exact fz_up_o (by decide)) (by rw [e633]; exact fz_up_o (by decide)) hHB622
                        have hRM637 : fz_RM H630 := fz_RM_eq (by rw [e633]; exact fz_up_ne (by decide)) (by rw [e633]; exact fz_up_ne (by decide)) (by rw [e633]; exact fz_up_o (by decide)) (by rw [e633]; exact fz_up_o (by decide)) hRM627
                        clear e633
                        refine fz_aload_n kX11_tries rfl rfl ?_
                        refine fz_iload_n kX11_tries rfl rfl ?_
                        refine fz_iload kX11_tries rfl rfl ?_
                        refine fz_iload kX11_tries rfl rfl ?_
                        refine fz_iload kX11_tries rfl rfl ?_
                        refine fz_iconst ⟨by decide, by decide⟩ kX11_tries rfl ?_
                        refine fz_iaddN kX11_tries rfl (by omega) ?_
                        refine fz_eqi (y := (L + 1)) (by omega) ?_
                        refine fz_iload kX11_tries rfl rfl ?_
                        refine fz_aload_n kX11_tries rfl rfl ?_
                        refine fz_iload_n kX11_tries rfl rfl ?_
                        refine fz_iload kX11_tries rfl rfl ?_
                        refine fz_iload kX11_tries rfl rfl ?_
                        have e638 : H630 53 0 = h 53 0 := hf632 53 0 rfl
                        refine fz_callV (d' := 4) (M' := mX11_receivedIn) (As := [fz_i pe, fz_i (h 55 (x589.toNat)), fz_i z608]) (st := [fz_i su, fz_i (L + 1), fz_i z608, fz_i (h 55 (x589.toNat)), fz_i pe, fz_r 53]) kX11_tries rfl rfl vX11_receivedIn rfl rfl rfl rfl (Nat.le_of_ble_eq_true rfl) (Nat.le_of_ble_eq_true rfl) (by omega) (sX11_receivedIn H630 hI631 pe (h 55 (x589.toNat)) z608 hXw635 hHB636 (by omega) (by omega)) (fun H639 r640 q641 o642 => ?_)
                        obtain ⟨hI643, hf644, hXw645, hHB646, y649, rfl, f647, f648⟩ := q641
                        clear o642
                        have hf650 := fz_fr_tr hf632 hf644 (show fz_su [(74, 99999), (75, 99999)] [(53, 54), (53, 55), (74, 99999), (75, 99999), (89, 99999), (90, 99999)] = true from rfl)
                        have hRM651 : fz_RM H639 := fz_RM_eq (funext fun s => hf644 55 s rfl) (funext fun s => hf644 56 s rfl) (hf644 53 0 rfl) (hf644 53 2 rfl) hRM637
                        have t652 : H639 53 0 = H630 53 0 := hf644 53 0 rfl
                        refine fz_iadd kX11_tries rfl ?_
                        refine fz_nmw (fun z653 e654 => ?_)
                        have e655 : H639 53 0 = h 53 0 := hf650 53 0 rfl
                        refine fz_callV (d' := De) (M' := mX11_tries) (As := [fz_i pe, fz_i (h 55 (x589.toNat)), fz_i z608, fz_i (L + 1), fz_i z653]) (st := []) kX11_tries rfl rfl vX11_tries rfl rfl rfl rfl (Nat.le_of_ble_eq_true rfl) (Nat.le_of_ble_eq_true rfl) (by omega) (ih H639 hI643 pe (h 55 (x589.toNat)) z608 z653 hXw645 hHB646 hRM651 (by omega) (by omega)) (fun H656 r657 q658 o659 => ?_)
                        obtain ⟨hI660, hf661, hXw662, hHB663, hRM664, rfl⟩ := q658
                        clear o659
                        have hf665 := fz_fr_tr hf650 hf661 (show fz_su [(53, 54), (53, 55), (74, 99999), (75, 99999), (89, 99999), (90, 99999)] [(53, 54), (53, 55), (74, 99999), (75, 99999), (89, 99999), (90, 99999)] = true from rfl)
                        have t666 : H656 53 0 = H639 53 0 := hf661 53 0 rfl
                        refine fz_iincN (ls' := [(6, fz_i (x589 + 1)), (8, fz_i z608), (7, fz_i (h 55 (x589.toNat))), (0, fz_r 53), (1, fz_i pe), (2, fz_i t), (3, fz_i hr), (4, fz_i L), (5, fz_i su)]) kX11_tries rfl (by decide) rfl (by omega) rfl ?_
                        refine fz_goto (tgt := 79) kX11_tries rfl (by decide) ?_
                        refine fz_sub (fz_pk_sub (ls' := [(6, fz_i (x589 + 1)), (0, fz_r 53), (1, fz_i pe), (2, fz_i t), (3, fz_i hr), (4, fz_i L), (5, fz_i su)]) [0, 3, 4, 5, 6, 7, 8] rfl) ?_
                        exact ih598 (x589 + 1) H656 hI660 hf665 hXw662 hHB663 hRM664 (by omega) (by omega)
                      · refine fz_goto (tgt := 211) kX11_tries rfl (by decide) ?_
                        refine fz_iincN (ls' := [(6, fz_i (x589 + 1)), (8, fz_i z608), (7, fz_i (h 55 (x589.toNat))), (0, fz_r 53), (1, fz_i pe), (2, fz_i t), (3, fz_i hr), (4, fz_i L), (5, fz_i su)]) kX11_tries rfl (by decide) rfl (by omega) rfl ?_
                        refine fz_goto (tgt := 79) kX11_tries rfl (by decide) ?_
                        refine fz_sub (fz_pk_sub (ls' := [(6, fz_i (x589 + 1)), (0, fz_r 53), (1, fz_i pe), (2, fz_i t), (3, fz_i hr), (4, fz_i L), (5, fz_i su)]) [0, 3, 4, 5, 6, 7, 8] rfl) ?_
                        exact ih598 (x589 + 1) H615 hI619 hf626 hXw621 hHB622 hRM627 (by omega) (by omega)
                  · refine fz_aload_n kX11_tries rfl rfl ?_
                    refine fz_getR (t := 56) kX11_tries rfl rfl ?_
                    refine fz_iload kX11_tries rfl rfl ?_
                    refine fz_ialdV (n := 12) (v := h 56 (x589.toNat)) kX11_tries rfl rfl (by omega) (by omega) (hf595 56 _ rfl) ?_
                    have b667 : 0 ≤ h 56 (x589.toNat) ∧ h 56 (x589.toNat) ≤ 7 := hI.1 56 _
                    refine fz_goto (tgt := 141) kX11_tries rfl (by decide) ?_
                    have k668 := hRM (x589).toNat (by omega)
                    refine fz_istore (ls' := [(7, fz_i (h 56 (x589.toNat))), (6, fz_i x589), (0, fz_r 53), (1, fz_i pe), (2, fz_i t), (3, fz_i hr), (4, fz_i L), (5, fz_i su)]) kX11_tries rfl (by decide) rfl ?_
                    refine fz_iload_n kX11_tries rfl rfl ?_
                    refine fz_aload_n kX11_tries rfl rfl ?_
                    refine fz_getR (t := 57) kX11_tries rfl rfl ?_
                    refine fz_iload kX11_tries rfl rfl ?_
                    refine fz_ialdV (n := 12) (v := h 57 (x589.toNat)) kX11_tries rfl rfl (by omega) (by omega) (hf595 57 _ rfl) ?_
                    have b669 : 0 ≤ h 57 (x589.toNat) ∧ h 57 (x589.toNat) ≤ 24 := hI.1 57 _
                    refine fz_iadd kX11_tries rfl ?_
                    refine fz_nmw (fun z670 e671 => ?_)
                    refine fz_istore (ls' := [(8, fz_i z670), (7, fz_i (h 56 (x589.toNat))), (6, fz_i x589), (0, fz_r 53), (1, fz_i pe), (2, fz_i t), (3, fz_i hr), (4, fz_i L), (5, fz_i su)]) kX11_tries rfl (by decide) rfl ?_
                    refine fz_iload kX11_tries rfl rfl ?_
                    refine fz_sipush ⟨by decide, by decide⟩ kX11_tries rfl ?_
                    refine fz_icmp_gt (tgt := 211) kX11_tries rfl (by decide) (fun c672 => ?_) (fun c672 => ?_)
                    · refine fz_iincN (ls' := [(6, fz_i (x589 + 1)), (8, fz_i z670), (7, fz_i (h 56 (x589.toNat))), (0, fz_r 53), (1, fz_i pe), (2, fz_i t), (3, fz_i hr), (4, fz_i L), (5, fz_i su)]) kX11_tries rfl (by decide) rfl (by omega) rfl ?_
                      refine fz_goto (tgt := 79) kX11_tries rfl (by decide) ?_
                      refine fz_sub (fz_pk_sub (ls' := [(6, fz_i (x589 + 1)), (0, fz_r 53), (1, fz_i pe), (2, fz_i t), (3, fz_i hr), (4, fz_i L), (5, fz_i su)]) [0, 3, 4, 5, 6, 7, 8] rfl) ?_
                      exact ih598 (x589 + 1) H593 hI594 hf595 hXw590 hHB591 hRM592 (by omega) (by omega)
                    · refine fz_aload_n kX11_tries rfl rfl ?_
                      refine fz_iload_n kX11_tries rfl rfl ?_
                      refine fz_iload kX11_tries rfl rfl ?_
                      refine fz_iload kX11_tries rfl rfl ?_
                      have b673 : 0 ≤ h 53 0 ∧ h 53 0 ≤ 8 := hI.1 53 _
                      have b674 : 0 ≤ h 53 8 ∧ h 53 8 ≤ 99 := hI.1 53 _
                      have e675 : H593 53 0 = h 53 0 := hf595 53 0 rfl
                      have e676 : H593 53 8 = h 53 8 := hf595 53 8 rfl
                      refine fz_callV (d' := 4) (M' := mX11_isArrested) (As := [fz_i pe, fz_i (h 56 (x589.toNat)), fz_i z670]) (st := []) kX11_tries rfl rfl vX11_isArrested rfl rfl rfl rfl (Nat.le_of_ble_eq_true rfl) (Nat.le_of_ble_eq_true rfl) (by omega) (sX11_isArrested H593 hI594 pe (h 56 (x589.toNat)) z670 hXw590 hHB591 (by omega) (by omega)) (fun H677 r678 q679 o680 => ?_)
                      obtain ⟨hI681, hf682, hXw683, hHB684, y686, rfl, p687, f685⟩ := q679
                      clear o680
                      have hf688 := fz_fr_tr hf595 hf682 (show fz_su [(74, 99999), (75, 99999)] [(53, 54), (53, 55), (74, 99999), (75, 99999), (89, 99999), (90, 99999)] = true from rfl)
                      have hRM689 : fz_RM H677 := fz_RM_eq (funext fun s => hf682 55 s rfl) (funext fun s => hf682 56 s rfl) (hf682 53 0 rfl) (hf682 53 2 rfl) hRM592
                      have t690 : H677 53 0 = H593 53 0 := hf682 53 0 rfl
                      refine fz_if_eq (tgt := 177) kX11_tries rfl (by decide) (fun c691 => ?_) (fun c691 => ?_)
                      · refine fz_aload_n kX11_tries rfl rfl ?_
                        refine fz_getR (t := 90) kX11_tries rfl rfl ?_
                        refine fz_iload kX11_tries rfl rfl ?_
                        refine fz_iload kX11_tries rfl rfl ?_
                        refine fz_iast (n := 4) kX11_tries rfl rfl (by omega) (by omega) ?_
                        refine fz_nmu (S := [(53, 54), (53, 55), (74, 99999), (75, 99999), (89, 99999), (90, 99999)]) (h0 := h) (fz_Iv_up hI681 (by decide) (show (0 : Int) ≤ (h 56 (x589.toNat)) by omega) (show ((h 56 (x589.toNat)) : Int) ≤ 7 by omega)) (fz_fr_up hf688 rfl) (fun H692 hI693 hf694 e695 => ?_)
                        have t696 : H692 53 0 = H677 53 0 := by rw [e695]; exact fz_up_o (by decide)
                        have hXw697 : fz_Xw H692 := fz_Xw_eq (by rw [e695]; exact fz_up_o (by decide)) (by rw [e695]; exact fz_up_ne (by decide)) (by rw [e695]; exact fz_up_ne (by decide)) (by rw [e695]; exact fz_up_ne (by decide)) (by rw [e695]; exact fz_up_ne (by decide)) hXw683
                        have hHB698 : fl_HB H692 := fl_HB_eq (by rw [e695]; exact fz_up_ne (by decide)) (by rw [e695]; exact fz_up_ne (by decide)) (by rw [e695]; exact fz_up_o (by decide)) (by rw [e695]; exact fz_up_o (by decide)) hHB684
                        have hRM699 : fz_RM H692 := fz_RM_eq (by rw [e695]; exact fz_up_ne (by decide)) (by rw [e695]; exact fz_up_ne (by decide)) (by rw [e695]; exact fz_up_o (by decide)) (by rw [e695]; exact fz_up_o (by decide)) hRM689
                        clear e695
                        refine fz_aload_n kX11_tries rfl rfl ?_
                        refine fz_iload_n kX11_tries rfl rfl ?_
                        refine fz_iload kX11_tries rfl rfl ?_
                        refine fz_iload kX11_tries rfl rfl ?_
                        refine fz_iload kX11_tries rfl rfl ?_
                        refine fz_iconst ⟨by decide, by decide⟩ kX11_tries rfl ?_
                        refine fz_iaddN kX11_tries rfl (by omega) ?_
                        refine fz_eqi (y := (L + 1)) (by omega) ?_
                        refine fz_iload kX11_tries rfl rfl ?_
                        refine fz_aload_n kX11_tries rfl rfl ?_
                        refine fz_iload_n kX11_tries rfl rfl ?_
                        refine fz_iload kX11_tries rfl rfl ?_
                        refine fz_iload kX11_tries rfl rfl ?_
                        have e700 : H692 53 0 = h 53 0 := hf694 53 0 rfl
                        refine fz_callV (d' := 4) (M' := mX11_receivedIn) (As := [fz_i pe, fz_i (h 56 (x589.toNat)), fz_i z670]) (st := [fz_i su, fz_i (L + 1), fz_i z670, fz_i (h 56 (x589.toNat)), fz_i pe, fz_r 53]) kX11_tries rfl rfl vX11_receivedIn rfl rfl rfl rfl (Nat.le_of_ble_eq_true rfl) (Nat.le_of_ble_eq_true rfl) (by omega) (sX11_receivedIn H692 hI693 pe (h 56 (x589.toNat)) z670 hXw697 hHB698 (by omega) (by omega)) (fun H701 r702 q703 o704 => ?_)
                        obtain ⟨hI705, hf706, hXw707, hHB708, y711, rfl, f709, f710⟩ := q703
                        clear o704
                        have hf712 := fz_fr_tr hf694 hf706 (show fz_su [(74, 99999), (75, 99999)] [(53, 54), (53, 55), (74, 99999), (75, 99999), (89, 99999), (90, 99999)] = true from rfl)
                        have hRM713 : fz_RM H701 := fz_RM_eq (funext fun s => hf706 55 s rfl) (funext fun s => hf706 56 s rfl) (hf706 53 0 rfl) (hf706 53 2 rfl) hRM699
                        have t714 : H701 53 0 = H692 53 0 := hf706 53 0 rfl
                        refine fz_iadd kX11_tries rfl ?_
                        refine fz_nmw (fun z715 e716 => ?_)
                        have e717 : H701 53 0 = h 53 0 := hf712 53 0 rfl
                        refine fz_callV (d' := De) (M' := mX11_tries) (As := [fz_i pe, fz_i (h 56 (x589.toNat)), fz_i z670, fz_i (L + 1), fz_i z715]) (st := []) kX11_tries rfl rfl vX11_tries rfl rfl rfl rfl (Nat.le_of_ble_eq_true rfl) (Nat.le_of_ble_eq_true rfl) (by omega) (ih H701 hI705 pe (h 56 (x589.toNat)) z670 z715 hXw707 hHB708 hRM713 (by omega) (by omega)) (fun H718 r719 q720 o721 => ?_)
                        obtain ⟨hI722, hf723, hXw724, hHB725, hRM726, rfl⟩ := q720
                        clear o721
                        have hf727 := fz_fr_tr hf712 hf723 (show fz_su [(53, 54), (53, 55), (74, 99999), (75, 99999), (89, 99999), (90, 99999)] [(53, 54), (53, 55), (74, 99999), (75, 99999), (89, 99999), (90, 99999)] = true from rfl)
                        have t728 : H718 53 0 = H701 53 0 := hf723 53 0 rfl
                        refine fz_iincN (ls' := [(6, fz_i (x589 + 1)), (8, fz_i z670), (7, fz_i (h 56 (x589.toNat))), (0, fz_r 53), (1, fz_i pe), (2, fz_i t), (3, fz_i hr), (4, fz_i L), (5, fz_i su)]) kX11_tries rfl (by decide) rfl (by omega) rfl ?_
                        refine fz_goto (tgt := 79) kX11_tries rfl (by decide) ?_
                        refine fz_sub (fz_pk_sub (ls' := [(6, fz_i (x589 + 1)), (0, fz_r 53), (1, fz_i pe), (2, fz_i t), (3, fz_i hr), (4, fz_i L), (5, fz_i su)]) [0, 3, 4, 5, 6, 7, 8] rfl) ?_
                        exact ih598 (x589 + 1) H718 hI722 hf727 hXw724 hHB725 hRM726 (by omega) (by omega)
                      · refine fz_goto (tgt := 211) kX11_tries rfl (by decide) ?_
                        refine fz_iincN (ls' := [(6, fz_i (x589 + 1)), (8, fz_i z670), (7, fz_i (h 56 (x589.toNat))), (0, fz_r 53), (1, fz_i pe), (2, fz_i t), (3, fz_i hr), (4, fz_i L), (5, fz_i su)]) kX11_tries rfl (by decide) rfl (by omega) rfl ?_
                        refine fz_goto (tgt := 79) kX11_tries rfl (by decide) ?_
                        refine fz_sub (fz_pk_sub (ls' := [(6, fz_i (x589 + 1)), (0, fz_r 53), (1, fz_i pe), (2, fz_i t), (3, fz_i hr), (4, fz_i L), (5, fz_i su)]) [0, 3, 4, 5, 6, 7, 8] rfl) ?_
                        exact ih598 (x589 + 1) H677 hI681 hf688 hXw683 hHB684 hRM689 (by omega) (by omega)
                · refine fz_aload_n kX11_tries rfl rfl ?_
                  refine fz_getR (t := 56) kX11_tries rfl rfl ?_
                  refine fz_iload kX11_tries rfl rfl ?_
                  refine fz_ialdV (n := 12) (v := h 56 (x589.toNat)) kX11_tries rfl rfl (by omega) (by omega) (hf595 56 _ rfl) ?_
                  have b729 : 0 ≤ h 56 (x589.toNat) ∧ h 56 (x589.toNat) ≤ 7 := hI.1 56 _
                  refine fz_iload_n kX11_tries rfl rfl ?_
                  refine fz_icmp_eq (tgt := 113) kX11_tries rfl (by decide) (fun c730 => ?_) (fun c730 => ?_)
                  · refine fz_aload_n kX11_tries rfl rfl ?_
                    refine fz_getR (t := 55) kX11_tries rfl rfl ?_
                    refine fz_iload kX11_tries rfl rfl ?_
                    refine fz_ialdV (n := 12) (v := h 55 (x589.toNat)) kX11_tries rfl rfl (by omega) (by omega) (hf595 55 _ rfl) ?_
                    refine fz_iload_n kX11_tries rfl rfl ?_
                    refine fz_icmp_ne (tgt := 134) kX11_tries rfl (by decide) (fun c731 => ?_) (fun c731 => ?_)
                    · refine fz_aload_n kX11_tries rfl rfl ?_
                      refine fz_getR (t := 55) kX11_tries rfl rfl ?_
                      refine fz_iload kX11_tries rfl rfl ?_
                      refine fz_ialdV (n := 12) (v := h 55 (x589.toNat)) kX11_tries rfl rfl (by omega) (by omega) (hf595 55 _ rfl) ?_
                      have k732 := hRM (x589).toNat (by omega)
                      refine fz_istore (ls' := [(7, fz_i (h 55 (x589.toNat))), (6, fz_i x589), (0, fz_r 53), (1, fz_i pe), (2, fz_i t), (3, fz_i hr), (4, fz_i L), (5, fz_i su)]) kX11_tries rfl (by decide) rfl ?_
                      refine fz_iload_n kX11_tries rfl rfl ?_
                      refine fz_aload_n kX11_tries rfl rfl ?_
                      refine fz_getR (t := 57) kX11_tries rfl rfl ?_
                      refine fz_iload kX11_tries rfl rfl ?_
                      refine fz_ialdV (n := 12) (v := h 57 (x589.toNat)) kX11_tries rfl rfl (by omega) (by omega) (hf595 57 _ rfl) ?_
                      have b733 : 0 ≤ h 57 (x589.toNat) ∧ h 57 (x589.toNat) ≤ 24 := hI.1 57 _
                      refine fz_iadd kX11_tries rfl ?_
                      refine fz_nmw (fun z734 e735 => ?_)
                      refine fz_istore (ls' := [(8, fz_i z734), (7, fz_i (h 55 (x589.toNat))), (6, fz_i x589), (0, fz_r 53), (1, fz_i pe), (2, fz_i t), (3, fz_i hr), (4, fz_i L), (5, fz_i su)]) kX11_tries rfl (by decide) rfl ?_
                      refine fz_iload kX11_tries rfl rfl ?_
                      refine fz_sipush ⟨by decide, by decide⟩ kX11_tries rfl ?_
                      refine fz_icmp_gt (tgt := 211) kX11_tries rfl (by decide) (fun c736 => ?_) (fun c736 => ?_)
                      · refine fz_iincN (ls' := [(6, fz_i (x589 + 1)), (8, fz_i z734), (7, fz_i (h 55 (x589.toNat))), (0, fz_r 53), (1, fz_i pe), (2, fz_i t), (3, fz_i hr), (4, fz_i L), (5, fz_i su)]) kX11_tries rfl (by decide) rfl (by omega) rfl ?_
                        refine fz_goto (tgt := 79) kX11_tries rfl (by decide) ?_
                        refine fz_sub (fz_pk_sub (ls' := [(6, fz_i (x589 + 1)), (0, fz_r 53), (1, fz_i pe), (2, fz_i t), (3, fz_i hr), (4, fz_i L), (5, fz_i su)]) [0, 3, 4, 5, 6, 7, 8] rfl) ?_
                        exact ih598 (x589 + 1) H593 hI594 hf595 hXw590 hHB591 hRM592 (by omega) (by omega)
                      · refine fz_aload_n kX11_tries rfl rfl ?_
                        refine fz_iload_n kX11_tries rfl rfl ?_
                        refine fz_iload kX11_tries rfl rfl ?_
                        refine fz_iload kX11_tries rfl rfl ?_
                        have b737 : 0 ≤ h 53 0 ∧ h 53 0 ≤ 8 := hI.1 53 _
                        have b738 : 0 ≤ h 53 8 ∧ h 53 8 ≤ 99 := hI.1 53 _
                        have e739 : H593 53 0 = h 53 0 := hf595 53 0 rfl
                        have e740 : H593 53 8 = h 53 8 := hf595 53 8 rfl
                        refine fz_callV (d' := 4) (M' := mX11_isArrested) (As := [fz_i pe, fz_i (h 55 (x589.toNat)), fz_i z734]) (st := []) kX11_tries rfl rfl vX11_isArrested rfl rfl rfl rfl (Nat.le_of_ble_eq_true rfl) (Nat.le_of_ble_eq_true rfl) (by omega) (sX11_isArrested H593 hI594 pe (h 55 (x589.toNat)) z734 hXw590 hHB591 (by omega) (by omega)) (fun H741 r742 q743 o744 => ?_)
                        obtain ⟨hI745, hf746, hXw747, hHB748, y750, rfl, p751, f749⟩ := q743
                        clear o744
                        have hf752 := fz_fr_tr hf595 hf746 (show fz_su [(74, 99999), (75, 99999)] [(53, 54), (53, 55), (74, 99999), (75, 99999), (89, 99999), (90, 99999)] = true from rfl)
                        have hRM753 : fz_RM H741 := fz_RM_eq (funext fun s => hf746 55 s rfl) (funext fun s => hf746 56 s rfl) (hf746 53 0 rfl) (hf746 53 2 rfl) hRM592
                        have t754 : H741 53 0 = H593 53 0 := hf746 53 0 rfl
                        refine fz_if_eq (tgt := 177) kX11_tries rfl (by decide) (fun c755 => ?_) (fun c755 => ?_)
                        · refine fz_aload_n kX11_tries rfl rfl ?_
                          refine fz_getR (t := 90) kX11_tries rfl rfl ?_
                          refine fz_iload kX11_tries rfl rfl ?_
                          refine fz_iload kX11_tries rfl rfl ?_
                          refine fz_iast (n := 4) kX11_tries rfl rfl (by omega) (by omega) ?_
                          refine fz_nmu (S := [(53, 54), (53, 55), (74, 99999), (75, 99999), (89, 99999), (90, 99999)]) (h0 := h) (fz_Iv_up hI745 (by decide) (show (0 : Int) ≤ (h 55 (x589.toNat)) by omega) (show ((h 55 (x589.toNat)) : Int) ≤ 7 by omega)) (fz_fr_up hf752 rfl) (fun H756 hI757 hf758 e759 => ?_)
                          have t760 : H756 53 0 = H741 53 0 := by rw [e759]; exact fz_up_o (by decide)
                          have hXw761 : fz_Xw H756 := fz_Xw_eq (by rw [e759]; exact fz_up_o (by decide)) (by rw [e759]; exact fz_up_ne (by decide)) (by rw [e759]; exact fz_up_ne (by decide)) (by rw [e759]; exact fz_up_ne (by decide)) (by rw [e759]; exact fz_up_ne (by decide)) hXw747
                          have hHB762 : fl_HB H756 := fl_HB_eq (by rw [e759]; exact fz_up_ne (by decide)) (by rw [e759]; exact fz_up_ne (by decide)) (by rw [e759]; exact fz_up_o (by decide)) (by rw [e759]; exact fz_up_o (by decide)) hHB748
                          have hRM763 : fz_RM H756 := fz_RM_eq (by rw [e759]; exact fz_up_ne (by decide)) (by rw [e759]; exact fz_up_ne (by decide)) (by rw [e759]; exact fz_up_o (by decide)) (by rw [e759]; exact fz_up_o (by decide)) hRM753
                          clear e759
                          refine fz_aload_n kX11_tries rfl rfl ?_
                          refine fz_iload_n kX11_tries rfl rfl ?_
                          refine fz_iload kX11_tries rfl rfl ?_
                          refine fz_iload kX11_tries rfl rfl ?_
                          refine fz_iload kX11_tries rfl rfl ?_
                          refine fz_iconst ⟨by decide, by decide⟩ kX11_tries rfl ?_
                          refine fz_iaddN kX11_tries rfl (by omega) ?_
                          refine fz_eqi (y := (L + 1)) (by omega) ?_
                          refine fz_iload kX11_tries rfl rfl ?_
                          refine fz_aload_n kX11_tries rfl rfl ?_
                          refine fz_iload_n kX11_tries rfl rfl ?_
                          refine fz_iload kX11_tries rfl rfl ?_
                          refine fz_iload kX11_tries rfl rfl ?_
                          have e764 : H756 53 0 = h 53 0 := hf758 53 0 rfl
                          refine fz_callV (d' := 4) (M' := mX11_receivedIn) (As := [fz_i pe, fz_i (h 55 (x589.toNat)), fz_i z734]) (st := [fz_i su, fz_i (L + 1), fz_i z734, fz_i (h 55 (x589.toNat)), fz_i pe, fz_r 53]) kX11_tries rfl rfl vX11_receivedIn rfl rfl rfl rfl (Nat.le_of_ble_eq_true rfl) (Nat.le_of_ble_eq_true rfl) (by omega) (sX11_receivedIn H756 hI757 pe (h 55 (x589.toNat)) z734 hXw761 hHB762 (by omega) (by omega)) (fun H765 r766 q767 o768 => ?_)
                          obtain ⟨hI769, hf770, hXw771, hHB772, y775, rfl, f773, f774⟩ := q767
                          clear o768
                          have hf776 := fz_fr_tr hf758 hf770 (show fz_su [(74, 99999), (75, 99999)] [(53, 54), (53, 55), (74, 99999), (75, 99999), (89, 99999), (90, 99999)] = true from rfl)
                          have hRM777 : fz_RM H765 := fz_RM_eq (funext fun s => hf770 55 s rfl) (funext fun s => hf770 56 s rfl) (hf770 53 0 rfl) (hf770 53 2 rfl) hRM763
                          have t778 : H765 53 0 = H756 53 0 := hf770 53 0 rfl
                          refine fz_iadd kX11_tries rfl ?_
                          refine fz_nmw (fun z779 e780 => ?_)
                          have e781 : H765 53 0 = h 53 0 := hf776 53 0 rfl
                          refine fz_callV (d' := De) (M' := mX11_tries) (As := [fz_i pe, fz_i (h 55 (x589.toNat)), fz_i z734, fz_i (L + 1), fz_i z779]) (st := []) kX11_tries rfl rfl vX11_tries rfl rfl rfl rfl (Nat.le_of_ble_eq_true rfl) (Nat.le_of_ble_eq_true rfl) (by omega) (ih H765 hI769 pe (h 55 (x589.toNat)) z734 z779 hXw771 hHB772 hRM777 (by omega) (by omega)) (fun H782 r783 q784 o785 => ?_)
                          obtain ⟨hI786, hf787, hXw788, hHB789, hRM790, rfl⟩ := q784
                          clear o785
                          have hf791 := fz_fr_tr hf776 hf787 (show fz_su [(53, 54), (53, 55), (74, 99999), (75, 99999), (89, 99999), (90, 99999)] [(53, 54), (53, 55), (74, 99999), (75, 99999), (89, 99999), (90, 99999)] = true from rfl)
                          have t792 : H782 53 0 = H765 53 0 := hf787 53 0 rfl
                          refine fz_iincN (ls' := [(6, fz_i (x589 + 1)), (8, fz_i z734), (7, fz_i (h 55 (x589.toNat))), (0, fz_r 53), (1, fz_i pe), (2, fz_i t), (3, fz_i hr), (4, fz_i L), (5, fz_i su)]) kX11_tries rfl (by decide) rfl (by omega) rfl ?_
                          refine fz_goto (tgt := 79) kX11_tries rfl (by decide) ?_
                          refine fz_sub (fz_pk_sub (ls' := [(6, fz_i (x589 + 1)), (0, fz_r 53), (1, fz_i pe), (2, fz_i t), (3, fz_i hr), (4, fz_i L), (5, fz_i su)]) [0, 3, 4, 5, 6, 7, 8] rfl) ?_
                          exact ih598 (x589 + 1) H782 hI786 hf791 hXw788 hHB789 hRM790 (by omega) (by omega)
                        · refine fz_goto (tgt := 211) kX11_tries rfl (by decide) ?_
                          refine fz_iincN (ls' := [(6, fz_i (x589 + 1)), (8, fz_i z734), (7, fz_i (h 55 (x589.toNat))), (0, fz_r 53), (1, fz_i pe), (2, fz_i t), (3, fz_i hr), (4, fz_i L), (5, fz_i su)]) kX11_tries rfl (by decide) rfl (by omega) rfl ?_
                          refine fz_goto (tgt := 79) kX11_tries rfl (by decide) ?_
                          refine fz_sub (fz_pk_sub (ls' := [(6, fz_i (x589 + 1)), (0, fz_r 53), (1, fz_i pe), (2, fz_i t), (3, fz_i hr), (4, fz_i L), (5, fz_i su)]) [0, 3, 4, 5, 6, 7, 8] rfl) ?_
                          exact ih598 (x589 + 1) H741 hI745 hf752 hXw747 hHB748 hRM753 (by omega) (by omega)
                    · refine fz_aload_n kX11_tries rfl rfl ?_
                      refine fz_getR (t := 56) kX11_tries rfl rfl ?_
                      refine fz_iload kX11_tries rfl rfl ?_
                      refine fz_ialdV (n := 12) (v := h 56 (x589.toNat)) kX11_tries rfl rfl (by omega) (by omega) (hf595 56 _ rfl) ?_
                      refine fz_goto (tgt := 141) kX11_tries rfl (by decide) ?_
                      have k793 := hRM (x589).toNat (by omega)
                      refine fz_istore (ls' := [(7, fz_i (h 56 (x589.toNat))), (6, fz_i x589), (0, fz_r 53), (1, fz_i pe), (2, fz_i t), (3, fz_i hr), (4, fz_i L), (5, fz_i su)]) kX11_tries rfl (by decide) rfl ?_
                      refine fz_iload_n kX11_tries rfl rfl ?_
                      refine fz_aload_n kX11_tries rfl rfl ?_
                      refine fz_getR (t := 57) kX11_tries rfl rfl ?_
                      refine fz_iload kX11_tries rfl rfl ?_
                      refine fz_ialdV (n := 12) (v := h 57 (x589.toNat)) kX11_tries rfl rfl (by omega) (by omega) (hf595 57 _ rfl) ?_
                      have b794 : 0 ≤ h 57 (x589.toNat) ∧ h 57 (x589.toNat) ≤ 24 := hI.1 57 _
                      refine fz_iadd kX11_tries rfl ?_
                      refine fz_nmw (fun z795 e796 => ?_)
                      refine fz_istore (ls' := [(8, fz_i z795), (7, fz_i (h 56 (x589.toNat))), (6, fz_i x589), (0, fz_r 53), (1, fz_i pe), (2, fz_i t), (3, fz_i hr), (4, fz_i L), (5, fz_i su)]) kX11_tries rfl (by decide) rfl ?_
                      refine fz_iload kX11_tries rfl rfl ?_
                      refine fz_sipush ⟨by decide, by decide⟩ kX11_tries rfl ?_
                      refine fz_icmp_gt (tgt := 211) kX11_tries rfl (by decide) (fun c797 => ?_) (fun c797 => ?_)
                      · refine fz_iincN (ls' := [(6, fz_i (x589 + 1)), (8, fz_i z795), (7, fz_i (h 56 (x589.toNat))), (0, fz_r 53), (1, fz_i pe), (2, fz_i t), (3, fz_i hr), (4, fz_i L), (5, fz_i su)]) kX11_tries rfl (by decide) rfl (by omega) rfl ?_
                        refine fz_goto (tgt := 79) kX11_tries rfl (by decide) ?_
                        refine fz_sub (fz_pk_sub (ls' := [(6, fz_i (x589 + 1)), (0, fz_r 53), (1, fz_i pe), (2, fz_i t), (3, fz_i hr), (4, fz_i L), (5, fz_i su)]) [0, 3, 4, 5, 6, 7, 8] rfl) ?_
                        exact ih598 (x589 + 1) H593 hI594 hf595 hXw590 hHB591 hRM592 (by omega) (by omega)
                      · refine fz_aload_n kX11_tries rfl rfl ?_
                        refine fz_iload_n kX11_tries rfl rfl ?_
                        refine fz_iload kX11_tries rfl rfl ?_
                        refine fz_iload kX11_tries rfl rfl ?_
                        have b798 : 0 ≤ h 53 0 ∧ h 53 0 ≤ 8 := hI.1 53 _
                        have b799 : 0 ≤ h 53 8 ∧ h 53 8 ≤ 99 := hI.1 53 _
                        have e800 : H593 53 0 = h 53 0 := hf595 53 0 rfl
                        have e801 : H593 53 8 = h 53 8 := hf595 53 8 rfl
                        refine fz_callV (d' := 4) (M' := mX11_isArrested) (As := [fz_i pe, fz_i (h 56 (x589.toNat)), fz_i z795]) (st := []) kX11_tries rfl rfl vX11_isArrested rfl rfl rfl rfl (Nat.le_of_ble_eq_true rfl) (Nat.le_of_ble_eq_true rfl) (by omega) (sX11_isArrested H593 hI594 pe (h 56 (x589.toNat)) z795 hXw590 hHB591 (by omega) (by omega)) (fun H802 r803 q804 o805 => ?_)
                        obtain ⟨hI806, hf807, hXw808, hHB809, y811, rfl, p812, f810⟩ := q804
                        clear o805
                        have hf813 := fz_fr_tr hf595 hf807 (show fz_su [(74, 99999), (75, 99999)] [(53, 54), (53, 55), (74, 99999), (75, 99999), (89, 99999), (90, 99999)] = true from rfl)
                        have hRM814 : fz_RM H802 := fz_RM_eq (funext fun s => hf807 55 s rfl) (funext fun s => hf807 56 s rfl) (hf807 53 0 rfl) (hf807 53 2 rfl) hRM592
                        have t815 : H802 53 0 = H593 53 0 := hf807 53 0 rfl
                        refine fz_if_eq (tgt := 177) kX11_tries rfl (by decide) (fun c816 => ?_) (fun c816 => ?_)
                        · refine fz_aload_n kX11_tries rfl rfl ?_
                          refine fz_getR (t := 90) kX11_tries rfl rfl ?_
                          refine fz_iload kX11_tries rfl rfl ?_
                          refine fz_iload kX11_tries rfl rfl ?_
                          refine fz_iast (n := 4) kX11_tries rfl rfl (by omega) (by omega) ?_
                          refine fz_nmu (S := [(53, 54), (53, 55), (74, 99999), (75, 99999), (89, 99999), (90, 99999)]) (h0 := h) (fz_Iv_up hI806 (by decide) (show (0 : Int) ≤ (h 56 (x589.toNat)) by omega) (show ((h 56 (x589.toNat)) : Int) ≤ 7 by omega)) (fz_fr_up hf813 rfl) (fun H817 hI818 hf819 e820 => ?_)
                          have t821 : H817 53 0 = H802 53 0 := by rw [e820]; exact fz_up_o (by decide)
                          have hXw822 : fz_Xw H817 := fz_Xw_eq (by rw [e820]; exact fz_up_o (by decide)) (by rw [e820]; exact fz_up_ne (by decide)) (by rw [e820]; exact fz_up_ne (by decide)) (by rw [e820]; exact fz_up_ne (by decide)) (by rw [e820]; exact fz_up_ne (by decide)) hXw808
                          have hHB823 : fl_HB H817 := fl_HB_eq (by rw [e820]; exact fz_up_ne (by decide)) (by rw [e820]; exact fz_up_ne (by decide)) (by rw [e820]; exact fz_up_o (by decide)) (by rw [e820]; exact fz_up_o (by decide)) hHB809
                          have hRM824 : fz_RM H817 := fz_RM_eq (by rw [e820]; exact fz_up_ne (by decide)) (by rw [e820]; exact fz_up_ne (by decide)) (by rw [e820]; exact fz_up_o (by decide)) (by rw [e820]; exact fz_up_o (by decide)) hRM814
                          clear e820
                          refine fz_aload_n kX11_tries rfl rfl ?_
                          refine fz_iload_n kX11_tries rfl rfl ?_
                          refine fz_iload kX11_tries rfl rfl ?_
                          refine fz_iload kX11_tries rfl rfl ?_
                          refine fz_iload kX11_tries rfl rfl ?_
                          refine fz_iconst ⟨by decide, by decide⟩ kX11_tries rfl ?_
                          refine fz_iaddN kX11_tries rfl (by omega) ?_
                          refine fz_eqi (y := (L + 1)) (by omega) ?_
                          refine fz_iload kX11_tries rfl rfl ?_
                          refine fz_aload_n kX11_tries rfl rfl ?_
                          refine fz_iload_n kX11_tries rfl rfl ?_
                          refine fz_iload kX11_tries rfl rfl ?_
                          refine fz_iload kX11_tries rfl rfl ?_
                          have e825 : H817 53 0 = h 53 0 := hf819 53 0 rfl
                          refine fz_callV (d' := 4) (M' := mX11_receivedIn) (As := [fz_i pe, fz_i (h 56 (x589.toNat)), fz_i z795]) (st := [fz_i su, fz_i (L + 1), fz_i z795, fz_i (h 56 (x589.toNat)), fz_i pe, fz_r 53]) kX11_tries rfl rfl vX11_receivedIn rfl rfl rfl rfl (Nat.le_of_ble_eq_true rfl) (Nat.le_of_ble_eq_true rfl) (by omega) (sX11_receivedIn H817 hI818 pe (h 56 (x589.toNat)) z795 hXw822 hHB823 (by omega) (by omega)) (fun H826 r827 q828 o829 => ?_)
                          obtain ⟨hI830, hf831, hXw832, hHB833, y836, rfl, f834, f835⟩ := q828
                          clear o829
                          have hf837 := fz_fr_tr hf819 hf831 (show fz_su [(74, 99999), (75, 99999)] [(53, 54), (53, 55), (74, 99999), (75, 99999), (89, 99999), (90, 99999)] = true from rfl)
                          have hRM838 : fz_RM H826 := fz_RM_eq (funext fun s => hf831 55 s rfl) (funext fun s => hf831 56 s rfl) (hf831 53 0 rfl) (hf831 53 2 rfl) hRM824
                          have t839 : H826 53 0 = H817 53 0 := hf831 53 0 rfl
                          refine fz_iadd kX11_tries rfl ?_
                          refine fz_nmw (fun z840 e841 => ?_)
                          have e842 : H826 53 0 = h 53 0 := hf837 53 0 rfl
                          refine fz_callV (d' := De) (M' := mX11_tries) (As := [fz_i pe, fz_i (h 56 (x589.toNat)), fz_i z795, fz_i (L + 1), fz_i z840]) (st := []) kX11_tries rfl rfl vX11_tries rfl rfl rfl rfl (Nat.le_of_ble_eq_true rfl) (Nat.le_of_ble_eq_true rfl) (by omega) (ih H826 hI830 pe (h 56 (x589.toNat)) z795 z840 hXw832 hHB833 hRM838 (by omega) (by omega)) (fun H843 r844 q845 o846 => ?_)
                          obtain ⟨hI847, hf848, hXw849, hHB850, hRM851, rfl⟩ := q845
                          clear o846
                          have hf852 := fz_fr_tr hf837 hf848 (show fz_su [(53, 54), (53, 55), (74, 99999), (75, 99999), (89, 99999), (90, 99999)] [(53, 54), (53, 55), (74, 99999), (75, 99999), (89, 99999), (90, 99999)] = true from rfl)
                          have t853 : H843 53 0 = H826 53 0 := hf848 53 0 rfl
                          refine fz_iincN (ls' := [(6, fz_i (x589 + 1)), (8, fz_i z795), (7, fz_i (h 56 (x589.toNat))), (0, fz_r 53), (1, fz_i pe), (2, fz_i t), (3, fz_i hr), (4, fz_i L), (5, fz_i su)]) kX11_tries rfl (by decide) rfl (by omega) rfl ?_
                          refine fz_goto (tgt := 79) kX11_tries rfl (by decide) ?_
                          refine fz_sub (fz_pk_sub (ls' := [(6, fz_i (x589 + 1)), (0, fz_r 53), (1, fz_i pe), (2, fz_i t), (3, fz_i hr), (4, fz_i L), (5, fz_i su)]) [0, 3, 4, 5, 6, 7, 8] rfl) ?_
                          exact ih598 (x589 + 1) H843 hI847 hf852 hXw849 hHB850 hRM851 (by omega) (by omega)
                        · refine fz_goto (tgt := 211) kX11_tries rfl (by decide) ?_
                          refine fz_iincN (ls' := [(6, fz_i (x589 + 1)), (8, fz_i z795), (7, fz_i (h 56 (x589.toNat))), (0, fz_r 53), (1, fz_i pe), (2, fz_i t), (3, fz_i hr), (4, fz_i L), (5, fz_i su)]) kX11_tries rfl (by decide) rfl (by omega) rfl ?_
                          refine fz_goto (tgt := 79) kX11_tries rfl (by decide) ?_
                          refine fz_sub (fz_pk_sub (ls' := [(6, fz_i (x589 + 1)), (0, fz_r 53), (1, fz_i pe), (2, fz_i t), (3, fz_i hr), (4, fz_i L), (5, fz_i su)]) [0, 3, 4, 5, 6, 7, 8] rfl) ?_
                          exact ih598 (x589 + 1) H802 hI806 hf813 hXw808 hHB809 hRM814 (by omega) (by omega)
                  · refine fz_goto (tgt := 211) kX11_tries rfl (by decide) ?_
                    refine fz_iincN (ls' := [(6, fz_i (x589 + 1)), (0, fz_r 53), (1, fz_i pe), (2, fz_i t), (3, fz_i hr), (4, fz_i L), (5, fz_i su)]) kX11_tries rfl (by decide) rfl (by omega) rfl ?_
                    refine fz_goto (tgt := 79) kX11_tries rfl (by decide) ?_
                    exact ih598 (x589 + 1) H593 hI594 hf595 hXw590 hHB591 hRM592 (by omega) (by omega)
          exact lp597 _ 0 h hI hf hXw hHB hRM (by omega) (Nat.lt_succ_self _)
        · exfalso; omega
      · refine fz_aload_n kX11_tries rfl rfl ?_
        refine fz_iload kX11_tries rfl rfl ?_
        refine fz_putI kX11_tries rfl rfl rfl ?_
        refine fz_nmu (S := [(53, 54), (53, 55), (74, 99999), (75, 99999), (89, 99999), (90, 99999)]) (h0 := h) (fz_Iv_up hI (by decide) (show ((-2147483648) : Int) ≤ su by omega) (show (su : Int) ≤ 2147483647 by omega)) (fz_fr_up hf rfl) (fun H854 hI855 hf856 e857 => ?_)
        have k858 : H854 53 54 = su := by rw [e857]; exact fz_up_e
        have t859 : H854 53 0 = h 53 0 := by rw [e857]; exact fz_up_s (by decide)
        have hXw860 : fz_Xw H854 := fz_Xw_eq (by rw [e857]; exact fz_up_s (by decide)) (by rw [e857]; exact fz_up_ne (by decide)) (by rw [e857]; exact fz_up_ne (by decide)) (by rw [e857]; exact fz_up_ne (by decide)) (by rw [e857]; exact fz_up_ne (by decide)) hXw
        have hHB861 : fl_HB H854 := fl_HB_eq (by rw [e857]; exact fz_up_ne (by decide)) (by rw [e857]; exact fz_up_ne (by decide)) (by rw [e857]; exact fz_up_s (by decide)) (by rw [e857]; exact fz_up_s (by decide)) hHB
        have hRM862 : fz_RM H854 := fz_RM_eq (by rw [e857]; exact fz_up_ne (by decide)) (by rw [e857]; exact fz_up_ne (by decide)) (by rw [e857]; exact fz_up_s (by decide)) (by rw [e857]; exact fz_up_s (by decide)) hRM
        clear e857
        refine fz_aload_n kX11_tries rfl rfl ?_
        refine fz_iload kX11_tries rfl rfl ?_
        refine fz_putI kX11_tries rfl rfl rfl ?_
        refine fz_nmu (S := [(53, 54), (53, 55), (74, 99999), (75, 99999), (89, 99999), (90, 99999)]) (h0 := h) (fz_Iv_up hI855 (by decide) (show (0 : Int) ≤ L by omega) (show (L : Int) ≤ 4 by omega)) (fz_fr_up hf856 rfl) (fun H863 hI864 hf865 e866 => ?_)
        have k867 : H863 53 54 = su := by rw [e866]; exact (fz_up_s (by decide)).trans k858
        have k868 : H863 53 55 = L := by rw [e866]; exact fz_up_e
        have t869 : H863 53 0 = H854 53 0 := by rw [e866]; exact fz_up_s (by decide)
        have hXw870 : fz_Xw H863 := fz_Xw_eq (by rw [e866]; exact fz_up_s (by decide)) (by rw [e866]; exact fz_up_ne (by decide)) (by rw [e866]; exact fz_up_ne (by decide)) (by rw [e866]; exact fz_up_ne (by decide)) (by rw [e866]; exact fz_up_ne (by decide)) hXw860
        have hHB871 : fl_HB H863 := fl_HB_eq (by rw [e866]; exact fz_up_ne (by decide)) (by rw [e866]; exact fz_up_ne (by decide)) (by rw [e866]; exact fz_up_s (by decide)) (by rw [e866]; exact fz_up_s (by decide)) hHB861
        have hRM872 : fz_RM H863 := fz_RM_eq (by rw [e866]; exact fz_up_ne (by decide)) (by rw [e866]; exact fz_up_ne (by decide)) (by rw [e866]; exact fz_up_s (by decide)) (by rw [e866]; exact fz_up_s (by decide)) hRM862
        clear e866
        refine fz_iconst ⟨by decide, by decide⟩ kX11_tries rfl ?_
        refine fz_istore (ls' := [(6, fz_i 0), (0, fz_r 53), (1, fz_i pe), (2, fz_i t), (3, fz_i hr), (4, fz_i L), (5, fz_i su)]) kX11_tries rfl (by decide) rfl ?_
        have lp881 : ∀ (n880 : Nat) (x873 : Int) (H877 : fz_H), fz_Iv H877 → fz_fr [(53, 54), (53, 55), (74, 99999), (75, 99999), (89, 99999), (90, 99999)] h H877 → fz_Xw H877 → fl_HB H877 → fz_RM H877 → (0 ≤ x873 ∧ x873 ≤ 2147483647) → (L - x873).toNat < n880 → fz_R D mX11_tries 42 [(6, fz_i x873), (0, fz_r 53), (1, fz_i pe), (2, fz_i t), (3, fz_i hr), (4, fz_i L), (5, fz_i su)] [] H877 (qX11_tries_g h pe t hr su) := by
          intro n880
          induction n880 with
          | zero => intro x873 H877 hI878 hf879 hXw874 hHB875 hRM876 hv884 hm883; exact absurd hm883 (by omega)
          | succ n880 ih882 =>
            intro x873 H877 hI878 hf879 hXw874 hHB875 hRM876 hv884 hm883
            refine fz_iload kX11_tries rfl rfl ?_
            refine fz_iload kX11_tries rfl rfl ?_
            refine fz_icmp_ge (tgt := 69) kX11_tries rfl (by decide) (fun c885 => ?_) (fun c885 => ?_)
            · refine fz_iload kX11_tries rfl rfl ?_
              refine fz_iconst ⟨by decide, by decide⟩ kX11_tries rfl ?_
              refine fz_icmp_ne (tgt := 76) kX11_tries rfl (by decide) (fun c886 => ?_) (fun c886 => ?_)
              · refine fz_iconst ⟨by decide, by decide⟩ kX11_tries rfl ?_
                refine fz_istore (ls' := [(6, fz_i 0), (0, fz_r 53), (1, fz_i pe), (2, fz_i t), (3, fz_i hr), (4, fz_i L), (5, fz_i su)]) kX11_tries rfl (by decide) rfl ?_
                have lp895 : ∀ (n894 : Nat) (x887 : Int) (H891 : fz_H), fz_Iv H891 → fz_fr [(53, 54), (53, 55), (74, 99999), (75, 99999), (89, 99999), (90, 99999)] h H891 → fz_Xw H891 → fl_HB H891 → fz_RM H891 → (0 ≤ x887 ∧ x887 ≤ 2147483647) → ((h 53 2) - x887).toNat < n894 → fz_R D mX11_tries 79 [(6, fz_i x887), (0, fz_r 53), (1, fz_i pe), (2, fz_i t), (3, fz_i hr), (4, fz_i L), (5, fz_i su)] [] H891 (qX11_tries_g h pe t hr su) := by
                  intro n894
                  induction n894 with
                  | zero => intro x887 H891 hI892 hf893 hXw888 hHB889 hRM890 hv898 hm897; exact absurd hm897 (by omega)
                  | succ n894 ih896 =>
                    intro x887 H891 hI892 hf893 hXw888 hHB889 hRM890 hv898 hm897
                    refine fz_iload kX11_tries rfl rfl ?_
                    refine fz_aload_n kX11_tries rfl rfl ?_
                    refine fz_getV (v := h 53 2) kX11_tries rfl rfl (hf893 53 2 rfl) ?_
                    have b899 : 0 ≤ h 53 2 ∧ h 53 2 ≤ 12 := hI.1 53 _
                    refine fz_icmp_ge (tgt := 217) kX11_tries rfl (by decide) (fun c900 => ?_) (fun c900 => ?_)
                    · exact fz_vret kX11_tries rfl rfl ⟨hI892, hf893, hXw888, hHB889, hRM890, rfl⟩
                    · refine fz_aload_n kX11_tries rfl rfl ?_
                      refine fz_getR (t := 55) kX11_tries rfl rfl ?_
                      refine fz_iload kX11_tries rfl rfl ?_
                      refine fz_ialdV (n := 12) (v := h 55 (x887.toNat)) kX11_tries rfl rfl (by omega) (by omega) (hf893 55 _ rfl) ?_
                      have b901 : 0 ≤ h 55 (x887.toNat) ∧ h 55 (x887.toNat) ≤ 7 := hI.1 55 _
                      refine fz_iload_n kX11_tries rfl rfl ?_
                      refine fz_icmp_eq (tgt := 113) kX11_tries rfl (by decide) (fun c902 => ?_) (fun c902 => ?_)
                      · refine fz_aload_n kX11_tries rfl rfl ?_
                        refine fz_getR (t := 55) kX11_tries rfl rfl ?_
                        refine fz_iload kX11_tries rfl rfl ?_
                        refine fz_ialdV (n := 12) (v := h 55 (x887.toNat)) kX11_tries rfl rfl (by omega) (by omega) (hf893 55 _ rfl) ?_
                        refine fz_iload_n kX11_tries rfl rfl ?_
                        refine fz_icmp_ne (tgt := 134) kX11_tries rfl (by decide) (fun c903 => ?_) (fun c903 => ?_)
                        · refine fz_aload_n kX11_tries rfl rfl ?_
                          refine fz_getR (t := 55) kX11_tries rfl rfl ?_
                          refine fz_iload kX11_tries rfl rfl ?_
                          refine fz_ialdV (n := 12) (v := h 55 (x887.toNat)) kX11_tries rfl rfl (by omega) (by omega) (hf893 55 _ rfl) ?_
                          have k904 := hRM (x887).toNat (by omega)
                          refine fz_istore (ls' := [(7, fz_i (h 55 (x887.toNat))), (6, fz_i x887), (0, fz_r 53), (1, fz_i pe), (2, fz_i t), (3, fz_i hr), (4, fz_i L), (5, fz_i su)]) kX11_tries rfl (by decide) rfl ?_
                          refine fz_iload_n kX11_tries rfl rfl ?_
                          refine fz_aload_n kX11_tries rfl rfl ?_
                          refine fz_getR (t := 57) kX11_tries rfl rfl ?_
                          refine fz_iload kX11_tries rfl rfl ?_
                          refine fz_ialdV (n := 12) (v := h 57 (x887.toNat)) kX11_tries rfl rfl (by omega) (by omega) (hf893 57 _ rfl) ?_
                          have b905 : 0 ≤ h 57 (x887.toNat) ∧ h 57 (x887.toNat) ≤ 24 := hI.1 57 _
                          refine fz_iadd kX11_tries rfl ?_
                          refine fz_nmw (fun z906 e907 => ?_)
                          refine fz_istore (ls' := [(8, fz_i z906), (7, fz_i (h 55 (x887.toNat))), (6, fz_i x887), (0, fz_r 53), (1, fz_i pe), (2, fz_i t), (3, fz_i hr), (4, fz_i L), (5, fz_i su)]) kX11_tries rfl (by decide) rfl ?_
                          refine fz_iload kX11_tries rfl rfl ?_
                          refine fz_sipush ⟨by decide, by decide⟩ kX11_tries rfl ?_
                          refine fz_icmp_gt (tgt := 211) kX11_tries rfl (by decide) (fun c908 => ?_) (fun c908 => ?_)
                          · refine fz_iincN (ls' := [(6, fz_i (x887 + 1)), (8, fz_i z906), (7, fz_i (h 55 (x887.toNat))), (0, fz_r 53), (1, fz_i pe), (2, fz_i t), (3, fz_i hr), (4, fz_i L), (5, fz_i su)]) kX11_tries rfl (by decide) rfl (by omega) rfl ?_
                            refine fz_goto (tgt := 79) kX11_tries rfl (by decide) ?_
                            refine fz_sub (fz_pk_sub (ls' := [(6, fz_i (x887 + 1)), (0, fz_r 53), (1, fz_i pe), (2, fz_i t), (3, fz_i hr), (4, fz_i L), (5, fz_i su)]) [0, 3, 4, 5, 6, 7, 8] rfl) ?_
                            exact ih896 (x887 + 1) H891 hI892 hf893 hXw888 hHB889 hRM890 (by omega) (by omega)
                          · refine fz_aload_n kX11_tries rfl rfl ?_
                            refine fz_iload_n kX11_tries rfl rfl ?_
                            refine fz_iload kX11_tries rfl rfl ?_
                            refine fz_iload kX11_tries rfl rfl ?_
                            have b909 : 0 ≤ h 53 0 ∧ h 53 0 ≤ 8 := hI.1 53 _
                            have b910 : 0 ≤ h 53 8 ∧ h 53 8 ≤ 99 := hI.1 53 _
                            have e911 : H891 53 0 = h 53 0 := hf893 53 0 rfl
                            have e912 : H891 53 8 = h 53 8 := hf893 53 8 rfl
                            refine fz_callV (d' := 4) (M' := mX11_isArrested) (As := [fz_i pe, fz_i (h 55 (x887.toNat)), fz_i z906]) (st := []) kX11_tries rfl rfl vX11_isArrested rfl rfl rfl rfl (Nat.le_of_ble_eq_true rfl) (Nat.le_of_ble_eq_true rfl) (by omega) (sX11_isArrested H891 hI892 pe (h 55 (x887.toNat)) z906 hXw888 hHB889 (by omega) (by omega)) (fun H913 r914 q915 o916 => ?_)
                            obtain ⟨hI917, hf918, hXw919, hHB920, y922, rfl, p923, f921⟩ := q915
                            clear o916
                            have hf924 := fz_fr_tr hf893 hf918 (show fz_su [(74, 99999), (75, 99999)] [(53, 54), (53, 55), (74, 99999), (75, 99999), (89, 99999), (90, 99999)] = true from rfl)
                            have hRM925 : fz_RM H913 := fz_RM_eq (funext fun s => hf918 55 s rfl) (funext fun s => hf918 56 s rfl) (hf918 53 0 rfl) (hf918 53 2 rfl) hRM890
                            have t926 : H913 53 0 = H891 53 0 := hf918 53 0 rfl
                            refine fz_if_eq (tgt := 177) kX11_tries rfl (by decide) (fun c927 => ?_) (fun c927 => ?_)
                            · refine fz_aload_n kX11_tries rfl rfl ?_
                              refine fz_getR (t := 90) kX11_tries rfl rfl ?_
                              refine fz_iload kX11_tries rfl rfl ?_
                              refine fz_iload kX11_tries rfl rfl ?_
                              refine fz_iast (n := 4) kX11_tries rfl rfl (by omega) (by omega) ?_
                              refine fz_nmu (S := [(53, 54), (53, 55), (74, 99999), (75, 99999), (89, 99999), (90, 99999)]) (h0 := h) (fz_Iv_up hI917 (by decide) (show (0 : Int) ≤ (h 55 (x887.toNat)) by omega) (show ((h 55 (x887.toNat)) : Int) ≤ 7 by omega)) (fz_fr_up hf924 rfl) (fun H928 hI929 hf930 e931 => ?_)
                              have t932 : H928 53 0 = H913 53 0 := by rw [e931]; exact fz_up_o (by decide)
                              have hXw933 : fz_Xw H928 := fz_Xw_eq (by rw [e931]; exact fz_up_o (by decide)) (by rw [e931]; exact fz_up_ne (by decide)) (by rw [e931]; exact fz_up_ne (by decide)) (by rw [e931]; exact fz_up_ne (by decide)) (by rw [e931]; exact fz_up_ne (by decide)) hXw919
                              have hHB934 : fl_HB H928 := fl_HB_eq (by rw [e931]; exact fz_up_ne (by decide)) (by rw [e931]; exact fz_up_ne (by decide)) (by rw [e931]; exact fz_up_o (by decide)) (by rw [e931]; exact fz_up_o (by decide)) hHB920
                              have hRM935 : fz_RM H928 := fz_RM_eq (by rw [e931]; exact fz_up_ne (by decide)) (by rw [e931]; exact fz_up_ne (by decide)) (by rw [e931]; exact fz_up_o (by decide)) (by rw [e931]; exact fz_up_o (by decide)) hRM925
                              clear e931
                              refine fz_aload_n kX11_tries rfl rfl ?_
                              refine fz_iload_n kX11_tries rfl rfl ?_
                              refine fz_iload kX11_tries rfl rfl ?_
                              refine fz_iload kX11_tries rfl rfl ?_
                              refine fz_iload kX11_tries rfl rfl ?_
                              refine fz_iconst ⟨by decide, by decide⟩ kX11_tries rfl ?_
                              refine fz_iaddN kX11_tries rfl (by omega) ?_
                              refine fz_eqi (y := (L + 1)) (by omega) ?_
                              refine fz_iload kX11_tries rfl rfl ?_
                              refine fz_aload_n kX11_tries rfl rfl ?_
                              refine fz_iload_n kX11_tries rfl rfl ?_
                              refine fz_iload kX11_tries rfl rfl ?_
                              refine fz_iload kX11_tries rfl rfl ?_
                              have e936 : H928 53 0 = h 53 0 := hf930 53 0 rfl
                              refine fz_callV (d' := 4) (M' := mX11_receivedIn) (As := [fz_i pe, fz_i (h 55 (x887.toNat)), fz_i z906]) (st := [fz_i su, fz_i (L + 1), fz_i z906, fz_i (h 55 (x887.toNat)), fz_i pe, fz_r 53]) kX11_tries rfl rfl vX11_receivedIn rfl rfl rfl rfl (Nat.le_of_ble_eq_true rfl) (Nat.le_of_ble_eq_true rfl) (by omega) (sX11_receivedIn H928 hI929 pe (h 55 (x887.toNat)) z906 hXw933 hHB934 (by omega) (by omega)) (fun H937 r938 q939 o940 => ?_)
                              obtain ⟨hI941, hf942, hXw943, hHB944, y947, rfl, f945, f946⟩ := q939
                              clear o940
                              have hf948 := fz_fr_tr hf930 hf942 (show fz_su [(74, 99999), (75, 99999)] [(53, 54), (53, 55), (74, 99999), (75, 99999), (89, 99999), (90, 99999)] = true from rfl)
                              have hRM949 : fz_RM H937 := fz_RM_eq (funext fun s => hf942 55 s rfl) (funext fun s => hf942 56 s rfl) (hf942 53 0 rfl) (hf942 53 2 rfl) hRM935
                              have t950 : H937 53 0 = H928 53 0 := hf942 53 0 rfl
                              refine fz_iadd kX11_tries rfl ?_
                              refine fz_nmw (fun z951 e952 => ?_)
                              have e953 : H937 53 0 = h 53 0 := hf948 53 0 rfl
                              refine fz_callV (d' := De) (M' := mX11_tries) (As := [fz_i pe, fz_i (h 55 (x887.toNat)), fz_i z906, fz_i (L + 1), fz_i z951]) (st := []) kX11_tries rfl rfl vX11_tries rfl rfl rfl rfl (Nat.le_of_ble_eq_true rfl) (Nat.le_of_ble_eq_true rfl) (by omega) (ih H937 hI941 pe (h 55 (x887.toNat)) z906 z951 hXw943 hHB944 hRM949 (by omega) (by omega)) (fun H954 r955 q956 o957 => ?_)
                              obtain ⟨hI958, hf959, hXw960, hHB961, hRM962, rfl⟩ := q956
                              clear o957
                              have hf963 := fz_fr_tr hf948 hf959 (show fz_su [(53, 54), (53, 55), (74, 99999), (75, 99999), (89, 99999), (90, 99999)] [(53, 54), (53, 55), (74, 99999), (75, 99999), (89, 99999), (90, 99999)] = true from rfl)
                              have t964 : H954 53 0 = H937 53 0 := hf959 53 0 rfl
                              refine fz_iincN (ls' := [(6, fz_i (x887 + 1)), (8, fz_i z906), (7, fz_i (h 55 (x887.toNat))), (0, fz_r 53), (1, fz_i pe), (2, fz_i t), (3, fz_i hr), (4, fz_i L), (5, fz_i su)]) kX11_tries rfl (by decide) rfl (by omega) rfl ?_
                              refine fz_goto (tgt := 79) kX11_tries rfl (by decide) ?_
                              refine fz_sub (fz_pk_sub (ls' := [(6, fz_i (x887 + 1)), (0, fz_r 53), (1, fz_i pe), (2, fz_i t), (3, fz_i hr), (4, fz_i L), (5, fz_i su)]) [0, 3, 4, 5, 6, 7, 8] rfl) ?_
                              exact ih896 (x887 + 1) H954 hI958 hf963 hXw960 hHB961 hRM962 (by omega) (by omega)
                            · refine fz_goto (tgt := 211) kX11_tries rfl (by decide) ?_
                              refine fz_iincN (ls' := [(6, fz_i (x887 + 1)), (8, fz_i z906), (7, fz_i (h 55 (x887.toNat))), (0, fz_r 53), (1, fz_i pe), (2, fz_i t), (3, fz_i hr), (4, fz_i L), (5, fz_i su)]) kX11_tries rfl (by decide) rfl (by omega) rfl ?_
                              refine fz_goto (tgt := 79) kX11_tries rfl (by decide) ?_
                              refine fz_sub (fz_pk_sub (ls' := [(6, fz_i (x887 + 1)), (0, fz_r 53), (1, fz_i pe), (2, fz_i t), (3, fz_i hr), (4, fz_i L), (5, fz_i su)]) [0, 3, 4, 5, 6, 7, 8] rfl) ?_
                              exact ih896 (x887 + 1) H913 hI917 hf924 hXw919 hHB920 hRM925 (by omega) (by omega)
                        · refine fz_aload_n kX11_tries rfl rfl ?_
                          refine fz_getR (t := 56) kX11_tries rfl rfl ?_
                          refine fz_iload kX11_tries rfl rfl ?_
                          refine fz_ialdV (n := 12) (v := h 56 (x887.toNat)) kX11_tries rfl rfl (by omega) (by omega) (hf893 56 _ rfl) ?_
                          have b965 : 0 ≤ h 56 (x887.toNat) ∧ h 56 (x887.toNat) ≤ 7 := hI.1 56 _
                          refine fz_goto (tgt := 141) kX11_tries rfl (by decide) ?_
                          have k966 := hRM (x887).toNat (by omega)
                          refine fz_istore (ls' := [(7, fz_i (h 56 (x887.toNat))), (6, fz_i x887), (0, fz_r 53), (1, fz_i pe), (2, fz_i t), (3, fz_i hr), (4, fz_i L), (5, fz_i su)]) kX11_tries rfl (by decide) rfl ?_
                          refine fz_iload_n kX11_tries rfl rfl ?_
                          refine fz_aload_n kX11_tries rfl rfl ?_
                          refine fz_getR (t := 57) kX11_tries rfl rfl ?_
                          refine fz_iload kX11_tries rfl rfl ?_
                          refine fz_ialdV (n := 12) (v := h 57 (x887.toNat)) kX11_tries rfl rfl (by omega) (by omega) (hf893 57 _ rfl) ?_
                          have b967 : 0 ≤ h 57 (x887.toNat) ∧ h 57 (x887.toNat) ≤ 24 := hI.1 57 _
                          refine fz_iadd kX11_tries rfl ?_
                          refine fz_nmw (fun z968 e969 => ?_)
                          refine fz_istore (ls' := [(8, fz_i z968), (7, fz_i (h 56 (x887.toNat))), (6, fz_i x887), (0, fz_r 53), (1, fz_i pe), (2, fz_i t), (3, fz_i hr), (4, fz_i L), (5, fz_i su)]) kX11_tries rfl (by decide) rfl ?_
                          refine fz_iload kX11_tries rfl rfl ?_
                          refine fz_sipush ⟨by decide, by decide⟩ kX11_tries rfl ?_
                          refine fz_icmp_gt (tgt := 211) kX11_tries rfl (by decide) (fun c970 => ?_) (fun c970 => ?_)
                          · refine fz_iincN (ls' := [(6, fz_i (x887 + 1)), (8, fz_i z968), (7, fz_i (h 56 (x887.toNat))), (0, fz_r 53), (1, fz_i pe), (2, fz_i t), (3, fz_i hr), (4, fz_i L), (5, fz_i su)]) kX11_tries rfl (by decide) rfl (by omega) rfl ?_
                            refine fz_goto (tgt := 79) kX11_tries rfl (by decide) ?_
                            refine fz_sub (fz_pk_sub (ls' := [(6, fz_i (x887 + 1)), (0, fz_r 53), (1, fz_i pe), (2, fz_i t), (3, fz_i hr), (4, fz_i L), (5, fz_i su)]) [0, 3, 4, 5, 6, 7, 8] rfl) ?_
                            exact ih896 (x887 + 1) H891 hI892 hf893 hXw888 hHB889 hRM890 (by omega) (by omega)
                          · refine fz_aload_n kX11_tries rfl rfl ?_
                            refine fz_iload_n kX11_tries rfl rfl ?_
                            refine fz_iload kX11_tries rfl rfl ?_
                            refine fz_iload kX11_tries rfl rfl ?_
                            have b971 : 0 ≤ h 53 0 ∧ h 53 0 ≤ 8 := hI.1 53 _
                            have b972 : 0 ≤ h 53 8 ∧ h 53 8 ≤ 99 := hI.1 53 _
                            have e973 : H891 53 0 = h 53 0 := hf893 53 0 rfl
                            have e974 : H891 53 8 = h 53 8 := hf893 53 8 rfl
                            refine fz_callV (d' := 4) (M' := mX11_isArrested) (As := [fz_i pe, fz_i (h 56 (x887.toNat)), fz_i z968]) (st := []) kX11_tries rfl rfl vX11_isArrested rfl rfl rfl rfl (Nat.le_of_ble_eq_true rfl) (Nat.le_of_ble_eq_true rfl) (by omega) (sX11_isArrested H891 hI892 pe (h 56 (x887.toNat)) z968 hXw888 hHB889 (by omega) (by omega)) (fun H975 r976 q977 o978 => ?_)
                            obtain ⟨hI979, hf980, hXw981, hHB982, y984, rfl, p985, f983⟩ := q977
                            clear o978
                            have hf986 := fz_fr_tr hf893 hf980 (show fz_su [(74, 99999), (75, 99999)] [(53, 54), (53, 55), (74, 99999), (75, 99999), (89, 99999), (90, 99999)] = true from rfl)
                            have hRM987 : fz_RM H975 := fz_RM_eq (funext fun s => hf980 55 s rfl) (funext fun s => hf980 56 s rfl) (hf980 53 0 rfl) (hf980 53 2 rfl) hRM890
                            have t988 : H975 53 0 = H891 53 0 := hf980 53 0 rfl
                            refine fz_if_eq (tgt := 177) kX11_tries rfl (by decide) (fun c989 => ?_) (fun c989 => ?_)
                            · refine fz_aload_n kX11_tries rfl rfl ?_
                              refine fz_getR (t := 90) kX11_tries rfl rfl ?_
                              refine fz_iload kX11_tries rfl rfl ?_
                              refine fz_iload kX11_tries rfl rfl ?_
                              refine fz_iast (n := 4) kX11_tries rfl rfl (by omega) (by omega) ?_
                              refine fz_nmu (S := [(53, 54), (53, 55), (74, 99999), (75, 99999), (89, 99999), (90, 99999)]) (h0 := h) (fz_Iv_up hI979 (by decide) (show (0 : Int) ≤ (h 56 (x887.toNat)) by omega) (show ((h 56 (x887.toNat)) : Int) ≤ 7 by omega)) (fz_fr_up hf986 rfl) (fun H990 hI991 hf992 e993 => ?_)
                              have t994 : H990 53 0 = H975 53 0 := by rw [e993]; exact fz_up_o (by decide)
                              have hXw995 : fz_Xw H990 := fz_Xw_eq (by rw [e993]; exact fz_up_o (by decide)) (by rw [e993]; exact fz_up_ne (by decide)) (by rw [e993]; exact fz_up_ne (by decide)) (by rw [e993]; exact fz_up_ne (by decide)) (by rw [e993]; exact fz_up_ne (by decide)) hXw981
                              have hHB996 : fl_HB H990 := fl_HB_eq (by rw [e993]; exact fz_up_ne (by decide)) (by rw [e993]; exact fz_up_ne (by decide)) (by rw [e993]; exact fz_up_o (by decide)) (by rw [e993]; exact fz_up_o (by decide)) hHB982
                              have hRM997 : fz_RM H990 := fz_RM_eq (by rw [e993]; exact fz_up_ne (by decide)) (by rw [e993]; exact fz_up_ne (by decide)) (by rw [e993]; exact fz_up_o (by decide)) (by rw [e993]; exact fz_up_o (by decide)) hRM987
                              clear e993
                              refine fz_aload_n kX11_tries rfl rfl ?_
                              refine fz_iload_n kX11_tries rfl rfl ?_
                              refine fz_iload kX11_tries rfl rfl ?_
                              refine fz_iload kX11_tries rfl rfl ?_
                              refine fz_iload kX11_tries rfl rfl ?_
                              refine fz_iconst ⟨by decide, by decide⟩ kX11_tries rfl ?_
                              refine fz_iaddN kX11_tries rfl (by omega) ?_
                              refine fz_eqi (y := (L + 1)) (by omega) ?_
                              refine fz_iload kX11_tries rfl rfl ?_
                              refine fz_aload_n kX11_tries rfl rfl ?_
                              refine fz_iload_n kX11_tries rfl rfl ?_
                              refine fz_iload kX11_tries rfl rfl ?_
                              refine fz_iload kX11_tries rfl rfl ?_
                              have e998 : H990 53 0 = h 53 0 := hf992 53 0 rfl
                              refine fz_callV (d' := 4) (M' := mX11_receivedIn) (As := [fz_i pe, fz_i (h 56 (x887.toNat)), fz_i z968]) (st := [fz_i su, fz_i (L + 1), fz_i z968, fz_i (h 56 (x887.toNat)), fz_i pe, fz_r 53]) kX11_tries rfl rfl vX11_receivedIn rfl rfl rfl rfl (Nat.le_of_ble_eq_true rfl) (Nat.le_of_ble_eq_true rfl) (by omega) (sX11_receivedIn H990 hI991 pe (h 56 (x887.toNat)) z968 hXw995 hHB996 (by omega) (by omega)) (fun H999 r1000 q1001 o1002 => ?_)
                              obtain ⟨hI1003, hf1004, hXw1005, hHB1006, y1009, rfl, f1007, f1008⟩ := q1001
                              clear o1002
                              have hf1010 := fz_fr_tr hf992 hf1004 (show fz_su [(74, 99999), (75, 99999)] [(53, 54), (53, 55), (74, 99999), (75, 99999), (89, 99999), (90, 99999)] = true from rfl)
                              have hRM1011 : fz_RM H999 := fz_RM_eq (funext fun s => hf1004 55 s rfl) (funext fun s => hf1004 56 s rfl) (hf1004 53 0 rfl) (hf1004 53 2 rfl) hRM997
                              have t1012 : H999 53 0 = H990 53 0 := hf1004 53 0 rfl
                              refine fz_iadd kX11_tries rfl ?_
                              refine fz_nmw (fun z1013 e1014 => ?_)
                              have e1015 : H999 53 0 = h 53 0 := hf1010 53 0 rfl
                              refine fz_callV (d' := De) (M' := mX11_tries) (As := [fz_i pe, fz_i (h 56 (x887.toNat)), fz_i z968, fz_i (L + 1), fz_i z1013]) (st := []) kX11_tries rfl rfl vX11_tries rfl rfl rfl rfl (Nat.le_of_ble_eq_true rfl) (Nat.le_of_ble_eq_true rfl) (by omega) (ih H999 hI1003 pe (h 56 (x887.toNat)) z968 z1013 hXw1005 hHB1006 hRM1011 (by omega) (by omega)) (fun H1016 r1017 q1018 o1019 => ?_)
                              obtain ⟨hI1020, hf1021, hXw1022, hHB1023, hRM1024, rfl⟩ := q1018
                              clear o1019
                              have hf1025 := fz_fr_tr hf1010 hf1021 (show fz_su [(53, 54), (53, 55), (74, 99999), (75, 99999), (89, 99999), (90, 99999)] [(53, 54), (53, 55), (74, 99999), (75, 99999), (89, 99999), (90, 99999)] = true from rfl)
                              have t1026 : H1016 53 0 = H999 53 0 := hf1021 53 0 rfl
                              refine fz_iincN (ls' := [(6, fz_i (x887 + 1)), (8, fz_i z968), (7, fz_i (h 56 (x887.toNat))), (0, fz_r 53), (1, fz_i pe), (2, fz_i t), (3, fz_i hr), (4, fz_i L), (5, fz_i su)]) kX11_tries rfl (by decide) rfl (by omega) rfl ?_
                              refine fz_goto (tgt := 79) kX11_tries rfl (by decide) ?_
                              refine fz_sub (fz_pk_sub (ls' := [(6, fz_i (x887 + 1)), (0, fz_r 53), (1, fz_i pe), (2, fz_i t), (3, fz_i hr), (4, fz_i L), (5, fz_i su)]) [0, 3, 4, 5, 6, 7, 8] rfl) ?_
                              exact ih896 (x887 + 1) H1016 hI1020 hf1025 hXw1022 hHB1023 hRM1024 (by omega) (by omega)
                            · refine fz_goto (tgt := 211) kX11_tries rfl (by decide) ?_
                              refine fz_iincN (ls' := [(6, fz_i (x887 + 1)), (8, fz_i z968), (7, fz_i (h 56 (x887.toNat))), (0, fz_r 53), (1, fz_i pe), (2, fz_i t), (3, fz_i hr), (4, fz_i L), (5, fz_i su)]) kX11_tries rfl (by decide) rfl (by omega) rfl ?_
                              refine fz_goto (tgt := 79) kX11_tries rfl (by decide) ?_
                              refine fz_sub (fz_pk_sub (ls' := [(6, fz_i (x887 + 1)), (0, fz_r 53), (1, fz_i pe), (2, fz_i t), (3, fz_i hr), (4, fz_i L), (5, fz_i su)]) [0, 3, 4, 5, 6, 7, 8] rfl) ?_
                              exact ih896 (x887 + 1) H975 hI979 hf986 hXw981 hHB982 hRM987 (by omega) (by omega)
                      · refine fz_aload_n kX11_tries rfl rfl ?_
                        refine fz_getR (t := 56) kX11_tries rfl rfl ?_
                        refine fz_iload kX11_tries rfl rfl ?_
                        refine fz_ialdV (n := 12) (v := h 56 (x887.toNat)) kX11_tries rfl rfl (by omega) (by omega) (hf893 56 _ rfl) ?_
                        have b1027 : 0 ≤ h 56 (x887.toNat) ∧ h 56 (x887.toNat) ≤ 7 := hI.1 56 _
                        refine fz_iload_n kX11_tries rfl rfl ?_
                        refine fz_icmp_eq (tgt := 113) kX11_tries rfl (by decide) (fun c1028 => ?_) (fun c1028 => ?_)
                        · refine fz_aload_n kX11_tries rfl rfl ?_
                          refine fz_getR (t := 55) kX11_tries rfl rfl ?_
                          refine fz_iload kX11_tries rfl rfl ?_
                          refine fz_ialdV (n := 12) (v := h 55 (x887.toNat)) kX11_tries rfl rfl (by omega) (by omega) (hf893 55 _ rfl) ?_
                          refine fz_iload_n kX11_tries rfl rfl ?_
                          refine fz_icmp_ne (tgt := 134) kX11_tries rfl (by decide) (fun c1029 => ?_) (fun c1029 => ?_)
                          · refine fz_aload_n kX11_tries rfl rfl ?_
                            refine fz_getR (t := 55) kX11_tries rfl rfl ?_
                            refine fz_iload kX11_tries rfl rfl ?_
                            refine fz_ialdV (n := 12) (v := h 55 (x887.toNat)) kX11_tries rfl rfl (by omega) (by omega) (hf893 55 _ rfl) ?_
                            have k1030 := hRM (x887).toNat (by omega)
                            refine fz_istore (ls' := [(7, fz_i (h 55 (x887.toNat))), (6, fz_i x887), (0, fz_r 53), (1, fz_i pe), (2, fz_i t), (3, fz_i hr), (4, fz_i L), (5, fz_i su)]) kX11_tries rfl (by decide) rfl ?_
                            refine fz_iload_n kX11_tries rfl rfl ?_
                            refine fz_aload_n kX11_tries rfl rfl ?_
                            refine fz_getR (t := 57) kX11_tries rfl rfl ?_
                            refine fz_iload kX11_tries rfl rfl ?_
                            refine fz_ialdV (n := 12) (v := h 57 (x887.toNat)) kX11_tries rfl rfl (by omega) (by omega) (hf893 57 _ rfl) ?_
                            have b1031 : 0 ≤ h 57 (x887.toNat) ∧ h 57 (x887.toNat) ≤ 24 := hI.1 57 _
                            refine fz_iadd kX11_tries rfl ?_
                            refine fz_nmw (fun z1032 e1033 => ?_)
                            refine fz_istore (ls' := [(8, fz_i z1032), (7, fz_i (h 55 (x887.toNat))), (6, fz_i x887), (0, fz_r 53), (1, fz_i pe), (2, fz_i t), (3, fz_i hr), (4, fz_i L), (5, fz_i su)]) kX11_tries rfl (by decide) rfl ?_
                            refine fz_iload kX11_tries rfl rfl ?_
                            refine fz_sipush ⟨by decide, by decide⟩ kX11_tries rfl ?_
                            refine fz_icmp_gt (tgt := 211) kX11_tries rfl (by decide) (fun c1034 => ?_) (fun c1034 => ?_)
                            · refine fz_iincN (ls' := [(6, fz_i (x887 + 1)), (8, fz_i z1032), (7, fz_i (h 55 (x887.toNat))), (0, fz_r 53), (1, fz_i pe), (2, fz_i t), (3, fz_i hr), (4, fz_i L), (5, fz_i su)]) kX11_tries rfl (by decide) rfl (by omega) rfl ?_
                              refine fz_goto (tgt := 79) kX11_tries rfl (by decide) ?_
                              refine fz_sub (fz_pk_sub (ls' := [(6, fz_i (x887 + 1)), (0, fz_r 53), (1, fz_i pe), (2, fz_i t), (3, fz_i hr), (4, fz_i L), (5, fz_i su)]) [0, 3, 4, 5, 6, 7, 8] rfl) ?_
                              exact ih896 (x887 + 1) H891 hI892 hf893 hXw888 hHB889 hRM890 (by omega) (by omega)
                            · refine fz_aload_n kX11_tries rfl rfl ?_
                              refine fz_iload_n kX11_tries rfl rfl ?_
                              refine fz_iload kX11_tries rfl rfl ?_
                              refine fz_iload kX11_tries rfl rfl ?_
                              have b1035 : 0 ≤ h 53 0 ∧ h 53 0 ≤ 8 := hI.1 53 _
                              have b1036 : 0 ≤ h 53 8 ∧ h 53 8 ≤ 99 := hI.1 53 _
                              have e1037 : H891 53 0 = h 53 0 := hf893 53 0 rfl
                              have e1038 : H891 53 8 = h 53 8 := hf893 53 8 rfl
                              refine fz_callV (d' := 4) (M' := mX11_isArrested) (As := [fz_i pe, fz_i (h 55 (x887.toNat)), fz_i z1032]) (st := []) kX11_tries rfl rfl vX11_isArrested rfl rfl rfl rfl (Nat.le_of_ble_eq_true rfl) (Nat.le_of_ble_eq_true rfl) (by omega) (sX11_isArrested H891 hI892 pe (h 55 (x887.toNat)) z1032 hXw888 hHB889 (by omega) (by omega)) (fun H1039 r1040 q1041 o1042 => ?_)
                              obtain ⟨hI1043, hf1044, hXw1045, hHB1046, y1048, rfl, p1049, f1047⟩ := q1041
                              clear o1042
                              have hf1050 := fz_fr_tr hf893 hf1044 (show fz_su [(74, 99999), (75, 99999)] [(53, 54), (53, 55), (74, 99999), (75, 99999), (89, 99999), (90, 99999)] = true from rfl)
                              have hRM1051 : fz_RM H1039 := fz_RM_eq (funext fun s => hf1044 55 s rfl) (funext fun s => hf1044 56 s rfl) (hf1044 53 0 rfl) (hf1044 53 2 rfl) hRM890
                              have t1052 : H1039 53 0 = H891 53 0 := hf1044 53 0 rfl
                              refine fz_if_eq (tgt := 177) kX11_tries rfl (by decide) (fun c1053 => ?_) (fun c1053 => ?_)
                              · refine fz_aload_n kX11_tries rfl rfl ?_
                                refine fz_getR (t := 90) kX11_tries rfl rfl ?_
                                refine fz_iload kX11_tries rfl rfl ?_
                                refine fz_iload kX11_tries rfl rfl ?_
                                refine fz_iast (n := 4) kX11_tries rfl rfl (by omega) (by omega) ?_
                                refine fz_nmu (S := [(53, 54), (53, 55), (74, 99999), (75, 99999), (89, 99999), (90, 99999)]) (h0 := h) (fz_Iv_up hI1043 (by decide) (show (0 : Int) ≤ (h 55 (x887.toNat)) by omega) (show ((h 55 (x887.toNat)) : Int) ≤ 7 by omega)) (fz_fr_up hf1050 rfl) (fun H1054 hI1055 hf1056 e1057 => ?_)
                                have t1058 : H1054 53 0 = H1039 53 0 := by rw [e1057]; exact fz_up_o (by decide)
                                have hXw1059 : fz_Xw H1054 := fz_Xw_eq (by rw [e1057]; exact fz_up_o (by decide)) (by rw [e1057]; exact fz_up_ne (by decide)) (by rw [e1057]; exact fz_up_ne (by decide)) (by rw [e1057]; exact fz_up_ne (by decide)) (by rw [e1057]; exact fz_up_ne (by decide)) hXw1045
                                have hHB1060 : fl_HB H1054 := fl_HB_eq (by rw [e1057]; exact fz_up_ne (by decide)) (by rw [e1057]; exact fz_up_ne (by decide)) (by rw [e1057]; exact fz_up_o (by decide)) (by rw [e1057]; exact fz_up_o (by decide)) hHB1046
                                have hRM1061 : fz_RM H1054 := fz_RM_eq (by rw [e1057]; exact fz_up_ne (by decide)) (by rw [e1057]; exact fz_up_ne (by decide)) (by rw [e1057]; exact fz_up_o (by decide)) (by rw [e1057]; exact fz_up_o (by decide)) hRM1051
                                clear e1057
                                refine fz_aload_n kX11_tries rfl rfl ?_
                                refine fz_iload_n kX11_tries rfl rfl ?_
                                refine fz_iload kX11_tries rfl rfl ?_
                                refine fz_iload kX11_tries rfl rfl ?_
                                refine fz_iload kX11_tries rfl rfl ?_
                                refine fz_iconst ⟨by decide, by decide⟩ kX11_tries rfl ?_
                                refine fz_iaddN kX11_tries rfl (by omega) ?_
                                refine fz_eqi (y := (L + 1)) (by omega) ?_
                                refine fz_iload kX11_tries rfl rfl ?_
                                refine fz_aload_n kX11_tries rfl rfl ?_
                                refine fz_iload_n kX11_tries rfl rfl ?_
                                refine fz_iload kX11_tries rfl rfl ?_
                                refine fz_iload kX11_tries rfl rfl ?_
                                have e1062 : H1054 53 0 = h 53 0 := hf1056 53 0 rfl
                                refine fz_callV (d' := 4) (M' := mX11_receivedIn) (As := [fz_i pe, fz_i (h 55 (x887.toNat)), fz_i z1032]) (st := [fz_i su, fz_i (L + 1), fz_i z1032, fz_i (h 55 (x887.toNat)), fz_i pe, fz_r 53]) kX11_tries rfl rfl vX11_receivedIn rfl rfl rfl rfl (Nat.le_of_ble_eq_true rfl) (Nat.le_of_ble_eq_true rfl) (by omega) (sX11_receivedIn H1054 hI1055 pe (h 55 (x887.toNat)) z1032 hXw1059 hHB1060 (by omega) (by omega)) (fun H1063 r1064 q1065 o1066 => ?_)
                                obtain ⟨hI1067, hf1068, hXw1069, hHB1070, y1073, rfl, f1071, f1072⟩ := q1065
                                clear o1066
                                have hf1074 := fz_fr_tr hf1056 hf1068 (show fz_su [(74, 99999), (75, 99999)] [(53, 54), (53, 55), (74, 99999), (75, 99999), (89, 99999), (90, 99999)] = true from rfl)
                                have hRM1075 : fz_RM H1063 := fz_RM_eq (funext fun s => hf1068 55 s rfl) (funext fun s => hf1068 56 s rfl) (hf1068 53 0 rfl) (hf1068 53 2 rfl) hRM1061
                                have t1076 : H1063 53 0 = H1054 53 0 := hf1068 53 0 rfl
                                refine fz_iadd kX11_tries rfl ?_
                                refine fz_nmw (fun z1077 e1078 => ?_)
                                have e1079 : H1063 53 0 = h 53 0 := hf1074 53 0 rfl
                                refine fz_callV (d' := De) (M' := mX11_tries) (As := [fz_i pe, fz_i (h 55 (x887.toNat)), fz_i z1032, fz_i (L + 1), fz_i z1077]) (st := []) kX11_tries rfl rfl vX11_tries rfl rfl rfl rfl (Nat.le_of_ble_eq_true rfl) (Nat.le_of_ble_eq_true rfl) (by omega) (ih H1063 hI1067 pe (h 55 (x887.toNat)) z1032 z1077 hXw1069 hHB1070 hRM1075 (by omega) (by omega)) (fun H1080 r1081 q1082 o1083 => ?_)
                                obtain ⟨hI1084, hf1085, hXw1086, hHB1087, hRM1088, rfl⟩ := q1082
                                clear o1083
                                have hf1089 := fz_fr_tr hf1074 hf1085 (show fz_su [(53, 54), (53, 55), (74, 99999), (75, 99999), (89, 99999), (90, 99999)] [(53, 54), (53, 55), (74, 99999), (75, 99999), (89, 99999), (90, 99999)] = true from rfl)
                                have t1090 : H1080 53 0 = H1063 53 0 := hf1085 53 0 rfl
                                refine fz_iincN (ls' := [(6, fz_i (x887 + 1)), (8, fz_i z1032), (7, fz_i (h 55 (x887.toNat))), (0, fz_r 53), (1, fz_i pe), (2, fz_i t), (3, fz_i hr), (4, fz_i L), (5, fz_i su)]) kX11_tries rfl (by decide) rfl (by omega) rfl ?_
                                refine fz_goto (tgt := 79) kX11_tries rfl (by decide) ?_
                                refine fz_sub (fz_pk_sub (ls' := [(6, fz_i (x887 + 1)), (0, fz_r 53), (1, fz_i pe), (2, fz_i t), (3, fz_i hr), (4, fz_i L), (5, fz_i su)]) [0, 3, 4, 5, 6, 7, 8] rfl) ?_
                                exact ih896 (x887 + 1) H1080 hI1084 hf1089 hXw1086 hHB1087 hRM1088 (by omega) (by omega)
                              · refine fz_goto (tgt := 211) kX11_tries rfl (by decide) ?_
                                refine fz_iincN (ls' := [(6, fz_i (x887 + 1)), (8, fz_i z1032), (7, fz_i (h 55 (x887.toNat))), (0, fz_r 53), (1, fz_i pe), (2, fz_i t), (3, fz_i hr), (4, fz_i L), (5, fz_i su)]) kX11_tries rfl (by decide) rfl (by omega) rfl ?_
                                refine fz_goto (tgt := 79) kX11_tries rfl (by decide) ?_
                                refine fz_sub (fz_pk_sub (ls' := [(6, fz_i (x887 + 1)), (0, fz_r 53), (1, fz_i pe), (2, fz_i t), (3, fz_i hr), (4, fz_i L), (5, fz_i su)]) [0, 3, 4, 5, 6, 7, 8] rfl) ?_
                                exact ih896 (x887 + 1) H1039 hI1043 hf1050 hXw1045 hHB1046 hRM1051 (by omega) (by omega)
                          · refine fz_aload_n kX11_tries rfl rfl ?_
                            refine fz_getR (t := 56) kX11_tries rfl rfl ?_
                            refine fz_iload kX11_tries rfl rfl ?_
                            refine fz_ialdV (n := 12) (v := h 56 (x887.toNat)) kX11_tries rfl rfl (by omega) (by omega) (hf893 56 _ rfl) ?_
                            refine fz_goto (tgt := 141) kX11_tries rfl (by decide) ?_
                            have k1091 := hRM (x887).toNat (by omega)
                            refine fz_istore (ls' := [(7, fz_i (h 56 (x887.toNat))), (6, fz_i x887), (0, fz_r 53), (1, fz_i pe), (2, fz_i t), (3, fz_i hr), (4, fz_i L), (5, fz_i su)]) kX11_tries rfl (by decide) rfl ?_
                            refine fz_iload_n kX11_tries rfl rfl ?_
                            refine fz_aload_n kX11_tries rfl rfl ?_
                            refine fz_getR (t := 57) kX11_tries rfl rfl ?_
                            refine fz_iload kX11_tries rfl rfl ?_
                            refine fz_ialdV (n := 12) (v := h 57 (x887.toNat)) kX11_tries rfl rfl (by omega) (by omega) (hf893 57 _ rfl) ?_
                            have b1092 : 0 ≤ h 57 (x887.toNat) ∧ h 57 (x887.toNat) ≤ 24 := hI.1 57 _
                            refine fz_iadd kX11_tries rfl ?_
                            refine fz_nmw (fun z1093 e1094 => ?_)
                            refine fz_istore (ls' := [(8, fz_i z1093), (7, fz_i (h 56 (x887.toNat))), (6, fz_i x887), (0, fz_r 53), (1, fz_i pe), (2, fz_i t), (3, fz_i hr), (4, fz_i L), (5, fz_i su)]) kX11_tries rfl (by decide) rfl ?_
                            refine fz_iload kX11_tries rfl rfl ?_
                            refine fz_sipush ⟨by decide, by decide⟩ kX11_tries rfl ?_
                            refine fz_icmp_gt (tgt := 211) kX11_tries rfl (by decide) (fun c1095 => ?_) (fun c1095 => ?_)
                            · refine fz_iincN (ls' := [(6, fz_i (x887 + 1)), (8, fz_i z1093), (7, fz_i (h 56 (x887.toNat))), (0, fz_r 53), (1, fz_i pe), (2, fz_i t), (3, fz_i hr), (4, fz_i L), (5, fz_i su)]) kX11_tries rfl (by decide) rfl (by omega) rfl ?_
                              refine fz_goto (tgt := 79) kX11_tries rfl (by decide) ?_
                              refine fz_sub (fz_pk_sub (ls' := [(6, fz_i (x887 + 1)), (0, fz_r 53), (1, fz_i pe), (2, fz_i t), (3, fz_i hr), (4, fz_i L), (5, fz_i su)]) [0, 3, 4, 5, 6, 7, 8] rfl) ?_
                              exact ih896 (x887 + 1) H891 hI892 hf893 hXw888 hHB889 hRM890 (by omega) (by omega)
                            · refine fz_aload_n kX11_tries rfl rfl ?_
                              refine fz_iload_n kX11_tries rfl rfl ?_
                              refine fz_iload kX11_tries rfl rfl ?_
                              refine fz_iload kX11_tries rfl rfl ?_
                              have b1096 : 0 ≤ h 53 0 ∧ h 53 0 ≤ 8 := hI.1 53 _
                              have b1097 : 0 ≤ h 53 8 ∧ h 53 8 ≤ 99 := hI.1 53 _
                              have e1098 : H891 53 0 = h 53 0 := hf893 53 0 rfl
                              have e1099 : H891 53 8 = h 53 8 := hf893 53 8 rfl
                              refine fz_callV (d' := 4) (M' := mX11_isArrested) (As := [fz_i pe, fz_i (h 56 (x887.toNat)), fz_i z1093]) (st := []) kX11_tries rfl rfl vX11_isArrested rfl rfl rfl rfl (Nat.le_of_ble_eq_true rfl) (Nat.le_of_ble_eq_true rfl) (by omega) (sX11_isArrested H891 hI892 pe (h 56 (x887.toNat)) z1093 hXw888 hHB889 (by omega) (by omega)) (fun H1100 r1101 q1102 o1103 => ?_)
                              obtain ⟨hI1104, hf1105, hXw1106, hHB1107, y1109, rfl, p1110, f1108⟩ := q1102
                              clear o1103
                              have hf1111 := fz_fr_tr hf893 hf1105 (show fz_su [(74, 99999), (75, 99999)] [(53, 54), (53, 55), (74, 99999), (75, 99999), (89, 99999), (90, 99999)] = true from rfl)
                              have hRM1112 : fz_RM H1100 := fz_RM_eq (funext fun s => hf1105 55 s rfl) (funext fun s => hf1105 56 s rfl) (hf1105 53 0 rfl) (hf1105 53 2 rfl) hRM890
                              have t1113 : H1100 53 0 = H891 53 0 := hf1105 53 0 rfl
                              refine fz_if_eq (tgt := 177) kX11_tries rfl (by decide) (fun c1114 => ?_) (fun c1114 => ?_)
                              · refine fz_aload_n kX11_tries rfl rfl ?_
                                refine fz_getR (t := 90) kX11_tries rfl rfl ?_
                                refine fz_iload kX11_tries rfl rfl ?_
                                refine fz_iload kX11_tries rfl rfl ?_
                                refine fz_iast (n := 4) kX11_tries rfl rfl (by omega) (by omega) ?_
                                refine fz_nmu (S := [(53, 54), (53, 55), (74, 99999), (75, 99999), (89, 99999), (90, 99999)]) (h0 := h) (fz_Iv_up hI1104 (by decide) (show (0 : Int) ≤ (h 56 (x887.toNat)) by omega) (show ((h 56 (x887.toNat)) : Int) ≤ 7 by omega)) (fz_fr_up hf1111 rfl) (fun H1115 hI1116 hf1117 e1118 => ?_)
                                have t1119 : H1115 53 0 = H1100 53 0 := by rw [e1118]; exact fz_up_o (by decide)
                                have hXw1120 : fz_Xw H1115 := fz_Xw_eq (by rw [e1118]; exact fz_up_o (by decide)) (by rw [e1118]; exact fz_up_ne (by decide)) (by rw [e1118]; exact fz_up_ne (by decide)) (by rw [e1118]; exact fz_up_ne (by decide)) (by rw [e1118]; exact fz_up_ne (by decide)) hXw1106
                                have hHB1121 : fl_HB H1115 := fl_HB_eq (by rw [e1118]; exact fz_up_ne (by decide)) (by rw [e1118]; exact fz_up_ne (by decide)) (by rw [e1118]; exact fz_up_o (by decide)) (by rw [e1118]; exact fz_up_o (by decide)) hHB1107
                                have hRM1122 : fz_RM H1115 := fz_RM_eq (by rw [e1118]; exact fz_up_ne (by decide)) (by rw [e1118]; exact fz_up_ne (by decide)) (by rw [e1118]; exact fz_up_o (by decide)) (by rw [e1118]; exact fz_up_o (by decide)) hRM1112
                                clear e1118
                                refine fz_aload_n kX11_tries rfl rfl ?_
                                refine fz_iload_n kX11_tries rfl rfl ?_
                                refine fz_iload kX11_tries rfl rfl ?_
                                refine fz_iload kX11_tries rfl rfl ?_
                                refine fz_iload kX11_tries rfl rfl ?_
                                refine fz_iconst ⟨by decide, by decide⟩ kX11_tries rfl ?_
                                refine fz_iaddN kX11_tries rfl (by omega) ?_
                                refine fz_eqi (y := (L + 1)) (by omega) ?_
                                refine fz_iload kX11_tries rfl rfl ?_
                                refine fz_aload_n kX11_tries rfl rfl ?_
                                refine fz_iload_n kX11_tries rfl rfl ?_
                                refine fz_iload kX11_tries rfl rfl ?_
                                refine fz_iload kX11_tries rfl rfl ?_
                                have e1123 : H1115 53 0 = h 53 0 := hf1117 53 0 rfl
                                refine fz_callV (d' := 4) (M' := mX11_receivedIn) (As := [fz_i pe, fz_i (h 56 (x887.toNat)), fz_i z1093]) (st := [fz_i su, fz_i (L + 1), fz_i z1093, fz_i (h 56 (x887.toNat)), fz_i pe, fz_r 53]) kX11_tries rfl rfl vX11_receivedIn rfl rfl rfl rfl (Nat.le_of_ble_eq_true rfl) (Nat.le_of_ble_eq_true rfl) (by omega) (sX11_receivedIn H1115 hI1116 pe (h 56 (x887.toNat)) z1093 hXw1120 hHB1121 (by omega) (by omega)) (fun H1124 r1125 q1126 o1127 => ?_)
                                obtain ⟨hI1128, hf1129, hXw1130, hHB1131, y1134, rfl, f1132, f1133⟩ := q1126
                                clear o1127
                                have hf1135 := fz_fr_tr hf1117 hf1129 (show fz_su [(74, 99999), (75, 99999)] [(53, 54), (53, 55), (74, 99999), (75, 99999), (89, 99999), (90, 99999)] = true from rfl)
                                have hRM1136 : fz_RM H1124 := fz_RM_eq (funext fun s => hf1129 55 s rfl) (funext fun s => hf1129 56 s rfl) (hf1129 53 0 rfl) (hf1129 53 2 rfl) hRM1122
                                have t1137 : H1124 53 0 = H1115 53 0 := hf1129 53 0 rfl
                                refine fz_iadd kX11_tries rfl ?_
                                refine fz_nmw (fun z1138 e1139 => ?_)
                                have e1140 : H1124 53 0 = h 53 0 := hf1135 53 0 rfl
                                refine fz_callV (d' := De) (M' := mX11_tries) (As := [fz_i pe, fz_i (h 56 (x887.toNat)), fz_i z1093, fz_i (L + 1), fz_i z1138]) (st := []) kX11_tries rfl rfl vX11_tries rfl rfl rfl rfl (Nat.le_of_ble_eq_true rfl) (Nat.le_of_ble_eq_true rfl) (by omega) (ih H1124 hI1128 pe (h 56 (x887.toNat)) z1093 z1138 hXw1130 hHB1131 hRM1136 (by omega) (by omega)) (fun H1141 r1142 q1143 o1144 => ?_)
                                obtain ⟨hI1145, hf1146, hXw1147, hHB1148, hRM1149, rfl⟩ := q1143
                                clear o1144
                                have hf1150 := fz_fr_tr hf1135 hf1146 (show fz_su [(53, 54), (53, 55), (74, 99999), (75, 99999), (89, 99999), (90, 99999)] [(53, 54), (53, 55), (74, 99999), (75, 99999), (89, 99999), (90, 99999)] = true from rfl)
                                have t1151 : H1141 53 0 = H1124 53 0 := hf1146 53 0 rfl
                                refine fz_iincN (ls' := [(6, fz_i (x887 + 1)), (8, fz_i z1093), (7, fz_i (h 56 (x887.toNat))), (0, fz_r 53), (1, fz_i pe), (2, fz_i t), (3, fz_i hr), (4, fz_i L), (5, fz_i su)]) kX11_tries rfl (by decide) rfl (by omega) rfl ?_
                                refine fz_goto (tgt := 79) kX11_tries rfl (by decide) ?_
                                refine fz_sub (fz_pk_sub (ls' := [(6, fz_i (x887 + 1)), (0, fz_r 53), (1, fz_i pe), (2, fz_i t), (3, fz_i hr), (4, fz_i L), (5, fz_i su)]) [0, 3, 4, 5, 6, 7, 8] rfl) ?_
                                exact ih896 (x887 + 1) H1141 hI1145 hf1150 hXw1147 hHB1148 hRM1149 (by omega) (by omega)
                              · refine fz_goto (tgt := 211) kX11_tries rfl (by decide) ?_
                                refine fz_iincN (ls' := [(6, fz_i (x887 + 1)), (8, fz_i z1093), (7, fz_i (h 56 (x887.toNat))), (0, fz_r 53), (1, fz_i pe), (2, fz_i t), (3, fz_i hr), (4, fz_i L), (5, fz_i su)]) kX11_tries rfl (by decide) rfl (by omega) rfl ?_
                                refine fz_goto (tgt := 79) kX11_tries rfl (by decide) ?_
                                refine fz_sub (fz_pk_sub (ls' := [(6, fz_i (x887 + 1)), (0, fz_r 53), (1, fz_i pe), (2, fz_i t), (3, fz_i hr), (4, fz_i L), (5, fz_i su)]) [0, 3, 4, 5, 6, 7, 8] rfl) ?_
                                exact ih896 (x887 + 1) H1100 hI1104 hf1111 hXw1106 hHB1107 hRM1112 (by omega) (by omega)
                        · refine fz_goto (tgt := 211) kX11_tries rfl (by decide) ?_
                          refine fz_iincN (ls' := [(6, fz_i (x887 + 1)), (0, fz_r 53), (1, fz_i pe), (2, fz_i t), (3, fz_i hr), (4, fz_i L), (5, fz_i su)]) kX11_tries rfl (by decide) rfl (by omega) rfl ?_
                          refine fz_goto (tgt := 79) kX11_tries rfl (by decide) ?_
                          exact ih896 (x887 + 1) H891 hI892 hf893 hXw888 hHB889 hRM890 (by omega) (by omega)
                exact lp895 _ 0 H877 hI878 hf879 hXw874 hHB875 hRM876 (by omega) (Nat.lt_succ_self _)
              · exfalso; omega
            · refine fz_aload_n kX11_tries rfl rfl ?_
              refine fz_getR (t := 89) kX11_tries rfl rfl ?_
              refine fz_iload kX11_tries rfl rfl ?_
              refine fz_aload_n kX11_tries rfl rfl ?_
              refine fz_getR (t := 90) kX11_tries rfl rfl ?_
              refine fz_iload kX11_tries rfl rfl ?_
              obtain ⟨v1152, e1153⟩ : ∃ z, H877 90 (x873.toNat) = z := ⟨_, rfl⟩
              refine fz_ialdV (n := 4) (v := v1152) kX11_tries rfl rfl (by omega) (by omega) e1153 ?_
              have b1154 : 0 ≤ v1152 ∧ v1152 ≤ 7 := by rw [← e1153]; exact hI878.1 90 _
              refine fz_iast (n := 4) kX11_tries rfl rfl (by omega) (by omega) ?_
              refine fz_nmu (S := [(53, 54), (53, 55), (74, 99999), (75, 99999), (89, 99999), (90, 99999)]) (h0 := h) (fz_Iv_up hI878 (by decide) (show (0 : Int) ≤ v1152 by omega) (show (v1152 : Int) ≤ 7 by omega)) (fz_fr_up hf879 rfl) (fun H1155 hI1156 hf1157 e1158 => ?_)
              have t1159 : H1155 53 0 = H877 53 0 := by rw [e1158]; exact fz_up_o (by decide)
              have hXw1160 : fz_Xw H1155 := fz_Xw_eq (by rw [e1158]; exact fz_up_o (by decide)) (by rw [e1158]; exact fz_up_ne (by decide)) (by rw [e1158]; exact fz_up_ne (by decide)) (by rw [e1158]; exact fz_up_ne (by decide)) (by rw [e1158]; exact fz_up_ne (by decide)) hXw874
              have hHB1161 : fl_HB H1155 := fl_HB_eq (by rw [e1158]; exact fz_up_ne (by decide)) (by rw [e1158]; exact fz_up_ne (by decide)) (by rw [e1158]; exact fz_up_o (by decide)) (by rw [e1158]; exact fz_up_o (by decide)) hHB875
              have hRM1162 : fz_RM H1155 := fz_RM_eq (by rw [e1158]; exact fz_up_ne (by decide)) (by rw [e1158]; exact fz_up_ne (by decide)) (by rw [e1158]; exact fz_up_o (by decide)) (by rw [e1158]; exact fz_up_o (by decide)) hRM876
              clear e1158
              refine fz_iincN (ls' := [(6, fz_i (x873 + 1)), (0, fz_r 53), (1, fz_i pe), (2, fz_i t), (3, fz_i hr), (4, fz_i L), (5, fz_i su)]) kX11_tries rfl (by decide) rfl (by omega) rfl ?_
              refine fz_goto (tgt := 42) kX11_tries rfl (by decide) ?_
              exact ih882 (x873 + 1) H1155 hI1156 hf1157 hXw1160 hHB1161 hRM1162 (by omega) (by omega)
        exact lp881 _ 0 H863 hI864 hf865 hXw870 hHB871 hRM872 (by omega) (Nat.lt_succ_self _)


abbrev qX11_tries_3 (h : fz_H) (pe t hr su : Int) : fz_H → Option fz_V → Prop := fun h' r0 => fz_Iv h' ∧ fz_fr [(53, 54), (53, 55), (74, 99999), (75, 99999), (89, 99999), (90, 99999)] h h' ∧ fz_Xw h' ∧ fl_HB h' ∧ fz_RM h' ∧ r0 = none
theorem sX11_tries_3 (h : fz_H) (hI : fz_Iv h) (pe t hr su : Int) (hXw : fz_Xw h) (hHB : fl_HB h) (hRM : fz_RM h) (hp0 : 0 ≤ t ∧ t ≤ 7) (hp1 : t < h 53 0) : fz_R 5 mX11_tries 0 [(0, fz_r 53), (1, fz_i pe), (2, fz_i t), (3, fz_i hr), (4, fz_i 3), (5, fz_i su)] [] h (qX11_tries_3 h pe t hr su) := sX11_tries_g 3 5 1 ⟨by decide, by decide⟩ ⟨by decide, by decide⟩ (fun h hI pe t hr su hXw hHB hRM hp0 hp1 => sX11_tries_4 h hI pe t hr su hXw hHB hRM hp0 hp1) h hI pe t hr su hXw hHB hRM hp0 hp1
abbrev qX11_tries_2 (h : fz_H) (pe t hr su : Int) : fz_H → Option fz_V → Prop := fun h' r0 => fz_Iv h' ∧ fz_fr [(53, 54), (53, 55), (74, 99999), (75, 99999), (89, 99999), (90, 99999)] h h' ∧ fz_Xw h' ∧ fl_HB h' ∧ fz_RM h' ∧ r0 = none
theorem sX11_tries_2 (h : fz_H) (hI : fz_Iv h) (pe t hr su : Int) (hXw : fz_Xw h) (hHB : fl_HB h) (hRM : fz_RM h) (hp0 : 0 ≤ t ∧ t ≤ 7) (hp1 : t < h 53 0) : fz_R 6 mX11_tries 0 [(0, fz_r 53), (1, fz_i pe), (2, fz_i t), (3, fz_i hr), (4, fz_i 2), (5, fz_i su)] [] h (qX11_tries_2 h pe t hr su) := sX11_tries_g 2 6 5 ⟨by decide, by decide⟩ ⟨by decide, by decide⟩ (fun h hI pe t hr su hXw hHB hRM hp0 hp1 => sX11_tries_3 h hI pe t hr su hXw hHB hRM hp0 hp1) h hI pe t hr su hXw hHB hRM hp0 hp1
abbrev qX11_tries_1 (h : fz_H) (pe t hr su : Int) : fz_H → Option fz_V → Prop := fun h' r0 => fz_Iv h' ∧ fz_fr [(53, 54), (53, 55), (74, 99999), (75, 99999), (89, 99999), (90, 99999)] h h' ∧ fz_Xw h' ∧ fl_HB h' ∧ fz_RM h' ∧ r0 = none
theorem sX11_tries_1 (h : fz_H) (hI : fz_Iv h) (pe t hr su : Int) (hXw : fz_Xw h) (hHB : fl_HB h) (hRM : fz_RM h) (hp0 : 0 ≤ t ∧ t ≤ 7) (hp1 : t < h 53 0) : fz_R 7 mX11_tries 0 [(0, fz_r 53), (1, fz_i pe), (2, fz_i t), (3, fz_i hr), (4, fz_i 1), (5, fz_i su)] [] h (qX11_tries_1 h pe t hr su) := sX11_tries_g 1 7 6 ⟨by decide, by decide⟩ ⟨by decide, by decide⟩ (fun h hI pe t hr su hXw hHB hRM hp0 hp1 => sX11_tries_2 h hI pe t hr su hXw hHB hRM hp0 hp1) h hI pe t hr su hXw hHB hRM hp0 hp1
abbrev qX11_tries_0 (h : fz_H) (pe t hr su : Int) : fz_H → Option fz_V → Prop := fun h' r0 => fz_Iv h' ∧ fz_fr [(53, 54), (53, 55), (74, 99999), (75, 99999), (89, 99999), (90, 99999)] h h' ∧ fz_Xw h' ∧ fl_HB h' ∧ fz_RM h' ∧ r0 = none
set_option maxHeartbeats 1000000 in
set_option maxRecDepth 100000 in
theorem sX11_tries_0 (h : fz_H) (hI : fz_Iv h) (pe t hr su : Int) (hXw : fz_Xw h) (hHB : fl_HB h) (hRM : fz_RM h) (hp0 : 0 ≤ t ∧ t ≤ 7) (hp1 : t < h 53 0) : fz_R 8 mX11_tries 0 [(0, fz_r 53), (1, fz_i pe), (2, fz_i t), (3, fz_i hr), (4, fz_i 0), (5, fz_i su)] [] h (qX11_tries_0 h pe t hr su) := by
  refine fz_knowl (fun hk => ?_)
  have hr_pe : -2147483648 ≤ pe ∧ pe < 2147483648 := hk _ (List.Mem.tail _ (List.Mem.head _))
  have hr_t : -2147483648 ≤ t ∧ t < 2147483648 := hk _ (List.Mem.tail _ (List.Mem.tail _ (List.Mem.head _)))
  have hr_hr : -2147483648 ≤ hr ∧ hr < 2147483648 := hk _ (List.Mem.tail _ (List.Mem.tail _ (List.Mem.tail _ (List.Mem.head _))))
  have hr_su : -2147483648 ≤ su ∧ su < 2147483648 := hk _ (List.Mem.tail _ (List.Mem.tail _ (List.Mem.tail _ (List.Mem.tail _ (List.Mem.tail _ (List.Mem.head _))))))
  clear hk
  have hf : fz_fr [(53, 54), (53, 55), (74, 99999), (75, 99999), (89, 99999), (90, 99999)] h h := fz_fr_rf
  have b1 : 0 ≤ h 53 0 ∧ h 53 0 ≤ 8 := hI.1 53 _
  refine fz_iload kX11_tries rfl rfl ?_
  refine fz_aload_n kX11_tries rfl rfl ?_
  refine fz_getV (v := h 53 54) kX11_tries rfl rfl rfl ?_
  have b2 : (-2147483648) ≤ h 53 54 ∧ h 53 54 ≤ 2147483647 := hI.1 53 _
  refine fz_icmp_gt (tgt := 27) kX11_tries rfl (by decide) (fun c3 => ?_) (fun c3 => ?_)
  · refine fz_aload_n kX11_tries rfl rfl ?_
    refine fz_iload kX11_tries rfl rfl ?_
    refine fz_putI kX11_tries rfl rfl rfl ?_
    refine fz_nmu (S := [(53, 54), (53, 55), (74, 99999), (75, 99999), (89, 99999), (90, 99999)]) (h0 := h) (fz_Iv_up hI (by decide) (show ((-2147483648) : Int) ≤ su by omega) (show (su : Int) ≤ 2147483647 by omega)) (fz_fr_up hf rfl) (fun H4 hI5 hf6 e7 => ?_)
    have k8 : H4 53 54 = su := by rw [e7]; exact fz_up_e
    have t9 : H4 53 0 = h 53 0 := by rw [e7]; exact fz_up_s (by decide)
    have hXw10 : fz_Xw H4 := fz_Xw_eq (by rw [e7]; exact fz_up_s (by decide)) (by rw [e7]; exact fz_up_ne (by decide)) (by rw [e7]; exact fz_up_ne (by decide)) (by rw [e7]; exact fz_up_ne (by decide)) (by rw [e7]; exact fz_up_ne (by decide)) hXw
    have hHB11 : fl_HB H4 := fl_HB_eq (by rw [e7]; exact fz_up_ne (by decide)) (by rw [e7]; exact fz_up_ne (by decide)) (by rw [e7]; exact fz_up_s (by decide)) (by rw [e7]; exact fz_up_s (by decide)) hHB
    have hRM12 : fz_RM H4 := fz_RM_eq (by rw [e7]; exact fz_up_ne (by decide)) (by rw [e7]; exact fz_up_ne (by decide)) (by rw [e7]; exact fz_up_s (by decide)) (by rw [e7]; exact fz_up_s (by decide)) hRM
    clear e7
    refine fz_aload_n kX11_tries rfl rfl ?_
    refine fz_iload kX11_tries rfl rfl ?_
    refine fz_putI kX11_tries rfl rfl rfl ?_
    refine fz_nmu (S := [(53, 54), (53, 55), (74, 99999), (75, 99999), (89, 99999), (90, 99999)]) (h0 := h) (fz_Iv_up hI5 (by decide) (show (0 : Int) ≤ 0 by decide) (show (0 : Int) ≤ 4 by decide)) (fz_fr_up hf6 rfl) (fun H13 hI14 hf15 e16 => ?_)
    have k17 : H13 53 54 = su := by rw [e16]; exact (fz_up_s (by decide)).trans k8
    have k18 : H13 53 55 = 0 := by rw [e16]; exact fz_up_e
    have t19 : H13 53 0 = H4 53 0 := by rw [e16]; exact fz_up_s (by decide)
    have hXw20 : fz_Xw H13 := fz_Xw_eq (by rw [e16]; exact fz_up_s (by decide)) (by rw [e16]; exact fz_up_ne (by decide)) (by rw [e16]; exact fz_up_ne (by decide)) (by rw [e16]; exact fz_up_ne (by decide)) (by rw [e16]; exact fz_up_ne (by decide)) hXw10
    have hHB21 : fl_HB H13 := fl_HB_eq (by rw [e16]; exact fz_up_ne (by decide)) (by rw [e16]; exact fz_up_ne (by decide)) (by rw [e16]; exact fz_up_s (by decide)) (by rw [e16]; exact fz_up_s (by decide)) hHB11
    have hRM22 : fz_RM H13 := fz_RM_eq (by rw [e16]; exact fz_up_ne (by decide)) (by rw [e16]; exact fz_up_ne (by decide)) (by rw [e16]; exact fz_up_s (by decide)) (by rw [e16]; exact fz_up_s (by decide)) hRM12
    clear e16
    refine fz_iconst ⟨by decide, by decide⟩ kX11_tries rfl ?_
    refine fz_istore (ls' := [(6, fz_i 0), (0, fz_r 53), (1, fz_i pe), (2, fz_i t), (3, fz_i hr), (4, fz_i 0), (5, fz_i su)]) kX11_tries rfl (by decide) rfl ?_
    have lp31 : ∀ (n30 : Nat) (x23 : Int) (H27 : fz_H), fz_Iv H27 → fz_fr [(53, 54), (53, 55), (74, 99999), (75, 99999), (89, 99999), (90, 99999)] h H27 → fz_Xw H27 → fl_HB H27 → fz_RM H27 → (0 ≤ x23 ∧ x23 ≤ 2147483647) → (0 - x23).toNat < n30 → fz_R 8 mX11_tries 42 [(6, fz_i x23), (0, fz_r 53), (1, fz_i pe), (2, fz_i t), (3, fz_i hr), (4, fz_i 0), (5, fz_i su)] [] H27 (qX11_tries_0 h pe t hr su) := by
      intro n30
      induction n30 with
      | zero => intro x23 H27 hI28 hf29 hXw24 hHB25 hRM26 hv34 hm33; exact absurd hm33 (by omega)
      | succ n30 ih32 =>
        intro x23 H27 hI28 hf29 hXw24 hHB25 hRM26 hv34 hm33
        refine fz_iload kX11_tries rfl rfl ?_
        refine fz_iload kX11_tries rfl rfl ?_
        refine fz_icmp_ge (tgt := 69) kX11_tries rfl (by decide) (fun c35 => ?_) (fun c35 => ?_)
        · refine fz_iload kX11_tries rfl rfl ?_
          refine fz_iconst ⟨by decide, by decide⟩ kX11_tries rfl ?_
          refine fz_icmp_ne (tgt := 76) kX11_tries rfl (by decide) (fun c36 => ?_) (fun c36 => ?_)
          · refine fz_iconst ⟨by decide, by decide⟩ kX11_tries rfl ?_
            refine fz_istore (ls' := [(6, fz_i 0), (0, fz_r 53), (1, fz_i pe), (2, fz_i t), (3, fz_i hr), (4, fz_i 0), (5, fz_i su)]) kX11_tries rfl (by decide) rfl ?_
            have lp45 : ∀ (n44 : Nat) (x37 : Int) (H41 : fz_H), fz_Iv H41 → fz_fr [(53, 54), (53, 55), (74, 99999), (75, 99999), (89, 99999), (90, 99999)] h H41 → fz_Xw H41 → fl_HB H41 → fz_RM H41 → (0 ≤ x37 ∧ x37 ≤ 2147483647) → ((h 53 2) - x37).toNat < n44 → fz_R 8 mX11_tries 79 [(6, fz_i x37), (0, fz_r 53), (1, fz_i pe), (2, fz_i t), (3, fz_i hr), (4, fz_i 0), (5, fz_i su)] [] H41 (qX11_tries_0 h pe t hr su) := by
              intro n44
              induction n44 with
              | zero => intro x37 H41 hI42 hf43 hXw38 hHB39 hRM40 hv48 hm47; exact absurd hm47 (by omega)
              | succ n44 ih46 =>
                intro x37 H41 hI42 hf43 hXw38 hHB39 hRM40 hv48 hm47
                refine fz_iload kX11_tries rfl rfl ?_
                refine fz_aload_n kX11_tries rfl rfl ?_
                refine fz_getV (v := h 53 2) kX11_tries rfl rfl (hf43 53 2 rfl) ?_
                have b49 : 0 ≤ h 53 2 ∧ h 53 2 ≤ 12 := hI.1 53 _
                refine fz_icmp_ge (tgt := 217) kX11_tries rfl (by decide) (fun c50 => ?_) (fun c50 => ?_)
                · exact fz_vret kX11_tries rfl rfl ⟨hI42, hf43, hXw38, hHB39, hRM40, rfl⟩
                · refine fz_aload_n kX11_tries rfl rfl ?_
                  refine fz_getR (t := 55) kX11_tries rfl rfl ?_
                  refine fz_iload kX11_tries rfl rfl ?_
                  refine fz_ialdV (n := 12) (v := h 55 (x37.toNat)) kX11_tries rfl rfl (by omega) (by omega) (hf43 55 _ rfl) ?_
                  have b51 : 0 ≤ h 55 (x37.toNat) ∧ h 55 (x37.toNat) ≤ 7 := hI.1 55 _
                  refine fz_iload_n kX11_tries rfl rfl ?_
                  refine fz_icmp_eq (tgt := 113) kX11_tries rfl (by decide) (fun c52 => ?_) (fun c52 => ?_)
                  · refine fz_aload_n kX11_tries rfl rfl ?_
                    refine fz_getR (t := 55) kX11_tries rfl rfl ?_
                    refine fz_iload kX11_tries rfl rfl ?_
                    refine fz_ialdV (n := 12) (v := h 55 (x37.toNat)) kX11_tries rfl rfl (by omega) (by omega) (hf43 55 _ rfl) ?_
                    refine fz_iload_n kX11_tries rfl rfl ?_
                    refine fz_icmp_ne (tgt := 134) kX11_tries rfl (by decide) (fun c53 => ?_) (fun c53 => ?_)
                    · refine fz_aload_n kX11_tries rfl rfl ?_
                      refine fz_getR (t := 55) kX11_tries rfl rfl ?_
                      refine fz_iload kX11_tries rfl rfl ?_
                      refine fz_ialdV (n := 12) (v := h 55 (x37.toNat)) kX11_tries rfl rfl (by omega) (by omega) (hf43 55 _ rfl) ?_
                      have k54 := hRM (x37).toNat (by omega)
                      refine fz_istore (ls' := [(7, fz_i (h 55 (x37.toNat))), (6, fz_i x37), (0, fz_r 53), (1, fz_i pe), (2, fz_i t), (3, fz_i hr), (4, fz_i 0), (5, fz_i su)]) kX11_tries rfl (by decide) rfl ?_
                      refine fz_iload_n kX11_tries rfl rfl ?_
                      refine fz_aload_n kX11_tries rfl rfl ?_
                      refine fz_getR (t := 57) kX11_tries rfl rfl ?_
                      refine fz_iload kX11_tries rfl rfl ?_
                      refine fz_ialdV (n := 12) (v := h 57 (x37.toNat)) kX11_tries rfl rfl (by omega) (by omega) (hf43 57 _ rfl) ?_
                      have b55 : 0 ≤ h 57 (x37.toNat) ∧ h 57 (x37.toNat) ≤ 24 := hI.1 57 _
                      refine fz_iadd kX11_tries rfl ?_
                      refine fz_nmw (fun z56 e57 => ?_)
                      refine fz_istore (ls' := [(8, fz_i z56), (7, fz_i (h 55 (x37.toNat))), (6, fz_i x37), (0, fz_r 53), (1, fz_i pe), (2, fz_i t), (3, fz_i hr), (4, fz_i 0), (5, fz_i su)]) kX11_tries rfl (by decide) rfl ?_
                      refine fz_iload kX11_tries rfl rfl ?_
                      refine fz_sipush ⟨by decide, by decide⟩ kX11_tries rfl ?_
                      refine fz_icmp_gt (tgt := 211) kX11_tries rfl (by decide) (fun c58 => ?_) (fun c58 => ?_)
                      · refine fz_iincN (ls' := [(6, fz_i (x37 + 1)), (8, fz_i z56), (7, fz_i (h 55 (x37.toNat))), (0, fz_r 53), (1, fz_i pe), (2, fz_i t), (3, fz_i hr), (4, fz_i 0), (5, fz_i su)]) kX11_tries rfl (by decide) rfl (by omega) rfl ?_
                        refine fz_goto (tgt := 79) kX11_tries rfl (by decide) ?_
                        refine fz_sub (fz_pk_sub (ls' := [(6, fz_i (x37 + 1)), (0, fz_r 53), (1, fz_i pe), (2, fz_i t), (3, fz_i hr), (4, fz_i 0), (5, fz_i su)]) [0, 3, 4, 5, 6, 7, 8] rfl) ?_
                        exact ih46 (x37 + 1) H41 hI42 hf43 hXw38 hHB39 hRM40 (by omega) (by omega)
                      · refine fz_aload_n kX11_tries rfl rfl ?_
                        refine fz_iload_n kX11_tries rfl rfl ?_
                        refine fz_iload kX11_tries rfl rfl ?_
                        refine fz_iload kX11_tries rfl rfl ?_
                        have b59 : 0 ≤ h 53 0 ∧ h 53 0 ≤ 8 := hI.1 53 _
                        have b60 : 0 ≤ h 53 8 ∧ h 53 8 ≤ 99 := hI.1 53 _
                        have e61 : H41 53 0 = h 53 0 := hf43 53 0 rfl
                        have e62 : H41 53 8 = h 53 8 := hf43 53 8 rfl
                        refine fz_callV (d' := 4) (M' := mX11_isArrested) (As := [fz_i pe, fz_i (h 55 (x37.toNat)), fz_i z56]) (st := []) kX11_tries rfl rfl vX11_isArrested rfl rfl rfl rfl (Nat.le_of_ble_eq_true rfl) (Nat.le_of_ble_eq_true rfl) (by decide) (sX11_isArrested H41 hI42 pe (h 55 (x37.toNat)) z56 hXw38 hHB39 (by omega) (by omega)) (fun H63 r64 q65 o66 => ?_)
                        obtain ⟨hI67, hf68, hXw69, hHB70, y72, rfl, p73, f71⟩ := q65
                        clear o66
                        have hf74 := fz_fr_tr hf43 hf68 (show fz_su [(74, 99999), (75, 99999)] [(53, 54), (53, 55), (74, 99999), (75, 99999), (89, 99999), (90, 99999)] = true from rfl)
                        have hRM75 : fz_RM H63 := fz_RM_eq (funext fun s => hf68 55 s rfl) (funext fun s => hf68 56 s rfl) (hf68 53 0 rfl) (hf68 53 2 rfl) hRM40
                        have t76 : H63 53 0 = H41 53 0 := hf68 53 0 rfl
                        refine fz_if_eq (tgt := 177) kX11_tries rfl (by decide) (fun c77 => ?_) (fun c77 => ?_)
                        · refine fz_aload_n kX11_tries rfl rfl ?_
                          refine fz_getR (t := 90) kX11_tries rfl rfl ?_
                          refine fz_iload kX11_tries rfl rfl ?_
                          refine fz_iload kX11_tries rfl rfl ?_
                          refine fz_iast (n := 4) kX11_tries rfl rfl (by omega) (by omega) ?_
                          refine fz_nmu (S := [(53, 54), (53, 55), (74, 99999), (75, 99999), (89, 99999), (90, 99999)]) (h0 := h) (fz_Iv_up hI67 (by decide) (show (0 : Int) ≤ (h 55 (x37.toNat)) by omega) (show ((h 55 (x37.toNat)) : Int) ≤ 7 by omega)) (fz_fr_up hf74 rfl) (fun H78 hI79 hf80 e81 => ?_)
                          have t82 : H78 53 0 = H63 53 0 := by rw [e81]; exact fz_up_o (by decide)
                          have hXw83 : fz_Xw H78 := fz_Xw_eq (by rw [e81]; exact fz_up_o (by decide)) (by rw [e81]; exact fz_up_ne (by decide)) (by rw [e81]; exact fz_up_ne (by decide)) (by rw [e81]; exact fz_up_ne (by decide)) (by rw [e81]; exact fz_up_ne (by decide)) hXw69
                          have hHB84 : fl_HB H78 := fl_HB_eq (by rw [e81]; exact fz_up_ne (by decide)) (by rw [e81]; exact fz_up_ne (by decide)) (by rw [e81]; exact fz_up_o (by decide)) (by rw [e81]; exact fz_up_o (by decide)) hHB70
                          have hRM85 : fz_RM H78 := fz_RM_eq (by rw [e81]; exact fz_up_ne (by decide)) (by rw [e81]; exact fz_up_ne (by decide)) (by rw [e81]; exact fz_up_o (by decide)) (by rw [e81]; exact fz_up_o (by decide)) hRM75
                          clear e81
                          refine fz_aload_n kX11_tries rfl rfl ?_
                          refine fz_iload_n kX11_tries rfl rfl ?_
                          refine fz_iload kX11_tries rfl rfl ?_
                          refine fz_iload kX11_tries rfl rfl ?_
                          refine fz_iload kX11_tries rfl rfl ?_
                          refine fz_iconst ⟨by decide, by decide⟩ kX11_tries rfl ?_
                          refine fz_iaddN kX11_tries rfl ⟨by decide, by decide⟩ ?_
                          refine fz_eqi (y := 1) rfl ?_
                          refine fz_iload kX11_tries rfl rfl ?_
                          refine fz_aload_n kX11_tries rfl rfl ?_
                          refine fz_iload_n kX11_tries rfl rfl ?_
                          refine fz_iload kX11_tries rfl rfl ?_
                          refine fz_iload kX11_tries rfl rfl ?_
                          have e86 : H78 53 0 = h 53 0 := hf80 53 0 rfl
                          refine fz_callV (d' := 4) (M' := mX11_receivedIn) (As := [fz_i pe, fz_i (h 55 (x37.toNat)), fz_i z56]) (st := [fz_i su, fz_i 1, fz_i z56, fz_i (h 55 (x37.toNat)), fz_i pe, fz_r 53]) kX11_tries rfl rfl vX11_receivedIn rfl rfl rfl rfl (Nat.le_of_ble_eq_true rfl) (Nat.le_of_ble_eq_true rfl) (by decide) (sX11_receivedIn H78 hI79 pe (h 55 (x37.toNat)) z56 hXw83 hHB84 (by omega) (by omega)) (fun H87 r88 q89 o90 => ?_)
                          obtain ⟨hI91, hf92, hXw93, hHB94, y97, rfl, f95, f96⟩ := q89
                          clear o90
                          have hf98 := fz_fr_tr hf80 hf92 (show fz_su [(74, 99999), (75, 99999)] [(53, 54), (53, 55), (74, 99999), (75, 99999), (89, 99999), (90, 99999)] = true from rfl)
                          have hRM99 : fz_RM H87 := fz_RM_eq (funext fun s => hf92 55 s rfl) (funext fun s => hf92 56 s rfl) (hf92 53 0 rfl) (hf92 53 2 rfl) hRM85
                          have t100 : H87 53 0 = H78 53 0 := hf92 53 0 rfl
                          refine fz_iadd kX11_tries rfl ?_
                          refine fz_nmw (fun z101 e102 => ?_)
                          have e103 : H87 53 0 = h 53 0 := hf98 53 0 rfl
                          refine fz_callV (d' := 7) (M' := mX11_tries) (As := [fz_i pe, fz_i (h 55 (x37.toNat)), fz_i z56, fz_i 1, fz_i z101]) (st := []) kX11_tries rfl rfl vX11_tries rfl rfl rfl rfl (Nat.le_of_ble_eq_true rfl) (Nat.le_of_ble_eq_true rfl) (by decide) (sX11_tries_1 H87 hI91 pe (h 55 (x37.toNat)) z56 z101 hXw93 hHB94 hRM99 (by omega) (by omega)) (fun H104 r105 q106 o107 => ?_)
                          obtain ⟨hI108, hf109, hXw110, hHB111, hRM112, rfl⟩ := q106
                          clear o107
                          have hf113 := fz_fr_tr hf98 hf109 (show fz_su [(53, 54), (53, 55), (74, 99999), (75, 99999), (89, 99999), (90, 99999)] [(53, 54), (53, 55), (74, 99999), (75, 99999), (89, 99999), (90, 99999)] = true from rfl)
                          have t114 : H104 53 0 = H87 53 0 := hf109 53 0 rfl
                          refine fz_iincN (ls' := [(6, fz_i (x37 + 1)), (8, fz_i z56), (7, fz_i (h 55 (x37.toNat))), (0, fz_r 53), (1, fz_i pe), (2, fz_i t), (3, fz_i hr), (4, fz_i 0), (5, fz_i su)]) kX11_tries rfl (by decide) rfl (by omega) rfl ?_
                          refine fz_goto (tgt := 79) kX11_tries rfl (by decide) ?_
                          refine fz_sub (fz_pk_sub (ls' := [(6, fz_i (x37 + 1)), (0, fz_r 53), (1, fz_i pe), (2, fz_i t), (3, fz_i hr), (4, fz_i 0), (5, fz_i su)]) [0, 3, 4, 5, 6, 7, 8] rfl) ?_
                          exact ih46 (x37 + 1) H104 hI108 hf113 hXw110 hHB111 hRM112 (by omega) (by omega)
                        · refine fz_goto (tgt := 211) kX11_tries rfl (by decide) ?_
                          refine fz_iincN (ls' := [(6, fz_i (x37 + 1)), (8, fz_i z56), (7, fz_i (h 55 (x37.toNat))), (0, fz_r 53), (1, fz_i pe), (2, fz_i t), (3, fz_i hr), (4, fz_i 0), (5, fz_i su)]) kX11_tries rfl (by decide) rfl (by omega) rfl ?_
                          refine fz_goto (tgt := 79) kX11_tries rfl (by decide) ?_
                          refine fz_sub (fz_pk_sub (ls' := [(6, fz_i (x37 + 1)), (0, fz_r 53), (1, fz_i pe), (2, fz_i t), (3, fz_i hr), (4, fz_i 0), (5, fz_i su)]) [0, 3, 4, 5, 6, 7, 8] rfl) ?_
                          exact ih46 (x37 + 1) H63 hI67 hf74 hXw69 hHB70 hRM75 (by omega) (by omega)
                    · refine fz_aload_n kX11_tries rfl rfl ?_
                      refine fz_getR (t := 56) kX11_tries rfl rfl ?_
                      refine fz_iload kX11_tries rfl rfl ?_
                      refine fz_ialdV (n := 12) (v := h 56 (x37.toNat)) kX11_tries rfl rfl (by omega) (by omega) (hf43 56 _ rfl) ?_
                      have b115 : 0 ≤ h 56 (x37.toNat) ∧ h 56 (x37.toNat) ≤ 7 := hI.1 56 _
                      refine fz_goto (tgt := 141) kX11_tries rfl (by decide) ?_
                      have k116 := hRM (x37).toNat (by omega)
                      refine fz_istore (ls' := [(7, fz_i (h 56 (x37.toNat))), (6, fz_i x37), (0, fz_r 53), (1, fz_i pe), (2, fz_i t), (3, fz_i hr), (4, fz_i 0), (5, fz_i su)]) kX11_tries rfl (by decide) rfl ?_
                      refine fz_iload_n kX11_tries rfl rfl ?_
                      refine fz_aload_n kX11_tries rfl rfl ?_
                      refine fz_getR (t := 57) kX11_tries rfl rfl ?_
                      refine fz_iload kX11_tries rfl rfl ?_
                      refine fz_ialdV (n := 12) (v := h 57 (x37.toNat)) kX11_tries rfl rfl (by omega) (by omega) (hf43 57 _ rfl) ?_
                      have b117 : 0 ≤ h 57 (x37.toNat) ∧ h 57 (x37.toNat) ≤ 24 := hI.1 57 _
                      refine fz_iadd kX11_tries rfl ?_
                      refine fz_nmw (fun z118 e119 => ?_)
                      refine fz_istore (ls' := [(8, fz_i z118), (7, fz_i (h 56 (x37.toNat))), (6, fz_i x37), (0, fz_r 53), (1, fz_i pe), (2, fz_i t), (3, fz_i hr), (4, fz_i 0), (5, fz_i su)]) kX11_tries rfl (by decide) rfl ?_
                      refine fz_iload kX11_tries rfl rfl ?_
                      refine fz_sipush ⟨by decide, by decide⟩ kX11_tries rfl ?_
                      refine fz_icmp_gt (tgt := 211) kX11_tries rfl (by decide) (fun c120 => ?_) (fun c120 => ?_)
                      · refine fz_iincN (ls' := [(6, fz_i (x37 + 1)), (8, fz_i z118), (7, fz_i (h 56 (x37.toNat))), (0, fz_r 53), (1, fz_i pe), (2, fz_i t), (3, fz_i hr), (4, fz_i 0), (5, fz_i su)]) kX11_tries rfl (by decide) rfl (by omega) rfl ?_
                        refine fz_goto (tgt := 79) kX11_tries rfl (by decide) ?_
                        refine fz_sub (fz_pk_sub (ls' := [(6, fz_i (x37 + 1)), (0, fz_r 53), (1, fz_i pe), (2, fz_i t), (3, fz_i hr), (4, fz_i 0), (5, fz_i su)]) [0, 3, 4, 5, 6, 7, 8] rfl) ?_
                        exact ih46 (x37 + 1) H41 hI42 hf43 hXw38 hHB39 hRM40 (by omega) (by omega)
                      · refine fz_aload_n kX11_tries rfl rfl ?_
                        refine fz_iload_n kX11_tries rfl rfl ?_
                        refine fz_iload kX11_tries rfl rfl ?_
                        refine fz_iload kX11_tries rfl rfl ?_
                        have b121 : 0 ≤ h 53 0 ∧ h 53 0 ≤ 8 := hI.1 53 _
                        have b122 : 0 ≤ h 53 8 ∧ h 53 8 ≤ 99 := hI.1 53 _
                        have e123 : H41 53 0 = h 53 0 := hf43 53 0 rfl
                        have e124 : H41 53 8 = h 53 8 := hf43 53 8 rfl
                        refine fz_callV (d' := 4) (M' := mX11_isArrested) (As := [fz_i pe, fz_i (h 56 (x37.toNat)), fz_i z118]) (st := []) kX11_tries rfl rfl vX11_isArrested rfl rfl rfl rfl (Nat.le_of_ble_eq_true rfl) (Nat.le_of_ble_eq_true rfl) (by decide) (sX11_isArrested H41 hI42 pe (h 56 (x37.toNat)) z118 hXw38 hHB39 (by omega) (by omega)) (fun H125 r126 q127 o128 => ?_)
                        obtain ⟨hI129, hf130, hXw131, hHB132, y134, rfl, p135, f133⟩ := q127
                        clear o128
                        have hf136 := fz_fr_tr hf43 hf130 (show fz_su [(74, 99999), (75, 99999)] [(53, 54), (53, 55), (74, 99999), (75, 99999), (89, 99999), (90, 99999)] = true from rfl)
                        have hRM137 : fz_RM H125 := fz_RM_eq (funext fun s => hf130 55 s rfl) (funext fun s => hf130 56 s rfl) (hf130 53 0 rfl) (hf130 53 2 rfl) hRM40
                        have t138 : H125 53 0 = H41 53 0 := hf130 53 0 rfl
                        refine fz_if_eq (tgt := 177) kX11_tries rfl (by decide) (fun c139 => ?_) (fun c139 => ?_)
                        · refine fz_aload_n kX11_tries rfl rfl ?_
                          refine fz_getR (t := 90) kX11_tries rfl rfl ?_
                          refine fz_iload kX11_tries rfl rfl ?_
                          refine fz_iload kX11_tries rfl rfl ?_
                          refine fz_iast (n := 4) kX11_tries rfl rfl (by omega) (by omega) ?_
                          refine fz_nmu (S := [(53, 54), (53, 55), (74, 99999), (75, 99999), (89, 99999), (90, 99999)]) (h0 := h) (fz_Iv_up hI129 (by decide) (show (0 : Int) ≤ (h 56 (x37.toNat)) by omega) (show ((h 56 (x37.toNat)) : Int) ≤ 7 by omega)) (fz_fr_up hf136 rfl) (fun H140 hI141 hf142 e143 => ?_)
                          have t144 : H140 53 0 = H125 53 0 := by rw [e143]; exact fz_up_o (by decide)
                          have hXw145 : fz_Xw H140 := fz_Xw_eq (by rw [e143]; exact fz_up_o (by decide)) (by rw [e143]; exact fz_up_ne (by decide)) (by rw [e143]; exact fz_up_ne (by decide)) (by rw [e143]; exact fz_up_ne (by decide)) (by rw [e143]; exact fz_up_ne (by decide)) hXw131
                          have hHB146 : fl_HB H140 := fl_HB_eq (by rw [e143]; exact fz_up_ne (by decide)) (by rw [e143]; exact fz_up_ne (by decide)) (by rw [e143]; exact fz_up_o (by decide)) (by rw [e143]; exact fz_up_o (by decide)) hHB132
                          have hRM147 : fz_RM H140 := fz_RM_eq (by rw [e143]; exact fz_up_ne (by decide)) (by rw [e143]; exact fz_up_ne (by decide)) (by rw [e143]; exact fz_up_o (by decide)) (by rw [e143]; exact fz_up_o (by decide)) hRM137
                          clear e143
                          refine fz_aload_n kX11_tries rfl rfl ?_
                          refine fz_iload_n kX11_tries rfl rfl ?_
                          refine fz_iload kX11_tries rfl rfl ?_
                          refine fz_iload kX11_tries rfl rfl ?_
                          refine fz_iload kX11_tries rfl rfl ?_
                          refine fz_iconst ⟨by decide, by decide⟩ kX11_tries rfl ?_
                          refine fz_iaddN kX11_tries rfl ⟨by decide, by decide⟩ ?_
                          refine fz_eqi (y := 1) rfl ?_
                          refine fz_iload kX11_tries rfl rfl ?_
                          refine fz_aload_n kX11_tries rfl rfl ?_
                          refine fz_iload_n kX11_tries rfl rfl ?_
                          refine fz_iload kX11_tries rfl rfl ?_
                          refine fz_iload kX11_tries rfl rfl ?_
                          have e148 : H140 53 0 = h 53 0 := hf142 53 0 rfl
                          refine fz_callV (d' := 4) (M' := mX11_receivedIn) (As := [fz_i pe, fz_i (h 56 (x37.toNat)), fz_i z118]) (st := [fz_i su, fz_i 1, fz_i z118, fz_i (h 56 (x37.toNat)), fz_i pe, fz_r 53]) kX11_tries rfl rfl vX11_receivedIn rfl rfl rfl rfl (Nat.le_of_ble_eq_true rfl) (Nat.le_of_ble_eq_true rfl) (by decide) (sX11_receivedIn H140 hI141 pe (h 56 (x37.toNat)) z118 hXw145 hHB146 (by omega) (by omega)) (fun H149 r150 q151 o152 => ?_)
                          obtain ⟨hI153, hf154, hXw155, hHB156, y159, rfl, f157, f158⟩ := q151
                          clear o152
                          have hf160 := fz_fr_tr hf142 hf154 (show fz_su [(74, 99999), (75, 99999)] [(53, 54), (53, 55), (74, 99999), (75, 99999), (89, 99999), (90, 99999)] = true from rfl)
                          have hRM161 : fz_RM H149 := fz_RM_eq (funext fun s => hf154 55 s rfl) (funext fun s => hf154 56 s rfl) (hf154 53 0 rfl) (hf154 53 2 rfl) hRM147
                          have t162 : H149 53 0 = H140 53 0 := hf154 53 0 rfl
                          refine fz_iadd kX11_tries rfl ?_
                          refine fz_nmw (fun z163 e164 => ?_)
                          have e165 : H149 53 0 = h 53 0 := hf160 53 0 rfl
                          refine fz_callV (d' := 7) (M' := mX11_tries) (As := [fz_i pe, fz_i (h 56 (x37.toNat)), fz_i z118, fz_i 1, fz_i z163]) (st := []) kX11_tries rfl rfl vX11_tries rfl rfl rfl rfl (Nat.le_of_ble_eq_true rfl) (Nat.le_of_ble_eq_true rfl) (by decide) (sX11_tries_1 H149 hI153 pe (h 56 (x37.toNat)) z118 z163 hXw155 hHB156 hRM161 (by omega) (by omega)) (fun H166 r167 q168 o169 => ?_)
                          obtain ⟨hI170, hf171, hXw172, hHB173, hRM174, rfl⟩ := q168
                          clear o169
                          have hf175 := fz_fr_tr hf160 hf171 (show fz_su [(53, 54), (53, 55), (74, 99999), (75, 99999), (89, 99999), (90, 99999)] [(53, 54), (53, 55), (74, 99999), (75, 99999), (89, 99999), (90, 99999)] = true from rfl)
                          have t176 : H166 53 0 = H149 53 0 := hf171 53 0 rfl
                          refine fz_iincN (ls' := [(6, fz_i (x37 + 1)), (8, fz_i z118), (7, fz_i (h 56 (x37.toNat))), (0, fz_r 53), (1, fz_i pe), (2, fz_i t), (3, fz_i hr), (4, fz_i 0), (5, fz_i su)]) kX11_tries rfl (by decide) rfl (by omega) rfl ?_
                          refine fz_goto (tgt := 79) kX11_tries rfl (by decide) ?_
                          refine fz_sub (fz_pk_sub (ls' := [(6, fz_i (x37 + 1)), (0, fz_r 53), (1, fz_i pe), (2, fz_i t), (3, fz_i hr), (4, fz_i 0), (5, fz_i su)]) [0, 3, 4, 5, 6, 7, 8] rfl) ?_
                          exact ih46 (x37 + 1) H166 hI170 hf175 hXw172 hHB173 hRM174 (by omega) (by omega)
                        · refine fz_goto (tgt := 211) kX11_tries rfl (by decide) ?_
                          refine fz_iincN (ls' := [(6, fz_i (x37 + 1)), (8, fz_i z118), (7, fz_i (h 56 (x37.toNat))), (0, fz_r 53), (1, fz_i pe), (2, fz_i t), (3, fz_i hr), (4, fz_i 0), (5, fz_i su)]) kX11_tries rfl (by decide) rfl (by omega) rfl ?_
                          refine fz_goto (tgt := 79) kX11_tries rfl (by decide) ?_
                          refine fz_sub (fz_pk_sub (ls' := [(6, fz_i (x37 + 1)), (0, fz_r 53), (1, fz_i pe), (2, fz_i t), (3, fz_i hr), (4, fz_i 0), (5, fz_i su)]) [0, 3, 4, 5, 6, 7, 8] rfl) ?_
                          exact ih46 (x37 + 1) H125 hI129 hf136 hXw131 hHB132 hRM137 (by omega) (by omega)
                  · refine fz_aload_n kX11_tries rfl rfl ?_
                    refine fz_getR (t := 56) kX11_tries rfl rfl ?_
                    refine fz_iload kX11_tries rfl rfl ?_
                    refine fz_ialdV (n := 12) (v := h 56 (x37.toNat)) kX11_tries rfl rfl (by omega) (by omega) (hf43 56 _ rfl) ?_
                    have b177 : 0 ≤ h 56 (x37.toNat) ∧ h 56 (x37.toNat) ≤ 7 := hI.1 56 _
                    refine fz_iload_n kX11_tries rfl rfl ?_
                    refine fz_icmp_eq (tgt := 113) kX11_tries rfl (by decide) (fun c178 => ?_) (fun c178 => ?_)
                    · refine fz_aload_n kX11_tries rfl rfl ?_
                      refine fz_getR (t := 55) kX11_tries rfl rfl ?_
                      refine fz_iload kX11_tries rfl rfl ?_
                      refine fz_ialdV (n := 12) (v := h 55 (x37.toNat)) kX11_tries rfl rfl (by omega) (by omega) (hf43 55 _ rfl) ?_
                      refine fz_iload_n kX11_tries rfl rfl ?_
                      refine fz_icmp_ne (tgt := 134) kX11_tries rfl (by decide) (fun c179 => ?_) (fun c179 => ?_)
                      · refine fz_aload_n kX11_tries rfl rfl ?_
                        refine fz_getR (t := 55) kX11_tries rfl rfl ?_
                        refine fz_iload kX11_tries rfl rfl ?_
                        refine fz_ialdV (n := 12) (v := h 55 (x37.toNat)) kX11_tries rfl rfl (by omega) (by omega) (hf43 55 _ rfl) ?_
                        have k180 := hRM (x37).toNat (by omega)
                        refine fz_istore (ls' := [(7, fz_i (h 55 (x37.toNat))), (6, fz_i x37), (0, fz_r 53), (1, fz_i pe), (2, fz_i t), (3, fz_i hr), (4, fz_i 0), (5, fz_i su)]) kX11_tries rfl (by decide) rfl ?_
                        refine fz_iload_n kX11_tries rfl rfl ?_
                        refine fz_aload_n kX11_tries rfl rfl ?_
                        refine fz_getR (t := 57) kX11_tries rfl rfl ?_
                        refine fz_iload kX11_tries rfl rfl ?_
                        refine fz_ialdV (n := 12) (v := h 57 (x37.toNat)) kX11_tries rfl rfl (by omega) (by omega) (hf43 57 _ rfl) ?_
                        have b181 : 0 ≤ h 57 (x37.toNat) ∧ h 57 (x37.toNat) ≤ 24 := hI.1 57 _
                        refine fz_iadd kX11_tries rfl ?_
                        refine fz_nmw (fun z182 e183 => ?_)
                        refine fz_istore (ls' := [(8, fz_i z182), (7, fz_i (h 55 (x37.toNat))), (6, fz_i x37), (0, fz_r 53), (1, fz_i pe), (2, fz_i t), (3, fz_i hr), (4, fz_i 0), (5, fz_i su)]) kX11_tries rfl (by decide) rfl ?_
                        refine fz_iload kX11_tries rfl rfl ?_
                        refine fz_sipush ⟨by decide, by decide⟩ kX11_tries rfl ?_
                        refine fz_icmp_gt (tgt := 211) kX11_tries rfl (by decide) (fun c184 => ?_) (fun c184 => ?_)
                        · refine fz_iincN (ls' := [(6, fz_i (x37 + 1)), (8, fz_i z182), (7, fz_i (h 55 (x37.toNat))), (0, fz_r 53), (1, fz_i pe), (2, fz_i t), (3, fz_i hr), (4, fz_i 0), (5, fz_i su)]) kX11_tries rfl (by decide) rfl (by omega) rfl ?_
                          refine fz_goto (tgt := 79) kX11_tries rfl (by decide) ?_
                          refine fz_sub (fz_pk_sub (ls' := [(6, fz_i (x37 + 1)), (0, fz_r 53), (1, fz_i pe), (2, fz_i t), (3, fz_i hr), (4, fz_i 0), (5, fz_i su)]) [0, 3, 4, 5, 6, 7, 8] rfl) ?_
                          exact ih46 (x37 + 1) H41 hI42 hf43 hXw38 hHB39 hRM40 (by omega) (by omega)
                        · refine fz_aload_n kX11_tries rfl rfl ?_
                          refine fz_iload_n kX11_tries rfl rfl ?_
                          refine fz_iload kX11_tries rfl rfl ?_
                          refine fz_iload kX11_tries rfl rfl ?_
                          have b185 : 0 ≤ h 53 0 ∧ h 53 0 ≤ 8 := hI.1 53 _
                          have b186 : 0 ≤ h 53 8 ∧ h 53 8 ≤ 99 := hI.1 53 _
                          have e187 : H41 53 0 = h 53 0 := hf43 53 0 rfl
                          have e188 : H41 53 8 = h 53 8 := hf43 53 8 rfl
                          refine fz_callV (d' := 4) (M' := mX11_isArrested) (As := [fz_i pe, fz_i (h 55 (x37.toNat)), fz_i z182]) (st := []) kX11_tries rfl rfl vX11_isArrested rfl rfl rfl rfl (Nat.le_of_ble_eq_true rfl) (Nat.le_of_ble_eq_true rfl) (by decide) (sX11_isArrested H41 hI42 pe (h 55 (x37.toNat)) z182 hXw38 hHB39 (by omega) (by omega)) (fun H189 r190 q191 o192 => ?_)
                          obtain ⟨hI193, hf194, hXw195, hHB196, y198, rfl, p199, f197⟩ := q191
                          clear o192
                          have hf200 := fz_fr_tr hf43 hf194 (show fz_su [(74, 99999), (75, 99999)] [(53, 54), (53, 55), (74, 99999), (75, 99999), (89, 99999), (90, 99999)] = true from rfl)
                          have hRM201 : fz_RM H189 := fz_RM_eq (funext fun s => hf194 55 s rfl) (funext fun s => hf194 56 s rfl) (hf194 53 0 rfl) (hf194 53 2 rfl) hRM40
                          have t202 : H189 53 0 = H41 53 0 := hf194 53 0 rfl
                          refine fz_if_eq (tgt := 177) kX11_tries rfl (by decide) (fun c203 => ?_) (fun c203 => ?_)
                          · refine fz_aload_n kX11_tries rfl rfl ?_
                            refine fz_getR (t := 90) kX11_tries rfl rfl ?_
                            refine fz_iload kX11_tries rfl rfl ?_
                            refine fz_iload kX11_tries rfl rfl ?_
                            refine fz_iast (n := 4) kX11_tries rfl rfl (by omega) (by omega) ?_
                            refine fz_nmu (S := [(53, 54), (53, 55), (74, 99999), (75, 99999), (89, 99999), (90, 99999)]) (h0 := h) (fz_Iv_up hI193 (by decide) (show (0 : Int) ≤ (h 55 (x37.toNat)) by omega) (show ((h 55 (x37.toNat)) : Int) ≤ 7 by omega)) (fz_fr_up hf200 rfl) (fun H204 hI205 hf206 e207 => ?_)
                            have t208 : H204 53 0 = H189 53 0 := by rw [e207]; exact fz_up_o (by decide)
                            have hXw209 : fz_Xw H204 := fz_Xw_eq (by rw [e207]; exact fz_up_o (by decide)) (by rw [e207]; exact fz_up_ne (by decide)) (by rw [e207]; exact fz_up_ne (by decide)) (by rw [e207]; exact fz_up_ne (by decide)) (by rw [e207]; exact fz_up_ne (by decide)) hXw195
                            have hHB210 : fl_HB H204 := fl_HB_eq (by rw [e207]; exact fz_up_ne (by decide)) (by rw [e207]; exact fz_up_ne (by decide)) (by rw [e207]; exact fz_up_o (by decide)) (by rw [e207]; exact fz_up_o (by decide)) hHB196
                            have hRM211 : fz_RM H204 := fz_RM_eq (by rw [e207]; exact fz_up_ne (by decide)) (by rw [e207]; exact fz_up_ne (by decide)) (by rw [e207]; exact fz_up_o (by decide)) (by rw [e207]; exact fz_up_o (by decide)) hRM201
                            clear e207
                            refine fz_aload_n kX11_tries rfl rfl ?_
                            refine fz_iload_n kX11_tries rfl rfl ?_
                            refine fz_iload kX11_tries rfl rfl ?_
                            refine fz_iload kX11_tries rfl rfl ?_
                            refine fz_iload kX11_tries rfl rfl ?_
                            refine fz_iconst ⟨by decide, by decide⟩ kX11_tries rfl ?_
                            refine fz_iaddN kX11_tries rfl ⟨by decide, by decide⟩ ?_
                            refine fz_eqi (y := 1) rfl ?_
                            refine fz_iload kX11_tries rfl rfl ?_
                            refine fz_aload_n kX11_tries rfl rfl ?_
                            refine fz_iload_n kX11_tries rfl rfl ?_
                            refine fz_iload kX11_tries rfl rfl ?_
                            refine fz_iload kX11_tries rfl rfl ?_
                            have e212 : H204 53 0 = h 53 0 := hf206 53 0 rfl
                            refine fz_callV (d' := 4) (M' := mX11_receivedIn) (As := [fz_i pe, fz_i (h 55 (x37.toNat)), fz_i z182]) (st := [fz_i su, fz_i 1, fz_i z182, fz_i (h 55 (x37.toNat)), fz_i pe, fz_r 53]) kX11_tries rfl rfl vX11_receivedIn rfl rfl rfl rfl (Nat.le_of_ble_eq_true rfl) (Nat.le_of_ble_eq_true rfl) (by decide) (sX11_receivedIn H204 hI205 pe (h 55 (x37.toNat)) z182 hXw209 hHB210 (by omega) (by omega)) (fun H213 r214 q215 o216 => ?_)
                            obtain ⟨hI217, hf218, hXw219, hHB220, y223, rfl, f221, f222⟩ := q215
                            clear o216
                            have hf224 := fz_fr_tr hf206 hf218 (show fz_su [(74, 99999), (75, 99999)] [(53, 54), (53, 55), (74, 99999), (75, 99999), (89, 99999), (90, 99999)] = true from rfl)
                            have hRM225 : fz_RM H213 := fz_RM_eq (funext fun s => hf218 55 s rfl) (funext fun s => hf218 56 s rfl) (hf218 53 0 rfl) (hf218 53 2 rfl) hRM211
                            have t226 : H213 53 0 = H204 53 0 := hf218 53 0 rfl
                            refine fz_iadd kX11_tries rfl ?_
                            refine fz_nmw (fun z227 e228 => ?_)
                            have e229 : H213 53 0 = h 53 0 := hf224 53 0 rfl
                            refine fz_callV (d' := 7) (M' := mX11_tries) (As := [fz_i pe, fz_i (h 55 (x37.toNat)), fz_i z182, fz_i 1, fz_i z227]) (st := []) kX11_tries rfl rfl vX11_tries rfl rfl rfl rfl (Nat.le_of_ble_eq_true rfl) (Nat.le_of_ble_eq_true rfl) (by decide) (sX11_tries_1 H213 hI217 pe (h 55 (x37.toNat)) z182 z227 hXw219 hHB220 hRM225 (by omega) (by omega)) (fun H230 r231 q232 o233 => ?_)
                            obtain ⟨hI234, hf235, hXw236, hHB237, hRM238, rfl⟩ := q232
                            clear o233
                            have hf239 := fz_fr_tr hf224 hf235 (show fz_su [(53, 54), (53, 55), (74, 99999), (75, 99999), (89, 99999), (90, 99999)] [(53, 54), (53, 55), (74, 99999), (75, 99999), (89, 99999), (90, 99999)] = true from rfl)
                            have t240 : H230 53 0 = H213 53 0 := hf235 53 0 rfl
                            refine fz_iincN (ls' := [(6, fz_i (x37 + 1)), (8, fz_i z182), (7, fz_i (h 55 (x37.toNat))), (0, fz_r 53), (1, fz_i pe), (2, fz_i t), (3, fz_i hr), (4, fz_i 0), (5, fz_i su)]) kX11_tries rfl (by decide) rfl (by omega) rfl ?_
                            refine fz_goto (tgt := 79) kX11_tries rfl (by decide) ?_
                            refine fz_sub (fz_pk_sub (ls' := [(6, fz_i (x37 + 1)), (0, fz_r 53), (1, fz_i pe), (2, fz_i t), (3, fz_i hr), (4, fz_i 0), (5, fz_i su)]) [0, 3, 4, 5, 6, 7, 8] rfl) ?_
                            exact ih46 (x37 + 1) H230 hI234 hf239 hXw236 hHB237 hRM238 (by omega) (by omega)
                          · refine fz_goto (tgt := 211) kX11_tries rfl (by decide) ?_
                            refine fz_iincN (ls' := [(6, fz_i (x37 + 1)), (8, fz_i z182), (7, fz_i (h 55 (x37.toNat))), (0, fz_r 53), (1, fz_i pe), (2, fz_i t), (3, fz_i hr), (4, fz_i 0), (5, fz_i su)]) kX11_tries rfl (by decide) rfl (by omega) rfl ?_
                            refine fz_goto (tgt := 79) kX11_tries rfl (by decide) ?_
                            refine fz_sub (fz_pk_sub (ls' := [(6, fz_i (x37 + 1)), (0, fz_r 53), (1, fz_i pe), (2, fz_i t), (3, fz_i hr), (4, fz_i 0), (5, fz_i su)]) [0, 3, 4, 5, 6, 7, 8] rfl) ?_
                            exact ih46 (x37 + 1) H189 hI193 hf200 hXw195 hHB196 hRM201 (by omega) (by omega)
                      · refine fz_aload_n kX11_tries rfl rfl ?_
                        refine fz_getR (t := 56) kX11_tries rfl rfl ?_
                        refine fz_iload kX11_tries rfl rfl ?_
                        refine fz_ialdV (n := 12) (v := h 56 (x37.toNat)) kX11_tries rfl rfl (by omega) (by omega) (hf43 56 _ rfl) ?_
                        refine fz_goto (tgt := 141) kX11_tries rfl (by decide) ?_
                        have k241 := hRM (x37).toNat (by omega)
                        refine fz_istore (ls' := [(7, fz_i (h 56 (x37.toNat))), (6, fz_i x37), (0, fz_r 53), (1, fz_i pe), (2, fz_i t), (3, fz_i hr), (4, fz_i 0), (5, fz_i su)]) kX11_tries rfl (by decide) rfl ?_
                        refine fz_iload_n kX11_tries rfl rfl ?_
                        refine fz_aload_n kX11_tries rfl rfl ?_
                        refine fz_getR (t := 57) kX11_tries rfl rfl ?_
                        refine fz_iload kX11_tries rfl rfl ?_
                        refine fz_ialdV (n := 12) (v := h 57 (x37.toNat)) kX11_tries rfl rfl (by omega) (by omega) (hf43 57 _ rfl) ?_
                        have b242 : 0 ≤ h 57 (x37.toNat) ∧ h 57 (x37.toNat) ≤ 24 := hI.1 57 _
                        refine fz_iadd kX11_tries rfl ?_
                        refine fz_nmw (fun z243 e244 => ?_)
                        refine fz_istore (ls' := [(8, fz_i z243), (7, fz_i (h 56 (x37.toNat))), (6, fz_i x37), (0, fz_r 53), (1, fz_i pe), (2, fz_i t), (3, fz_i hr), (4, fz_i 0), (5, fz_i su)]) kX11_tries rfl (by decide) rfl ?_
                        refine fz_iload kX11_tries rfl rfl ?_
                        refine fz_sipush ⟨by decide, by decide⟩ kX11_tries rfl ?_
                        refine fz_icmp_gt (tgt := 211) kX11_tries rfl (by decide) (fun c245 => ?_) (fun c245 => ?_)
                        · refine fz_iincN (ls' := [(6, fz_i (x37 + 1)), (8, fz_i z243), (7, fz_i (h 56 (x37.toNat))), (0, fz_r 53), (1, fz_i pe), (2, fz_i t), (3, fz_i hr), (4, fz_i 0), (5, fz_i su)]) kX11_tries rfl (by decide) rfl (by omega) rfl ?_
                          refine fz_goto (tgt := 79) kX11_tries rfl (by decide) ?_
                          refine fz_sub (fz_pk_sub (ls' := [(6, fz_i (x37 + 1)), (0, fz_r 53), (1, fz_i pe), (2, fz_i t), (3, fz_i hr), (4, fz_i 0), (5, fz_i su)]) [0, 3, 4, 5, 6, 7, 8] rfl) ?_
                          exact ih46 (x37 + 1) H41 hI42 hf43 hXw38 hHB39 hRM40 (by omega) (by omega)
                        · refine fz_aload_n kX11_tries rfl rfl ?_
                          refine fz_iload_n kX11_tries rfl rfl ?_
                          refine fz_iload kX11_tries rfl rfl ?_
                          refine fz_iload kX11_tries rfl rfl ?_
                          have b246 : 0 ≤ h 53 0 ∧ h 53 0 ≤ 8 := hI.1 53 _
                          have b247 : 0 ≤ h 53 8 ∧ h 53 8 ≤ 99 := hI.1 53 _
                          have e248 : H41 53 0 = h 53 0 := hf43 53 0 rfl
                          have e249 : H41 53 8 = h 53 8 := hf43 53 8 rfl
                          refine fz_callV (d' := 4) (M' := mX11_isArrested) (As := [fz_i pe, fz_i (h 56 (x37.toNat)), fz_i z243]) (st := []) kX11_tries rfl rfl vX11_isArrested rfl rfl rfl rfl (Nat.le_of_ble_eq_true rfl) (Nat.le_of_ble_eq_true rfl) (by decide) (sX11_isArrested H41 hI42 pe (h 56 (x37.toNat)) z243 hXw38 hHB39 (by omega) (by omega)) (fun H250 r251 q252 o253 => ?_)
                          obtain ⟨hI254, hf255, hXw256, hHB257, y259, rfl, p260, f258⟩ := q252
                          clear o253
                          have hf261 := fz_fr_tr hf43 hf255 (show fz_su [(74, 99999), (75, 99999)] [(53, 54), (53, 55), (74, 99999), (75, 99999), (89, 99999), (90, 99999)] = true from rfl)
                          have hRM262 : fz_RM H250 := fz_RM_eq (funext fun s => hf255 55 s rfl) (funext fun s => hf255 56 s rfl) (hf255 53 0 rfl) (hf255 53 2 rfl) hRM40
                          have t263 : H250 53 0 = H41 53 0 := hf255 53 0 rfl
                          refine fz_if_eq (tgt := 177) kX11_tries rfl (by decide) (fun c264 => ?_) (fun c264 => ?_)
                          · refine fz_aload_n kX11_tries rfl rfl ?_
                            refine fz_getR (t := 90) kX11_tries rfl rfl ?_
                            refine fz_iload kX11_tries rfl rfl ?_
                            refine fz_iload kX11_tries rfl rfl ?_
                            refine fz_iast (n := 4) kX11_tries rfl rfl (by omega) (by omega) ?_
                            refine fz_nmu (S := [(53, 54), (53, 55), (74, 99999), (75, 99999), (89, 99999), (90, 99999)]) (h0 := h) (fz_Iv_up hI254 (by decide) (show (0 : Int) ≤ (h 56 (x37.toNat)) by omega) (show ((h 56 (x37.toNat)) : Int) ≤ 7 by omega)) (fz_fr_up hf261 rfl) (fun H265 hI266 hf267 e268 => ?_)
                            have t269 : H265 53 0 = H250 53 0 := by rw [e268]; exact fz_up_o (by decide)
                            have hXw270 : fz_Xw H265 := fz_Xw_eq (by rw [e268]; exact fz_up_o (by decide)) (by rw [e268]; exact fz_up_ne (by decide)) (by rw [e268]; exact fz_up_ne (by decide)) (by rw [e268]; exact fz_up_ne (by decide)) (by rw [e268]; exact fz_up_ne (by decide)) hXw256
                            have hHB271 : fl_HB H265 := fl_HB_eq (by rw [e268]; exact fz_up_ne (by decide)) (by rw [e268]; exact fz_up_ne (by decide)) (by rw [e268]; exact fz_up_o (by decide)) (by rw [e268]; exact fz_up_o (by decide)) hHB257
                            have hRM272 : fz_RM H265 := fz_RM_eq (by rw [e268]; exact fz_up_ne (by decide)) (by rw [e268]; exact fz_up_ne (by decide)) (by rw [e268]; exact fz_up_o (by decide)) (by rw [e268]; exact fz_up_o (by decide)) hRM262
                            clear e268
                            refine fz_aload_n kX11_tries rfl rfl ?_
                            refine fz_iload_n kX11_tries rfl rfl ?_
                            refine fz_iload kX11_tries rfl rfl ?_
                            refine fz_iload kX11_tries rfl rfl ?_
                            refine fz_iload kX11_tries rfl rfl ?_
                            refine fz_iconst ⟨by decide, by decide⟩ kX11_tries rfl ?_
                            refine fz_iaddN kX11_tries rfl ⟨by decide, by decide⟩ ?_
                            refine fz_eqi (y := 1) rfl ?_
                            refine fz_iload kX11_tries rfl rfl ?_
                            refine fz_aload_n kX11_tries rfl rfl ?_
                            refine fz_iload_n kX11_tries rfl rfl ?_
                            refine fz_iload kX11_tries rfl rfl ?_
                            refine fz_iload kX11_tries rfl rfl ?_
                            have e273 : H265 53 0 = h 53 0 := hf267 53 0 rfl
                            refine fz_callV (d' := 4) (M' := mX11_receivedIn) (As := [fz_i pe, fz_i (h 56 (x37.toNat)), fz_i z243]) (st := [fz_i su, fz_i 1, fz_i z243, fz_i (h 56 (x37.toNat)), fz_i pe, fz_r 53]) kX11_tries rfl rfl vX11_receivedIn rfl rfl rfl rfl (Nat.le_of_ble_eq_true rfl) (Nat.le_of_ble_eq_true rfl) (by decide) (sX11_receivedIn H265 hI266 pe (h 56 (x37.toNat)) z243 hXw270 hHB271 (by omega) (by omega)) (fun H274 r275 q276 o277 => ?_)
                            obtain ⟨hI278, hf279, hXw280, hHB281, y284, rfl, f282, f283⟩ := q276
                            clear o277
                            have hf285 := fz_fr_tr hf267 hf279 (show fz_su [(74, 99999), (75, 99999)] [(53, 54), (53, 55), (74, 99999), (75, 99999), (89, 99999), (90, 99999)] = true from rfl)
                            have hRM286 : fz_RM H274 := fz_RM_eq (funext fun s => hf279 55 s rfl) (funext fun s => hf279 56 s rfl) (hf279 53 0 rfl) (hf279 53 2 rfl) hRM272
                            have t287 : H274 53 0 = H265 53 0 := hf279 53 0 rfl
                            refine fz_iadd kX11_tries rfl ?_
                            refine fz_nmw (fun z288 e289 => ?_)
                            have e290 : H274 53 0 = h 53 0 := hf285 53 0 rfl
                            refine fz_callV (d' := 7) (M' := mX11_tries) (As := [fz_i pe, fz_i (h 56 (x37.toNat)), fz_i z243, fz_i 1, fz_i z288]) (st := []) kX11_tries rfl rfl vX11_tries rfl rfl rfl rfl (Nat.le_of_ble_eq_true rfl) (Nat.le_of_ble_eq_true rfl) (by decide) (sX11_tries_1 H274 hI278 pe (h 56 (x37.toNat)) z243 z288 hXw280 hHB281 hRM286 (by omega) (by omega)) (fun H291 r292 q293 o294 => ?_)
                            obtain ⟨hI295, hf296, hXw297, hHB298, hRM299, rfl⟩ := q293
                            clear o294
                            have hf300 := fz_fr_tr hf285 hf296 (show fz_su [(53, 54), (53, 55), (74, 99999), (75, 99999), (89, 99999), (90, 99999)] [(53, 54), (53, 55), (74, 99999), (75, 99999), (89, 99999), (90, 99999)] = true from rfl)
                            have t301 : H291 53 0 = H274 53 0 := hf296 53 0 rfl
                            refine fz_iincN (ls' := [(6, fz_i (x37 + 1)), (8, fz_i z243), (7, fz_i (h 56 (x37.toNat))), (0, fz_r 53), (1, fz_i pe), (2, fz_i t), (3, fz_i hr), (4, fz_i 0), (5, fz_i su)]) kX11_tries rfl (by decide) rfl (by omega) rfl ?_
                            refine fz_goto (tgt := 79) kX11_tries rfl (by decide) ?_
                            refine fz_sub (fz_pk_sub (ls' := [(6, fz_i (x37 + 1)), (0, fz_r 53), (1, fz_i pe), (2, fz_i t), (3, fz_i hr), (4, fz_i 0), (5, fz_i su)]) [0, 3, 4, 5, 6, 7, 8] rfl) ?_
                            exact ih46 (x37 + 1) H291 hI295 hf300 hXw297 hHB298 hRM299 (by omega) (by omega)
                          · refine fz_goto (tgt := 211) kX11_tries rfl (by decide) ?_
                            refine fz_iincN (ls' := [(6, fz_i (x37 + 1)), (8, fz_i z243), (7, fz_i (h 56 (x37.toNat))), (0, fz_r 53), (1, fz_i pe), (2, fz_i t), (3, fz_i hr), (4, fz_i 0), (5, fz_i su)]) kX11_tries rfl (by decide) rfl (by omega) rfl ?_
                            refine fz_goto (tgt := 79) kX11_tries rfl (by decide) ?_
                            refine fz_sub (fz_pk_sub (ls' := [(6, fz_i (x37 + 1)), (0, fz_r 53), (1, fz_i pe), (2, fz_i t), (3, fz_i hr), (4, fz_i 0), (5, fz_i su)]) [0, 3, 4, 5, 6, 7, 8] rfl) ?_
                            exact ih46 (x37 + 1) H250 hI254 hf261 hXw256 hHB257 hRM262 (by omega) (by omega)
                    · refine fz_goto (tgt := 211) kX11_tries rfl (by decide) ?_
                      refine fz_iincN (ls' := [(6, fz_i (x37 + 1)), (0, fz_r 53), (1, fz_i pe), (2, fz_i t), (3, fz_i hr), (4, fz_i 0), (5, fz_i su)]) kX11_tries rfl (by decide) rfl (by omega) rfl ?_
                      refine fz_goto (tgt := 79) kX11_tries rfl (by decide) ?_
                      exact ih46 (x37 + 1) H41 hI42 hf43 hXw38 hHB39 hRM40 (by omega) (by omega)
            exact lp45 _ 0 H27 hI28 hf29 hXw24 hHB25 hRM26 (by omega) (Nat.lt_succ_self _)
          · exfalso; omega
        · exfalso; omega
    exact lp31 _ 0 H13 hI14 hf15 hXw20 hHB21 hRM22 (by omega) (Nat.lt_succ_self _)
  · refine fz_iload kX11_tries rfl rfl ?_
    refine fz_aload_n kX11_tries rfl rfl ?_
    refine fz_getV (v := h 53 54) kX11_tries rfl rfl rfl ?_
    refine fz_icmp_ne (tgt := 69) kX11_tries rfl (by decide) (fun c302 => ?_) (fun c302 => ?_)
    · refine fz_iload kX11_tries rfl rfl ?_
      refine fz_iconst ⟨by decide, by decide⟩ kX11_tries rfl ?_
      refine fz_icmp_ne (tgt := 76) kX11_tries rfl (by decide) (fun c303 => ?_) (fun c303 => ?_)
      · refine fz_iconst ⟨by decide, by decide⟩ kX11_tries rfl ?_
        refine fz_istore (ls' := [(6, fz_i 0), (0, fz_r 53), (1, fz_i pe), (2, fz_i t), (3, fz_i hr), (4, fz_i 0), (5, fz_i su)]) kX11_tries rfl (by decide) rfl ?_
        have lp312 : ∀ (n311 : Nat) (x304 : Int) (H308 : fz_H), fz_Iv H308 → fz_fr [(53, 54), (53, 55), (74, 99999), (75, 99999), (89, 99999), (90, 99999)] h H308 → fz_Xw H308 → fl_HB H308 → fz_RM H308 → (0 ≤ x304 ∧ x304 ≤ 2147483647) → ((h 53 2) - x304).toNat < n311 → fz_R 8 mX11_tries 79 [(6, fz_i x304), (0, fz_r 53), (1, fz_i pe), (2, fz_i t), (3, fz_i hr), (4, fz_i 0), (5, fz_i su)] [] H308 (qX11_tries_0 h pe t hr su) := by
          intro n311
          induction n311 with
          | zero => intro x304 H308 hI309 hf310 hXw305 hHB306 hRM307 hv315 hm314; exact absurd hm314 (by omega)
          | succ n311 ih313 =>
            intro x304 H308 hI309 hf310 hXw305 hHB306 hRM307 hv315 hm314
            refine fz_iload kX11_tries rfl rfl ?_
            refine fz_aload_n kX11_tries rfl rfl ?_
            refine fz_getV (v := h 53 2) kX11_tries rfl rfl (hf310 53 2 rfl) ?_
            have b316 : 0 ≤ h 53 2 ∧ h 53 2 ≤ 12 := hI.1 53 _
            refine fz_icmp_ge (tgt := 217) kX11_tries rfl (by decide) (fun c317 => ?_) (fun c317 => ?_)
            · exact fz_vret kX11_tries rfl rfl ⟨hI309, hf310, hXw305, hHB306, hRM307, rfl⟩
            · refine fz_aload_n kX11_tries rfl rfl ?_
              refine fz_getR (t := 55) kX11_tries rfl rfl ?_
              refine fz_iload kX11_tries rfl rfl ?_
              refine fz_ialdV (n := 12) (v := h 55 (x304.toNat)) kX11_tries rfl rfl (by omega) (by omega) (hf310 55 _ rfl) ?_
              have b318 : 0 ≤ h 55 (x304.toNat) ∧ h 55 (x304.toNat) ≤ 7 := hI.1 55 _
              refine fz_iload_n kX11_tries rfl rfl ?_
              refine fz_icmp_eq (tgt := 113) kX11_tries rfl (by decide) (fun c319 => ?_) (fun c319 => ?_)
              · refine fz_aload_n kX11_tries rfl rfl ?_
                refine fz_getR (t := 55) kX11_tries rfl rfl ?_
                refine fz_iload kX11_tries rfl rfl ?_
                refine fz_ialdV (n := 12) (v := h 55 (x304.toNat)) kX11_tries rfl rfl (by omega) (by omega) (hf310 55 _ rfl) ?_
                refine fz_iload_n kX11_tries rfl rfl ?_
                refine fz_icmp_ne (tgt := 134) kX11_tries rfl (by decide) (fun c320 => ?_) (fun c320 => ?_)
                · refine fz_aload_n kX11_tries rfl rfl ?_
                  refine fz_getR (t := 55) kX11_tries rfl rfl ?_
                  refine fz_iload kX11_tries rfl rfl ?_
                  refine fz_ialdV (n := 12) (v := h 55 (x304.toNat)) kX11_tries rfl rfl (by omega) (by omega) (hf310 55 _ rfl) ?_
                  have k321 := hRM (x304).toNat (by omega)
                  refine fz_istore (ls' := [(7, fz_i (h 55 (x304.toNat))), (6, fz_i x304), (0, fz_r 53), (1, fz_i pe), (2, fz_i t), (3, fz_i hr), (4, fz_i 0), (5, fz_i su)]) kX11_tries rfl (by decide) rfl ?_
                  refine fz_iload_n kX11_tries rfl rfl ?_
                  refine fz_aload_n kX11_tries rfl rfl ?_
                  refine fz_getR (t := 57) kX11_tries rfl rfl ?_
                  refine fz_iload kX11_tries rfl rfl ?_
                  refine fz_ialdV (n := 12) (v := h 57 (x304.toNat)) kX11_tries rfl rfl (by omega) (by omega) (hf310 57 _ rfl) ?_
                  have b322 : 0 ≤ h 57 (x304.toNat) ∧ h 57 (x304.toNat) ≤ 24 := hI.1 57 _
                  refine fz_iadd kX11_tries rfl ?_
                  refine fz_nmw (fun z323 e324 => ?_)
                  refine fz_istore (ls' := [(8, fz_i z323), (7, fz_i (h 55 (x304.toNat))), (6, fz_i x304), (0, fz_r 53), (1, fz_i pe), (2, fz_i t), (3, fz_i hr), (4, fz_i 0), (5, fz_i su)]) kX11_tries rfl (by decide) rfl ?_
                  refine fz_iload kX11_tries rfl rfl ?_
                  refine fz_sipush ⟨by decide, by decide⟩ kX11_tries rfl ?_
                  refine fz_icmp_gt (tgt := 211) kX11_tries rfl (by decide) (fun c325 => ?_) (fun c325 => ?_)
                  · refine fz_iincN (ls' := [(6, fz_i (x304 + 1)), (8, fz_i z323), (7, fz_i (h 55 (x304.toNat))), (0, fz_r 53), (1, fz_i pe), (2, fz_i t), (3, fz_i hr), (4, fz_i 0), (5, fz_i su)]) kX11_tries rfl (by decide) rfl (by omega) rfl ?_
                    refine fz_goto (tgt := 79) kX11_tries rfl (by decide) ?_
                    refine fz_sub (fz_pk_sub (ls' := [(6, fz_i (x304 + 1)), (0, fz_r 53), (1, fz_i pe), (2, fz_i t), (3, fz_i hr), (4, fz_i 0), (5, fz_i su)]) [0, 3, 4, 5, 6, 7, 8] rfl) ?_
                    exact ih313 (x304 + 1) H308 hI309 hf310 hXw305 hHB306 hRM307 (by omega) (by omega)
                  · refine fz_aload_n kX11_tries rfl rfl ?_
                    refine fz_iload_n kX11_tries rfl rfl ?_
                    refine fz_iload kX11_tries rfl rfl ?_
                    refine fz_iload kX11_tries rfl rfl ?_
                    have b326 : 0 ≤ h 53 0 ∧ h 53 0 ≤ 8 := hI.1 53 _
                    have b327 : 0 ≤ h 53 8 ∧ h 53 8 ≤ 99 := hI.1 53 _
                    have e328 : H308 53 0 = h 53 0 := hf310 53 0 rfl
                    have e329 : H308 53 8 = h 53 8 := hf310 53 8 rfl
                    refine fz_callV (d' := 4) (M' := mX11_isArrested) (As := [fz_i pe, fz_i (h 55 (x304.toNat)), fz_i z323]) (st := []) kX11_tries rfl rfl vX11_isArrested rfl rfl rfl rfl (Nat.le_of_ble_eq_true rfl) (Nat.le_of_ble_eq_true rfl) (by decide) (sX11_isArrested H308 hI309 pe (h 55 (x304.toNat)) z323 hXw305 hHB306 (by omega) (by omega)) (fun H330 r331 q332 o333 => ?_)
                    obtain ⟨hI334, hf335, hXw336, hHB337, y339, rfl, p340, f338⟩ := q332
                    clear o333
                    have hf341 := fz_fr_tr hf310 hf335 (show fz_su [(74, 99999), (75, 99999)] [(53, 54), (53, 55), (74, 99999), (75, 99999), (89, 99999), (90, 99999)] = true from rfl)
                    have hRM342 : fz_RM H330 := fz_RM_eq (funext fun s => hf335 55 s rfl) (funext fun s => hf335 56 s rfl) (hf335 53 0 rfl) (hf335 53 2 rfl) hRM307
                    have t343 : H330 53 0 = H308 53 0 := hf335 53 0 rfl
                    refine fz_if_eq (tgt := 177) kX11_tries rfl (by decide) (fun c344 => ?_) (fun c344 => ?_)
                    · refine fz_aload_n kX11_tries rfl rfl ?_
                      refine fz_getR (t := 90) kX11_tries rfl rfl ?_
                      refine fz_iload kX11_tries rfl rfl ?_
                      refine fz_iload kX11_tries rfl rfl ?_
                      refine fz_iast (n := 4) kX11_tries rfl rfl (by omega) (by omega) ?_
                      refine fz_nmu (S := [(53, 54), (53, 55), (74, 99999), (75, 99999), (89, 99999), (90, 99999)]) (h0 := h) (fz_Iv_up hI334 (by decide) (show (0 : Int) ≤ (h 55 (x304.toNat)) by omega) (show ((h 55 (x304.toNat)) : Int) ≤ 7 by omega)) (fz_fr_up hf341 rfl) (fun H345 hI346 hf347 e348 => ?_)
                      have t349 : H345 53 0 = H330 53 0 := by rw [e348]; exact fz_up_o (by decide)
                      have hXw350 : fz_Xw H345 := fz_Xw_eq (by rw [e348]; exact fz_up_o (by decide)) (by rw [e348]; exact fz_up_ne (by decide)) (by rw [e348]; exact fz_up_ne (by decide)) (by rw [e348]; exact fz_up_ne (by decide)) (by rw [e348]; exact fz_up_ne (by decide)) hXw336
                      have hHB351 : fl_HB H345 := fl_HB_eq (by rw [e348]; exact fz_up_ne (by decide)) (by rw [e348]; exact fz_up_ne (by decide)) (by rw [e348]; exact fz_up_o (by decide)) (by rw [e348]; exact fz_up_o (by decide)) hHB337
                      have hRM352 : fz_RM H345 := fz_RM_eq (by rw [e348]; exact fz_up_ne (by decide)) (by rw [e348]; exact fz_up_ne (by decide)) (by rw [e348]; exact fz_up_o (by decide)) (by rw [e348]; exact fz_up_o (by decide)) hRM342
                      clear e348
                      refine fz_aload_n kX11_tries rfl rfl ?_
                      refine fz_iload_n kX11_tries rfl rfl ?_
                      refine fz_iload kX11_tries rfl rfl ?_
                      refine fz_iload kX11_tries rfl rfl ?_
                      refine fz_iload kX11_tries rfl rfl ?_
                      refine fz_iconst ⟨by decide, by decide⟩ kX11_tries rfl ?_
                      refine fz_iaddN kX11_tries rfl ⟨by decide, by decide⟩ ?_
                      refine fz_eqi (y := 1) rfl ?_
                      refine fz_iload kX11_tries rfl rfl ?_
                      refine fz_aload_n kX11_tries rfl rfl ?_
                      refine fz_iload_n kX11_tries rfl rfl ?_
                      refine fz_iload kX11_tries rfl rfl ?_
                      refine fz_iload kX11_tries rfl rfl ?_
                      have e353 : H345 53 0 = h 53 0 := hf347 53 0 rfl
                      refine fz_callV (d' := 4) (M' := mX11_receivedIn) (As := [fz_i pe, fz_i (h 55 (x304.toNat)), fz_i z323]) (st := [fz_i su, fz_i 1, fz_i z323, fz_i (h 55 (x304.toNat)), fz_i pe, fz_r 53]) kX11_tries rfl rfl vX11_receivedIn rfl rfl rfl rfl (Nat.le_of_ble_eq_true rfl) (Nat.le_of_ble_eq_true rfl) (by decide) (sX11_receivedIn H345 hI346 pe (h 55 (x304.toNat)) z323 hXw350 hHB351 (by omega) (by omega)) (fun H354 r355 q356 o357 => ?_)
                      obtain ⟨hI358, hf359, hXw360, hHB361, y364, rfl, f362, f363⟩ := q356
                      clear o357
                      have hf365 := fz_fr_tr hf347 hf359 (show fz_su [(74, 99999), (75, 99999)] [(53, 54), (53, 55), (74, 99999), (75, 99999), (89, 99999), (90, 99999)] = true from rfl)
                      have hRM366 : fz_RM H354 := fz_RM_eq (funext fun s => hf359 55 s rfl) (funext fun s => hf359 56 s rfl) (hf359 53 0 rfl) (hf359 53 2 rfl) hRM352
                      have t367 : H354 53 0 = H345 53 0 := hf359 53 0 rfl
                      refine fz_iadd kX11_tries rfl ?_
                      refine fz_nmw (fun z368 e369 => ?_)
                      have e370 : H354 53 0 = h 53 0 := hf365 53 0 rfl
                      refine fz_callV (d' := 7) (M' := mX11_tries) (As := [fz_i pe, fz_i (h 55 (x304.toNat)), fz_i z323, fz_i 1, fz_i z368]) (st := []) kX11_tries rfl rfl vX11_tries rfl rfl rfl rfl (Nat.le_of_ble_eq_true rfl) (Nat.le_of_ble_eq_true rfl) (by decide) (sX11_tries_1 H354 hI358 pe (h 55 (x304.toNat)) z323 z368 hXw360 hHB361 hRM366 (by omega) (by omega)) (fun H371 r372 q373 o374 => ?_)
                      obtain ⟨hI375, hf376, hXw377, hHB378, hRM379, rfl⟩ := q373
                      clear o374
                      have hf380 := fz_fr_tr hf365 hf376 (show fz_su [(53, 54), (53, 55), (74, 99999), (75, 99999), (89, 99999), (90, 99999)] [(53, 54), (53, 55), (74, 99999), (75, 99999), (89, 99999), (90, 99999)] = true from rfl)
                      have t381 : H371 53 0 = H354 53 0 := hf376 53 0 rfl
                      refine fz_iincN (ls' := [(6, fz_i (x304 + 1)), (8, fz_i z323), (7, fz_i (h 55 (x304.toNat))), (0, fz_r 53), (1, fz_i pe), (2, fz_i t), (3, fz_i hr), (4, fz_i 0), (5, fz_i su)]) kX11_tries rfl (by decide) rfl (by omega) rfl ?_
                      refine fz_goto (tgt := 79) kX11_tries rfl (by decide) ?_
                      refine fz_sub (fz_pk_sub (ls' := [(6, fz_i (x304 + 1)), (0, fz_r 53), (1, fz_i pe), (2, fz_i t), (3, fz_i hr), (4, fz_i 0), (5, fz_i su)]) [0, 3, 4, 5, 6, 7, 8] rfl) ?_
                      exact ih313 (x304 + 1) H371 hI375 hf380 hXw377 hHB378 hRM379 (by omega) (by omega)
                    · refine fz_goto (tgt := 211) kX11_tries rfl (by decide) ?_
                      refine fz_iincN (ls' := [(6, fz_i (x304 + 1)), (8, fz_i z323), (7, fz_i (h 55 (x304.toNat))), (0, fz_r 53), (1, fz_i pe), (2, fz_i t), (3, fz_i hr), (4, fz_i 0), (5, fz_i su)]) kX11_tries rfl (by decide) rfl (by omega) rfl ?_
                      refine fz_goto (tgt := 79) kX11_tries rfl (by decide) ?_
                      refine fz_sub (fz_pk_sub (ls' := [(6, fz_i (x304 + 1)), (0, fz_r 53), (1, fz_i pe), (2, fz_i t), (3, fz_i hr), (4, fz_i 0), (5, fz_i su)]) [0, 3, 4, 5, 6, 7, 8] rfl) ?_
                      exact ih313 (x304 + 1) H330 hI334 hf341 hXw336 hHB337 hRM342 (by omega) (by omega)
                · refine fz_aload_n kX11_tries rfl rfl ?_
                  refine fz_getR (t := 56) kX11_tries rfl rfl ?_
                  refine fz_iload kX11_tries rfl rfl ?_
                  refine fz_ialdV (n := 12) (v := h 56 (x304.toNat)) kX11_tries rfl rfl (by omega) (by omega) (hf310 56 _ rfl) ?_
                  have b382 : 0 ≤ h 56 (x304.toNat) ∧ h 56 (x304.toNat) ≤ 7 := hI.1 56 _
                  refine fz_goto (tgt := 141) kX11_tries rfl (by decide) ?_
                  have k383 := hRM (x304).toNat (by omega)
                  refine fz_istore (ls' := [(7, fz_i (h 56 (x304.toNat))), (6, fz_i x304), (0, fz_r 53), (1, fz_i pe), (2, fz_i t), (3, fz_i hr), (4, fz_i 0), (5, fz_i su)]) kX11_tries rfl (by decide) rfl ?_
                  refine fz_iload_n kX11_tries rfl rfl ?_
                  refine fz_aload_n kX11_tries rfl rfl ?_
                  refine fz_getR (t := 57) kX11_tries rfl rfl ?_
                  refine fz_iload kX11_tries rfl rfl ?_
                  refine fz_ialdV (n := 12) (v := h 57 (x304.toNat)) kX11_tries rfl rfl (by omega) (by omega) (hf310 57 _ rfl) ?_
                  have b384 : 0 ≤ h 57 (x304.toNat) ∧ h 57 (x304.toNat) ≤ 24 := hI.1 57 _
                  refine fz_iadd kX11_tries rfl ?_
                  refine fz_nmw (fun z385 e386 => ?_)
                  refine fz_istore (ls' := [(8, fz_i z385), (7, fz_i (h 56 (x304.toNat))), (6, fz_i x304), (0, fz_r 53), (1, fz_i pe), (2, fz_i t), (3, fz_i hr), (4, fz_i 0), (5, fz_i su)]) kX11_tries rfl (by decide) rfl ?_
                  refine fz_iload kX11_tries rfl rfl ?_
                  refine fz_sipush ⟨by decide, by decide⟩ kX11_tries rfl ?_
                  refine fz_icmp_gt (tgt := 211) kX11_tries rfl (by decide) (fun c387 => ?_) (fun c387 => ?_)
                  · refine fz_iincN (ls' := [(6, fz_i (x304 + 1)), (8, fz_i z385), (7, fz_i (h 56 (x304.toNat))), (0, fz_r 53), (1, fz_i pe), (2, fz_i t), (3, fz_i hr), (4, fz_i 0), (5, fz_i su)]) kX11_tries rfl (by decide) rfl (by omega) rfl ?_
                    refine fz_goto (tgt := 79) kX11_tries rfl (by decide) ?_
                    refine fz_sub (fz_pk_sub (ls' := [(6, fz_i (x304 + 1)), (0, fz_r 53), (1, fz_i pe), (2, fz_i t), (3, fz_i hr), (4, fz_i 0), (5, fz_i su)]) [0, 3, 4, 5, 6, 7, 8] rfl) ?_
                    exact ih313 (x304 + 1) H308 hI309 hf310 hXw305 hHB306 hRM307 (by omega) (by omega)
                  · refine fz_aload_n kX11_tries rfl rfl ?_
                    refine fz_iload_n kX11_tries rfl rfl ?_
                    refine fz_iload kX11_tries rfl rfl ?_
                    refine fz_iload kX11_tries rfl rfl ?_
                    have b388 : 0 ≤ h 53 0 ∧ h 53 0 ≤ 8 := hI.1 53 _
                    have b389 : 0 ≤ h 53 8 ∧ h 53 8 ≤ 99 := hI.1 53 _
                    have e390 : H308 53 0 = h 53 0 := hf310 53 0 rfl
                    have e391 : H308 53 8 = h 53 8 := hf310 53 8 rfl
                    refine fz_callV (d' := 4) (M' := mX11_isArrested) (As := [fz_i pe, fz_i (h 56 (x304.toNat)), fz_i z385]) (st := []) kX11_tries rfl rfl vX11_isArrested rfl rfl rfl rfl (Nat.le_of_ble_eq_true rfl) (Nat.le_of_ble_eq_true rfl) (by decide) (sX11_isArrested H308 hI309 pe (h 56 (x304.toNat)) z385 hXw305 hHB306 (by omega) (by omega)) (fun H392 r393 q394 o395 => ?_)
                    obtain ⟨hI396, hf397, hXw398, hHB399, y401, rfl, p402, f400⟩ := q394
                    clear o395
                    have hf403 := fz_fr_tr hf310 hf397 (show fz_su [(74, 99999), (75, 99999)] [(53, 54), (53, 55), (74, 99999), (75, 99999), (89, 99999), (90, 99999)] = true from rfl)
                    have hRM404 : fz_RM H392 := fz_RM_eq (funext fun s => hf397 55 s rfl) (funext fun s => hf397 56 s rfl) (hf397 53 0 rfl) (hf397 53 2 rfl) hRM307
                    have t405 : H392 53 0 = H308 53 0 := hf397 53 0 rfl
                    refine fz_if_eq (tgt := 177) kX11_tries rfl (by decide) (fun c406 => ?_) (fun c406 => ?_)
                    · refine fz_aload_n kX11_tries rfl rfl ?_
                      refine fz_getR (t := 90) kX11_tries rfl rfl ?_
                      refine fz_iload kX11_tries rfl rfl ?_
                      refine fz_iload kX11_tries rfl rfl ?_
                      refine fz_iast (n := 4) kX11_tries rfl rfl (by omega) (by omega) ?_
                      refine fz_nmu (S := [(53, 54), (53, 55), (74, 99999), (75, 99999), (89, 99999), (90, 99999)]) (h0 := h) (fz_Iv_up hI396 (by decide) (show (0 : Int) ≤ (h 56 (x304.toNat)) by omega) (show ((h 56 (x304.toNat)) : Int) ≤ 7 by omega)) (fz_fr_up hf403 rfl) (fun H407 hI408 hf409 e410 => ?_)
                      have t411 : H407 53 0 = H392 53 0 := by rw [e410]; exact fz_up_o (by decide)
                      have hXw412 : fz_Xw H407 := fz_Xw_eq (by rw [e410]; exact fz_up_o (by decide)) (by rw [e410]; exact fz_up_ne (by decide)) (by rw [e410]; exact fz_up_ne (by decide)) (by rw [e410]; exact fz_up_ne (by decide)) (by rw [e410]; exact fz_up_ne (by decide)) hXw398
                      have hHB413 : fl_HB H407 := fl_HB_eq (by rw [e410]; exact fz_up_ne (by decide)) (by rw [e410]; exact fz_up_ne (by decide)) (by rw [e410]; exact fz_up_o (by decide)) (by rw [e410]; exact fz_up_o (by decide)) hHB399
                      have hRM414 : fz_RM H407 := fz_RM_eq (by rw [e410]; exact fz_up_ne (by decide)) (by rw [e410]; exact fz_up_ne (by decide)) (by rw [e410]; exact fz_up_o (by decide)) (by rw [e410]; exact fz_up_o (by decide)) hRM404
                      clear e410
                      refine fz_aload_n kX11_tries rfl rfl ?_
                      refine fz_iload_n kX11_tries rfl rfl ?_
                      refine fz_iload kX11_tries rfl rfl ?_
                      refine fz_iload kX11_tries rfl rfl ?_
                      refine fz_iload kX11_tries rfl rfl ?_
                      refine fz_iconst ⟨by decide, by decide⟩ kX11_tries rfl ?_
                      refine fz_iaddN kX11_tries rfl ⟨by decide, by decide⟩ ?_
                      refine fz_eqi (y := 1) rfl ?_
                      refine fz_iload kX11_tries rfl rfl ?_
                      refine fz_aload_n kX11_tries rfl rfl ?_
                      refine fz_iload_n kX11_tries rfl rfl ?_
                      refine fz_iload kX11_tries rfl rfl ?_
                      refine fz_iload kX11_tries rfl rfl ?_
                      have e415 : H407 53 0 = h 53 0 := hf409 53 0 rfl
                      refine fz_callV (d' := 4) (M' := mX11_receivedIn) (As := [fz_i pe, fz_i (h 56 (x304.toNat)), fz_i z385]) (st := [fz_i su, fz_i 1, fz_i z385, fz_i (h 56 (x304.toNat)), fz_i pe, fz_r 53]) kX11_tries rfl rfl vX11_receivedIn rfl rfl rfl rfl (Nat.le_of_ble_eq_true rfl) (Nat.le_of_ble_eq_true rfl) (by decide) (sX11_receivedIn H407 hI408 pe (h 56 (x304.toNat)) z385 hXw412 hHB413 (by omega) (by omega)) (fun H416 r417 q418 o419 => ?_)
                      obtain ⟨hI420, hf421, hXw422, hHB423, y426, rfl, f424, f425⟩ := q418
                      clear o419
                      have hf427 := fz_fr_tr hf409 hf421 (show fz_su [(74, 99999), (75, 99999)] [(53, 54), (53, 55), (74, 99999), (75, 99999), (89, 99999), (90, 99999)] = true from rfl)
                      have hRM428 : fz_RM H416 := fz_RM_eq (funext fun s => hf421 55 s rfl) (funext fun s => hf421 56 s rfl) (hf421 53 0 rfl) (hf421 53 2 rfl) hRM414
                      have t429 : H416 53 0 = H407 53 0 := hf421 53 0 rfl
                      refine fz_iadd kX11_tries rfl ?_
                      refine fz_nmw (fun z430 e431 => ?_)
                      have e432 : H416 53 0 = h 53 0 := hf427 53 0 rfl
                      refine fz_callV (d' := 7) (M' := mX11_tries) (As := [fz_i pe, fz_i (h 56 (x304.toNat)), fz_i z385, fz_i 1, fz_i z430]) (st := []) kX11_tries rfl rfl vX11_tries rfl rfl rfl rfl (Nat.le_of_ble_eq_true rfl) (Nat.le_of_ble_eq_true rfl) (by decide) (sX11_tries_1 H416 hI420 pe (h 56 (x304.toNat)) z385 z430 hXw422 hHB423 hRM428 (by omega) (by omega)) (fun H433 r434 q435 o436 => ?_)
                      obtain ⟨hI437, hf438, hXw439, hHB440, hRM441, rfl⟩ := q435
                      clear o436
                      have hf442 := fz_fr_tr hf427 hf438 (show fz_su [(53, 54), (53, 55), (74, 99999), (75, 99999), (89, 99999), (90, 99999)] [(53, 54), (53, 55), (74, 99999), (75, 99999), (89, 99999), (90, 99999)] = true from rfl)
                      have t443 : H433 53 0 = H416 53 0 := hf438 53 0 rfl
                      refine fz_iincN (ls' := [(6, fz_i (x304 + 1)), (8, fz_i z385), (7, fz_i (h 56 (x304.toNat))), (0, fz_r 53), (1, fz_i pe), (2, fz_i t), (3, fz_i hr), (4, fz_i 0), (5, fz_i su)]) kX11_tries rfl (by decide) rfl (by omega) rfl ?_
                      refine fz_goto (tgt := 79) kX11_tries rfl (by decide) ?_
                      refine fz_sub (fz_pk_sub (ls' := [(6, fz_i (x304 + 1)), (0, fz_r 53), (1, fz_i pe), (2, fz_i t), (3, fz_i hr), (4, fz_i 0), (5, fz_i su)]) [0, 3, 4, 5, 6, 7, 8] rfl) ?_
                      exact ih313 (x304 + 1) H433 hI437 hf442 hXw439 hHB440 hRM441 (by omega) (by omega)
                    · refine fz_goto (tgt := 211) kX11_tries rfl (by decide) ?_
                      refine fz_iincN (ls' := [(6, fz_i (x304 + 1)), (8, fz_i z385), (7, fz_i (h 56 (x304.toNat))), (0, fz_r 53), (1, fz_i pe), (2, fz_i t), (3, fz_i hr), (4, fz_i 0), (5, fz_i su)]) kX11_tries rfl (by decide) rfl (by omega) rfl ?_
                      refine fz_goto (tgt := 79) kX11_tries rfl (by decide) ?_
                      refine fz_sub (fz_pk_sub (ls' := [(6, fz_i (x304 + 1)), (0, fz_r 53), (1, fz_i pe), (2, fz_i t), (3, fz_i hr), (4, fz_i 0), (5, fz_i su)]) [0, 3, 4, 5, 6, 7, 8] rfl) ?_
                      exact ih313 (x304 + 1) H392 hI396 hf403 hXw398 hHB399 hRM404 (by omega) (by omega)
              · refine fz_aload_n kX11_tries rfl rfl ?_
                refine fz_getR (t := 56) kX11_tries rfl rfl ?_
                refine fz_iload kX11_tries rfl rfl ?_
                refine fz_ialdV (n := 12) (v := h 56 (x304.toNat)) kX11_tries rfl rfl (by omega) (by omega) (hf310 56 _ rfl) ?_
                have b444 : 0 ≤ h 56 (x304.toNat) ∧ h 56 (x304.toNat) ≤ 7 := hI.1 56 _
                refine fz_iload_n kX11_tries rfl rfl ?_
                refine fz_icmp_eq (tgt := 113) kX11_tries rfl (by decide) (fun c445 => ?_) (fun c445 => ?_)
                · refine fz_aload_n kX11_tries rfl rfl ?_
                  refine fz_getR (t := 55) kX11_tries rfl rfl ?_
                  refine fz_iload kX11_tries rfl rfl ?_
                  refine fz_ialdV (n := 12) (v := h 55 (x304.toNat)) kX11_tries rfl rfl (by omega) (by omega) (hf310 55 _ rfl) ?_
                  refine fz_iload_n kX11_tries rfl rfl ?_
                  refine fz_icmp_ne (tgt := 134) kX11_tries rfl (by decide) (fun c446 => ?_) (fun c446 => ?_)
                  · refine fz_aload_n kX11_tries rfl rfl ?_
                    refine fz_getR (t := 55) kX11_tries rfl rfl ?_
                    refine fz_iload kX11_tries rfl rfl ?_
                    refine fz_ialdV (n := 12) (v := h 55 (x304.toNat)) kX11_tries rfl rfl (by omega) (by omega) (hf310 55 _ rfl) ?_
                    have k447 := hRM (x304).toNat (by omega)
                    refine fz_istore (ls' := [(7, fz_i (h 55 (x304.toNat))), (6, fz_i x304), (0, fz_r 53), (1, fz_i pe), (2, fz_i t), (3, fz_i hr), (4, fz_i 0), (5, fz_i su)]) kX11_tries rfl (by decide) rfl ?_
                    refine fz_iload_n kX11_tries rfl rfl ?_
                    refine fz_aload_n kX11_tries rfl rfl ?_
                    refine fz_getR (t := 57) kX11_tries rfl rfl ?_
                    refine fz_iload kX11_tries rfl rfl ?_
                    refine fz_ialdV (n := 12) (v := h 57 (x304.toNat)) kX11_tries rfl rfl (by omega) (by omega) (hf310 57 _ rfl) ?_
                    have b448 : 0 ≤ h 57 (x304.toNat) ∧ h 57 (x304.toNat) ≤ 24 := hI.1 57 _
                    refine fz_iadd kX11_tries rfl ?_
                    refine fz_nmw (fun z449 e450 => ?_)
                    refine fz_istore (ls' := [(8, fz_i z449), (7, fz_i (h 55 (x304.toNat))), (6, fz_i x304), (0, fz_r 53), (1, fz_i pe), (2, fz_i t), (3, fz_i hr), (4, fz_i 0), (5, fz_i su)]) kX11_tries rfl (by decide) rfl ?_
                    refine fz_iload kX11_tries rfl rfl ?_
                    refine fz_sipush ⟨by decide, by decide⟩ kX11_tries rfl ?_
                    refine fz_icmp_gt (tgt := 211) kX11_tries rfl (by decide) (fun c451 => ?_) (fun c451 => ?_)
                    · refine fz_iincN (ls' := [(6, fz_i (x304 + 1)), (8, fz_i z449), (7, fz_i (h 55 (x304.toNat))), (0, fz_r 53), (1, fz_i pe), (2, fz_i t), (3, fz_i hr), (4, fz_i 0), (5, fz_i su)]) kX11_tries rfl (by decide) rfl (by omega) rfl ?_
                      refine fz_goto (tgt := 79) kX11_tries rfl (by decide) ?_
                      refine fz_sub (fz_pk_sub (ls' := [(6, fz_i (x304 + 1)), (0, fz_r 53), (1, fz_i pe), (2, fz_i t), (3, fz_i hr), (4, fz_i 0), (5, fz_i su)]) [0, 3, 4, 5, 6, 7, 8] rfl) ?_
                      exact ih313 (x304 + 1) H308 hI309 hf310 hXw305 hHB306 hRM307 (by omega) (by omega)
                    · refine fz_aload_n kX11_tries rfl rfl ?_
                      refine fz_iload_n kX11_tries rfl rfl ?_
                      refine fz_iload kX11_tries rfl rfl ?_
                      refine fz_iload kX11_tries rfl rfl ?_
                      have b452 : 0 ≤ h 53 0 ∧ h 53 0 ≤ 8 := hI.1 53 _
                      have b453 : 0 ≤ h 53 8 ∧ h 53 8 ≤ 99 := hI.1 53 _
                      have e454 : H308 53 0 = h 53 0 := hf310 53 0 rfl
                      have e455 : H308 53 8 = h 53 8 := hf310 53 8 rfl
                      refine fz_callV (d' := 4) (M' := mX11_isArrested) (As := [fz_i pe, fz_i (h 55 (x304.toNat)), fz_i z449]) (st := []) kX11_tries rfl rfl vX11_isArrested rfl rfl rfl rfl (Nat.le_of_ble_eq_true rfl) (Nat.le_of_ble_eq_true rfl) (by decide) (sX11_isArrested H308 hI309 pe (h 55 (x304.toNat)) z449 hXw305 hHB306 (by omega) (by omega)) (fun H456 r457 q458 o459 => ?_)
                      obtain ⟨hI460, hf461, hXw462, hHB463, y465, rfl, p466, f464⟩ := q458
                      clear o459
                      have hf467 := fz_fr_tr hf310 hf461 (show fz_su [(74, 99999), (75, 99999)] [(53, 54), (53, 55), (74, 99999), (75, 99999), (89, 99999), (90, 99999)] = true from rfl)
                      have hRM468 : fz_RM H456 := fz_RM_eq (funext fun s => hf461 55 s rfl) (funext fun s => hf461 56 s rfl) (hf461 53 0 rfl) (hf461 53 2 rfl) hRM307
                      have t469 : H456 53 0 = H308 53 0 := hf461 53 0 rfl
                      refine fz_if_eq (tgt := 177) kX11_tries rfl (by decide) (fun c470 => ?_) (fun c470 => ?_)
                      · refine fz_aload_n kX11_tries rfl rfl ?_
                        refine fz_getR (t := 90) kX11_tries rfl rfl ?_
                        refine fz_iload kX11_tries rfl rfl ?_
                        refine fz_iload kX11_tries rfl rfl ?_
                        refine fz_iast (n := 4) kX11_tries rfl rfl (by omega) (by omega) ?_
                        refine fz_nmu (S := [(53, 54), (53, 55), (74, 99999), (75, 99999), (89, 99999), (90, 99999)]) (h0 := h) (fz_Iv_up hI460 (by decide) (show (0 : Int) ≤ (h 55 (x304.toNat)) by omega) (show ((h 55 (x304.toNat)) : Int) ≤ 7 by omega)) (fz_fr_up hf467 rfl) (fun H471 hI472 hf473 e474 => ?_)
                        have t475 : H471 53 0 = H456 53 0 := by rw [e474]; exact fz_up_o (by decide)
                        have hXw476 : fz_Xw H471 := fz_Xw_eq (by rw [e474]; exact fz_up_o (by decide)) (by rw [e474]; exact fz_up_ne (by decide)) (by rw [e474]; exact fz_up_ne (by decide)) (by rw [e474]; exact fz_up_ne (by decide)) (by rw [e474]; exact fz_up_ne (by decide)) hXw462
                        have hHB477 : fl_HB H471 := fl_HB_eq (by rw [e474]; exact fz_up_ne (by decide)) (by rw [e474]; exact fz_up_ne (by decide)) (by rw [e474]; exact fz_up_o (by decide)) (by rw [e474]; exact fz_up_o (by decide)) hHB463
                        have hRM478 : fz_RM H471 := fz_RM_eq (by rw [e474]; exact fz_up_ne (by decide)) (by rw [e474]; exact fz_up_ne (by decide)) (by rw [e474]; exact fz_up_o (by decide)) (by rw [e474]; exact fz_up_o (by decide)) hRM468
                        clear e474
                        refine fz_aload_n kX11_tries rfl rfl ?_
                        refine fz_iload_n kX11_tries rfl rfl ?_
                        refine fz_iload kX11_tries rfl rfl ?_
                        refine fz_iload kX11_tries rfl rfl ?_
                        refine fz_iload kX11_tries rfl rfl ?_
                        refine fz_iconst ⟨by decide, by decide⟩ kX11_tries rfl ?_
                        refine fz_iaddN kX11_tries rfl ⟨by decide, by decide⟩ ?_
                        refine fz_eqi (y := 1) rfl ?_
                        refine fz_iload kX11_tries rfl rfl ?_
                        refine fz_aload_n kX11_tries rfl rfl ?_
                        refine fz_iload_n kX11_tries rfl rfl ?_
                        refine fz_iload kX11_tries rfl rfl ?_
                        refine fz_iload kX11_tries rfl rfl ?_
                        have e479 : H471 53 0 = h 53 0 := hf473 53 0 rfl
                        refine fz_callV (d' := 4) (M' := mX11_receivedIn) (As := [fz_i pe, fz_i (h 55 (x304.toNat)), fz_i z449]) (st := [fz_i su, fz_i 1, fz_i z449, fz_i (h 55 (x304.toNat)), fz_i pe, fz_r 53]) kX11_tries rfl rfl vX11_receivedIn rfl rfl rfl rfl (Nat.le_of_ble_eq_true rfl) (Nat.le_of_ble_eq_true rfl) (by decide) (sX11_receivedIn H471 hI472 pe (h 55 (x304.toNat)) z449 hXw476 hHB477 (by omega) (by omega)) (fun H480 r481 q482 o483 => ?_)
                        obtain ⟨hI484, hf485, hXw486, hHB487, y490, rfl, f488, f489⟩ := q482
                        clear o483
                        have hf491 := fz_fr_tr hf473 hf485 (show fz_su [(74, 99999), (75, 99999)] [(53, 54), (53, 55), (74, 99999), (75, 99999), (89, 99999), (90, 99999)] = true from rfl)
                        have hRM492 : fz_RM H480 := fz_RM_eq (funext fun s => hf485 55 s rfl) (funext fun s => hf485 56 s rfl) (hf485 53 0 rfl) (hf485 53 2 rfl) hRM478
                        have t493 : H480 53 0 = H471 53 0 := hf485 53 0 rfl
                        refine fz_iadd kX11_tries rfl ?_
                        refine fz_nmw (fun z494 e495 => ?_)
                        have e496 : H480 53 0 = h 53 0 := hf491 53 0 rfl
                        refine fz_callV (d' := 7) (M' := mX11_tries) (As := [fz_i pe, fz_i (h 55 (x304.toNat)), fz_i z449, fz_i 1, fz_i z494]) (st := []) kX11_tries rfl rfl vX11_tries rfl rfl rfl rfl (Nat.le_of_ble_eq_true rfl) (Nat.le_of_ble_eq_true rfl) (by decide) (sX11_tries_1 H480 hI484 pe (h 55 (x304.toNat)) z449 z494 hXw486 hHB487 hRM492 (by omega) (by omega)) (fun H497 r498 q499 o500 => ?_)
                        obtain ⟨hI501, hf502, hXw503, hHB504, hRM505, rfl⟩ := q499
                        clear o500
                        have hf506 := fz_fr_tr hf491 hf502 (show fz_su [(53, 54), (53, 55), (74, 99999), (75, 99999), (89, 99999), (90, 99999)] [(53, 54), (53, 55), (74, 99999), (75, 99999), (89, 99999), (90, 99999)] = true from rfl)
                        have t507 : H497 53 0 = H480 53 0 := hf502 53 0 rfl
                        refine fz_iincN (ls' := [(6, fz_i (x304 + 1)), (8, fz_i z449), (7, fz_i (h 55 (x304.toNat))), (0, fz_r 53), (1, fz_i pe), (2, fz_i t), (3, fz_i hr), (4, fz_i 0), (5, fz_i su)]) kX11_tries rfl (by decide) rfl (by omega) rfl ?_
                        refine fz_goto (tgt := 79) kX11_tries rfl (by decide) ?_
                        refine fz_sub (fz_pk_sub (ls' := [(6, fz_i (x304 + 1)), (0, fz_r 53), (1, fz_i pe), (2, fz_i t), (3, fz_i hr), (4, fz_i 0), (5, fz_i su)]) [0, 3, 4, 5, 6, 7, 8] rfl) ?_
                        exact ih313 (x304 + 1) H497 hI501 hf506 hXw503 hHB504 hRM505 (by omega) (by omega)
                      · refine fz_goto (tgt := 211) kX11_tries rfl (by decide) ?_
                        refine fz_iincN (ls' := [(6, fz_i (x304 + 1)), (8, fz_i z449), (7, fz_i (h 55 (x304.toNat))), (0, fz_r 53), (1, fz_i pe), (2, fz_i t), (3, fz_i hr), (4, fz_i 0), (5, fz_i su)]) kX11_tries rfl (by decide) rfl (by omega) rfl ?_
                        refine fz_goto (tgt := 79) kX11_tries rfl (by decide) ?_
                        refine fz_sub (fz_pk_sub (ls' := [(6, fz_i (x304 + 1)), (0, fz_r 53), (1, fz_i pe), (2, fz_i t), (3, fz_i hr), (4, fz_i 0), (5, fz_i su)]) [0, 3, 4, 5, 6, 7, 8] rfl) ?_
                        exact ih313 (x304 + 1) H456 hI460 hf467 hXw462 hHB463 hRM468 (by omega) (by omega)
                  · refine fz_aload_n kX11_tries rfl rfl ?_
                    refine fz_getR (t := 56) kX11_tries rfl rfl ?_
                    refine fz_iload kX11_tries rfl rfl ?_
                    refine fz_ialdV (n := 12) (v := h 56 (x304.toNat)) kX11_tries rfl rfl (by omega) (by omega) (hf310 56 _ rfl) ?_
                    refine fz_goto (tgt := 141) kX11_tries rfl (by decide) ?_
                    have k508 := hRM (x304).toNat (by omega)
                    refine fz_istore (ls' := [(7, fz_i (h 56 (x304.toNat))), (6, fz_i x304), (0, fz_r 53), (1, fz_i pe), (2, fz_i t), (3, fz_i hr), (4, fz_i 0), (5, fz_i su)]) kX11_tries rfl (by decide) rfl ?_
                    refine fz_iload_n kX11_tries rfl rfl ?_
                    refine fz_aload_n kX11_tries rfl rfl ?_
                    refine fz_getR (t := 57) kX11_tries rfl rfl ?_
                    refine fz_iload kX11_tries rfl rfl ?_
                    refine fz_ialdV (n := 12) (v := h 57 (x304.toNat)) kX11_tries rfl rfl (by omega) (by omega) (hf310 57 _ rfl) ?_
                    have b509 : 0 ≤ h 57 (x304.toNat) ∧ h 57 (x304.toNat) ≤ 24 := hI.1 57 _
                    refine fz_iadd kX11_tries rfl ?_
                    refine fz_nmw (fun z510 e511 => ?_)
                    refine fz_istore (ls' := [(8, fz_i z510), (7, fz_i (h 56 (x304.toNat))), (6, fz_i x304), (0, fz_r 53), (1, fz_i pe), (2, fz_i t), (3, fz_i hr), (4, fz_i 0), (5, fz_i su)]) kX11_tries rfl (by decide) rfl ?_
                    refine fz_iload kX11_tries rfl rfl ?_
                    refine fz_sipush ⟨by decide, by decide⟩ kX11_tries rfl ?_
                    refine fz_icmp_gt (tgt := 211) kX11_tries rfl (by decide) (fun c512 => ?_) (fun c512 => ?_)
                    · refine fz_iincN (ls' := [(6, fz_i (x304 + 1)), (8, fz_i z510), (7, fz_i (h 56 (x304.toNat))), (0, fz_r 53), (1, fz_i pe), (2, fz_i t), (3, fz_i hr), (4, fz_i 0), (5, fz_i su)]) kX11_tries rfl (by decide) rfl (by omega) rfl ?_
                      refine fz_goto (tgt := 79) kX11_tries rfl (by decide) ?_
                      refine fz_sub (fz_pk_sub (ls' := [(6, fz_i (x304 + 1)), (0, fz_r 53), (1, fz_i pe), (2, fz_i t), (3, fz_i hr), (4, fz_i 0), (5, fz_i su)]) [0, 3, 4, 5, 6, 7, 8] rfl) ?_
                      exact ih313 (x304 + 1) H308 hI309 hf310 hXw305 hHB306 hRM307 (by omega) (by omega)
                    · refine fz_aload_n kX11_tries rfl rfl ?_
                      refine fz_iload_n kX11_tries rfl rfl ?_
                      refine fz_iload kX11_tries rfl rfl ?_
                      refine fz_iload kX11_tries rfl rfl ?_
                      have b513 : 0 ≤ h 53 0 ∧ h 53 0 ≤ 8 := hI.1 53 _
                      have b514 : 0 ≤ h 53 8 ∧ h 53 8 ≤ 99 := hI.1 53 _
                      have e515 : H308 53 0 = h 53 0 := hf310 53 0 rfl
                      have e516 : H308 53 8 = h 53 8 := hf310 53 8 rfl
                      refine fz_callV (d' := 4) (M' := mX11_isArrested) (As := [fz_i pe, fz_i (h 56 (x304.toNat)), fz_i z510]) (st := []) kX11_tries rfl rfl vX11_isArrested rfl rfl rfl rfl (Nat.le_of_ble_eq_true rfl) (Nat.le_of_ble_eq_true rfl) (by decide) (sX11_isArrested H308 hI309 pe (h 56 (x304.toNat)) z510 hXw305 hHB306 (by omega) (by omega)) (fun H517 r518 q519 o520 => ?_)
                      obtain ⟨hI521, hf522, hXw523, hHB524, y526, rfl, p527, f525⟩ := q519
                      clear o520
                      have hf528 := fz_fr_tr hf310 hf522 (show fz_su [(74, 99999), (75, 99999)] [(53, 54), (53, 55), (74, 99999), (75, 99999), (89, 99999), (90, 99999)] = true from rfl)
                      have hRM529 : fz_RM H517 := fz_RM_eq (funext fun s => hf522 55 s rfl) (funext fun s => hf522 56 s rfl) (hf522 53 0 rfl) (hf522 53 2 rfl) hRM307
                      have t530 : H517 53 0 = H308 53 0 := hf522 53 0 rfl
                      refine fz_if_eq (tgt := 177) kX11_tries rfl (by decide) (fun c531 => ?_) (fun c531 => ?_)
                      · refine fz_aload_n kX11_tries rfl rfl ?_
                        refine fz_getR (t := 90) kX11_tries rfl rfl ?_
                        refine fz_iload kX11_tries rfl rfl ?_
                        refine fz_iload kX11_tries rfl rfl ?_
                        refine fz_iast (n := 4) kX11_tries rfl rfl (by omega) (by omega) ?_
                        refine fz_nmu (S := [(53, 54), (53, 55), (74, 99999), (75, 99999), (89, 99999), (90, 99999)]) (h0 := h) (fz_Iv_up hI521 (by decide) (show (0 : Int) ≤ (h 56 (x304.toNat)) by omega) (show ((h 56 (x304.toNat)) : Int) ≤ 7 by omega)) (fz_fr_up hf528 rfl) (fun H532 hI533 hf534 e535 => ?_)
                        have t536 : H532 53 0 = H517 53 0 := by rw [e535]; exact fz_up_o (by decide)
                        have hXw537 : fz_Xw H532 := fz_Xw_eq (by rw [e535]; exact fz_up_o (by decide)) (by rw [e535]; exact fz_up_ne (by decide)) (by rw [e535]; exact fz_up_ne (by decide)) (by rw [e535]; exact fz_up_ne (by decide)) (by rw [e535]; exact fz_up_ne (by decide)) hXw523
                        have hHB538 : fl_HB H532 := fl_HB_eq (by rw [e535]; exact fz_up_ne (by decide)) (by rw [e535]; exact fz_up_ne (by decide)) (by rw [e535]; exact fz_up_o (by decide)) (by rw [e535]; exact fz_up_o (by decide)) hHB524
                        have hRM539 : fz_RM H532 := fz_RM_eq (by rw [e535]; exact fz_up_ne (by decide)) (by rw [e535]; exact fz_up_ne (by decide)) (by rw [e535]; exact fz_up_o (by decide)) (by rw [e535]; exact fz_up_o (by decide)) hRM529
                        clear e535
                        refine fz_aload_n kX11_tries rfl rfl ?_
                        refine fz_iload_n kX11_tries rfl rfl ?_
                        refine fz_iload kX11_tries rfl rfl ?_
                        refine fz_iload kX11_tries rfl rfl ?_
                        refine fz_iload kX11_tries rfl rfl ?_
                        refine fz_iconst ⟨by decide, by decide⟩ kX11_tries rfl ?_
                        refine fz_iaddN kX11_tries rfl ⟨by decide, by decide⟩ ?_
                        refine fz_eqi (y := 1) rfl ?_
                        refine fz_iload kX11_tries rfl rfl ?_
                        refine fz_aload_n kX11_tries rfl rfl ?_
                        refine fz_iload_n kX11_tries rfl rfl ?_
                        refine fz_iload kX11_tries rfl rfl ?_
                        refine fz_iload kX11_tries rfl rfl ?_
                        have e540 : H532 53 0 = h 53 0 := hf534 53 0 rfl
                        refine fz_callV (d' := 4) (M' := mX11_receivedIn) (As := [fz_i pe, fz_i (h 56 (x304.toNat)), fz_i z510]) (st := [fz_i su, fz_i 1, fz_i z510, fz_i (h 56 (x304.toNat)), fz_i pe, fz_r 53]) kX11_tries rfl rfl vX11_receivedIn rfl rfl rfl rfl (Nat.le_of_ble_eq_true rfl) (Nat.le_of_ble_eq_true rfl) (by decide) (sX11_receivedIn H532 hI533 pe (h 56 (x304.toNat)) z510 hXw537 hHB538 (by omega) (by omega)) (fun H541 r542 q543 o544 => ?_)
                        obtain ⟨hI545, hf546, hXw547, hHB548, y551, rfl, f549, f550⟩ := q543
                        clear o544
                        have hf552 := fz_fr_tr hf534 hf546 (show fz_su [(74, 99999), (75, 99999)] [(53, 54), (53, 55), (74, 99999), (75, 99999), (89, 99999), (90, 99999)] = true from rfl)
                        have hRM553 : fz_RM H541 := fz_RM_eq (funext fun s => hf546 55 s rfl) (funext fun s => hf546 56 s rfl) (hf546 53 0 rfl) (hf546 53 2 rfl) hRM539
                        have t554 : H541 53 0 = H532 53 0 := hf546 53 0 rfl
                        refine fz_iadd kX11_tries rfl ?_
                        refine fz_nmw (fun z555 e556 => ?_)
                        have e557 : H541 53 0 = h 53 0 := hf552 53 0 rfl
                        refine fz_callV (d' := 7) (M' := mX11_tries) (As := [fz_i pe, fz_i (h 56 (x304.toNat)), fz_i z510, fz_i 1, fz_i z555]) (st := []) kX11_tries rfl rfl vX11_tries rfl rfl rfl rfl (Nat.le_of_ble_eq_true rfl) (Nat.le_of_ble_eq_true rfl) (by decide) (sX11_tries_1 H541 hI545 pe (h 56 (x304.toNat)) z510 z555 hXw547 hHB548 hRM553 (by omega) (by omega)) (fun H558 r559 q560 o561 => ?_)
                        obtain ⟨hI562, hf563, hXw564, hHB565, hRM566, rfl⟩ := q560
                        clear o561
                        have hf567 := fz_fr_tr hf552 hf563 (show fz_su [(53, 54), (53, 55), (74, 99999), (75, 99999), (89, 99999), (90, 99999)] [(53, 54), (53, 55), (74, 99999), (75, 99999), (89, 99999), (90, 99999)] = true from rfl)
                        have t568 : H558 53 0 = H541 53 0 := hf563 53 0 rfl
                        refine fz_iincN (ls' := [(6, fz_i (x304 + 1)), (8, fz_i z510), (7, fz_i (h 56 (x304.toNat))), (0, fz_r 53), (1, fz_i pe), (2, fz_i t), (3, fz_i hr), (4, fz_i 0), (5, fz_i su)]) kX11_tries rfl (by decide) rfl (by omega) rfl ?_
                        refine fz_goto (tgt := 79) kX11_tries rfl (by decide) ?_
                        refine fz_sub (fz_pk_sub (ls' := [(6, fz_i (x304 + 1)), (0, fz_r 53), (1, fz_i pe), (2, fz_i t), (3, fz_i hr), (4, fz_i 0), (5, fz_i su)]) [0, 3, 4, 5, 6, 7, 8] rfl) ?_
                        exact ih313 (x304 + 1) H558 hI562 hf567 hXw564 hHB565 hRM566 (by omega) (by omega)
                      · refine fz_goto (tgt := 211) kX11_tries rfl (by decide) ?_
                        refine fz_iincN (ls' := [(6, fz_i (x304 + 1)), (8, fz_i z510), (7, fz_i (h 56 (x304.toNat))), (0, fz_r 53), (1, fz_i pe), (2, fz_i t), (3, fz_i hr), (4, fz_i 0), (5, fz_i su)]) kX11_tries rfl (by decide) rfl (by omega) rfl ?_
                        refine fz_goto (tgt := 79) kX11_tries rfl (by decide) ?_
                        refine fz_sub (fz_pk_sub (ls' := [(6, fz_i (x304 + 1)), (0, fz_r 53), (1, fz_i pe), (2, fz_i t), (3, fz_i hr), (4, fz_i 0), (5, fz_i su)]) [0, 3, 4, 5, 6, 7, 8] rfl) ?_
                        exact ih313 (x304 + 1) H517 hI521 hf528 hXw523 hHB524 hRM529 (by omega) (by omega)
                · refine fz_goto (tgt := 211) kX11_tries rfl (by decide) ?_
                  refine fz_iincN (ls' := [(6, fz_i (x304 + 1)), (0, fz_r 53), (1, fz_i pe), (2, fz_i t), (3, fz_i hr), (4, fz_i 0), (5, fz_i su)]) kX11_tries rfl (by decide) rfl (by omega) rfl ?_
                  refine fz_goto (tgt := 79) kX11_tries rfl (by decide) ?_
                  exact ih313 (x304 + 1) H308 hI309 hf310 hXw305 hHB306 hRM307 (by omega) (by omega)
        exact lp312 _ 0 h hI hf hXw hHB hRM (by omega) (Nat.lt_succ_self _)
      · exfalso; omega
    · refine fz_aload_n kX11_tries rfl rfl ?_
      refine fz_iload kX11_tries rfl rfl ?_
      refine fz_callV (d' := 0) (M' := mX11_isAhead) (As := [fz_i 0]) (st := []) kX11_tries rfl rfl vX11_isAhead rfl rfl rfl rfl (Nat.le_of_ble_eq_true rfl) (Nat.le_of_ble_eq_true rfl) (by decide) (sX11_isAhead h hI 0 (by omega)) (fun H569 r570 q571 o572 => ?_)
      obtain ⟨e573, y574, rfl, p575⟩ := q571
      subst H569
      clear o572
      refine fz_if_eq (tgt := 69) kX11_tries rfl (by decide) (fun c576 => ?_) (fun c576 => ?_)
      · refine fz_iload kX11_tries rfl rfl ?_
        refine fz_iconst ⟨by decide, by decide⟩ kX11_tries rfl ?_
        refine fz_icmp_ne (tgt := 76) kX11_tries rfl (by decide) (fun c577 => ?_) (fun c577 => ?_)
        · refine fz_iconst ⟨by decide, by decide⟩ kX11_tries rfl ?_
          refine fz_istore (ls' := [(6, fz_i 0), (0, fz_r 53), (1, fz_i pe), (2, fz_i t), (3, fz_i hr), (4, fz_i 0), (5, fz_i su)]) kX11_tries rfl (by decide) rfl ?_
          have lp586 : ∀ (n585 : Nat) (x578 : Int) (H582 : fz_H), fz_Iv H582 → fz_fr [(53, 54), (53, 55), (74, 99999), (75, 99999), (89, 99999), (90, 99999)] h H582 → fz_Xw H582 → fl_HB H582 → fz_RM H582 → (0 ≤ x578 ∧ x578 ≤ 2147483647) → ((h 53 2) - x578).toNat < n585 → fz_R 8 mX11_tries 79 [(6, fz_i x578), (0, fz_r 53), (1, fz_i pe), (2, fz_i t), (3, fz_i hr), (4, fz_i 0), (5, fz_i su)] [] H582 (qX11_tries_0 h pe t hr su) := by
            intro n585
            induction n585 with
            | zero => intro x578 H582 hI583 hf584 hXw579 hHB580 hRM581 hv589 hm588; exact absurd hm588 (by omega)
            | succ n585 ih587 =>
              intro x578 H582 hI583 hf584 hXw579 hHB580 hRM581 hv589 hm588
              refine fz_iload kX11_tries rfl rfl ?_
              refine fz_aload_n kX11_tries rfl rfl ?_
              refine fz_getV (v := h 53 2) kX11_tries rfl rfl (hf584 53 2 rfl) ?_
              have b590 : 0 ≤ h 53 2 ∧ h 53 2 ≤ 12 := hI.1 53 _
              refine fz_icmp_ge (tgt := 217) kX11_tries rfl (by decide) (fun c591 => ?_) (fun c591 => ?_)
              · exact fz_vret kX11_tries rfl rfl ⟨hI583, hf584, hXw579, hHB580, hRM581, rfl⟩
              · refine fz_aload_n kX11_tries rfl rfl ?_
                refine fz_getR (t := 55) kX11_tries rfl rfl ?_
                refine fz_iload kX11_tries rfl rfl ?_
                refine fz_ialdV (n := 12) (v := h 55 (x578.toNat)) kX11_tries rfl rfl (by omega) (by omega) (hf584 55 _ rfl) ?_
                have b592 : 0 ≤ h 55 (x578.toNat) ∧ h 55 (x578.toNat) ≤ 7 := hI.1 55 _
                refine fz_iload_n kX11_tries rfl rfl ?_
                refine fz_icmp_eq (tgt := 113) kX11_tries rfl (by decide) (fun c593 => ?_) (fun c593 => ?_)
                · refine fz_aload_n kX11_tries rfl rfl ?_
                  refine fz_getR (t := 55) kX11_tries rfl rfl ?_
                  refine fz_iload kX11_tries rfl rfl ?_
                  refine fz_ialdV (n := 12) (v := h 55 (x578.toNat)) kX11_tries rfl rfl (by omega) (by omega) (hf584 55 _ rfl) ?_
                  refine fz_iload_n kX11_tries rfl rfl ?_
                  refine fz_icmp_ne (tgt := 134) kX11_tries rfl (by decide) (fun c594 => ?_) (fun c594 => ?_)
                  · refine fz_aload_n kX11_tries rfl rfl ?_
                    refine fz_getR (t := 55) kX11_tries rfl rfl ?_
                    refine fz_iload kX11_tries rfl rfl ?_
                    refine fz_ialdV (n := 12) (v := h 55 (x578.toNat)) kX11_tries rfl rfl (by omega) (by omega) (hf584 55 _ rfl) ?_
                    have k595 := hRM (x578).toNat (by omega)
                    refine fz_istore (ls' := [(7, fz_i (h 55 (x578.toNat))), (6, fz_i x578), (0, fz_r 53), (1, fz_i pe), (2, fz_i t), (3, fz_i hr), (4, fz_i 0), (5, fz_i su)]) kX11_tries rfl (by decide) rfl ?_
                    refine fz_iload_n kX11_tries rfl rfl ?_
                    refine fz_aload_n kX11_tries rfl rfl ?_
                    refine fz_getR (t := 57) kX11_tries rfl rfl ?_
                    refine fz_iload kX11_tries rfl rfl ?_
                    refine fz_ialdV (n := 12) (v := h 57 (x578.toNat)) kX11_tries rfl rfl (by omega) (by omega) (hf584 57 _ rfl) ?_
                    have b596 : 0 ≤ h 57 (x578.toNat) ∧ h 57 (x578.toNat) ≤ 24 := hI.1 57 _
                    refine fz_iadd kX11_tries rfl ?_
                    refine fz_nmw (fun z597 e598 => ?_)
                    refine fz_istore (ls' := [(8, fz_i z597), (7, fz_i (h 55 (x578.toNat))), (6, fz_i x578), (0, fz_r 53), (1, fz_i pe), (2, fz_i t), (3, fz_i hr), (4, fz_i 0), (5, fz_i su)]) kX11_tries rfl (by decide) rfl ?_
                    refine fz_iload kX11_tries rfl rfl ?_
                    refine fz_sipush ⟨by decide, by decide⟩ kX11_tries rfl ?_
                    refine fz_icmp_gt (tgt := 211) kX11_tries rfl (by decide) (fun c599 => ?_) (fun c599 => ?_)
                    · refine fz_iincN (ls' := [(6, fz_i (x578 + 1)), (8, fz_i z597), (7, fz_i (h 55 (x578.toNat))), (0, fz_r 53), (1, fz_i pe), (2, fz_i t), (3, fz_i hr), (4, fz_i 0), (5, fz_i su)]) kX11_tries rfl (by decide) rfl (by omega) rfl ?_
                      refine fz_goto (tgt := 79) kX11_tries rfl (by decide) ?_
                      refine fz_sub (fz_pk_sub (ls' := [(6, fz_i (x578 + 1)), (0, fz_r 53), (1, fz_i pe), (2, fz_i t), (3, fz_i hr), (4, fz_i 0), (5, fz_i su)]) [0, 3, 4, 5, 6, 7, 8] rfl) ?_
                      exact ih587 (x578 + 1) H582 hI583 hf584 hXw579 hHB580 hRM581 (by omega) (by omega)
                    · refine fz_aload_n kX11_tries rfl rfl ?_
                      refine fz_iload_n kX11_tries rfl rfl ?_
                      refine fz_iload kX11_tries rfl rfl ?_
                      refine fz_iload kX11_tries rfl rfl ?_
                      have b600 : 0 ≤ h 53 0 ∧ h 53 0 ≤ 8 := hI.1 53 _
                      have b601 : 0 ≤ h 53 8 ∧ h 53 8 ≤ 99 := hI.1 53 _
                      have e602 : H582 53 0 = h 53 0 := hf584 53 0 rfl
                      have e603 : H582 53 8 = h 53 8 := hf584 53 8 rfl
                      refine fz_callV (d' := 4) (M' := mX11_isArrested) (As := [fz_i pe, fz_i (h 55 (x578.toNat)), fz_i z597]) (st := []) kX11_tries rfl rfl vX11_isArrested rfl rfl rfl rfl (Nat.le_of_ble_eq_true rfl) (Nat.le_of_ble_eq_true rfl) (by decide) (sX11_isArrested H582 hI583 pe (h 55 (x578.toNat)) z597 hXw579 hHB580 (by omega) (by omega)) (fun H604 r605 q606 o607 => ?_)
                      obtain ⟨hI608, hf609, hXw610, hHB611, y613, rfl, p614, f612⟩ := q606
                      clear o607
                      have hf615 := fz_fr_tr hf584 hf609 (show fz_su [(74, 99999), (75, 99999)] [(53, 54), (53, 55), (74, 99999), (75, 99999), (89, 99999), (90, 99999)] = true from rfl)
                      have hRM616 : fz_RM H604 := fz_RM_eq (funext fun s => hf609 55 s rfl) (funext fun s => hf609 56 s rfl) (hf609 53 0 rfl) (hf609 53 2 rfl) hRM581
                      have t617 : H604 53 0 = H582 53 0 := hf609 53 0 rfl
                      refine fz_if_eq (tgt := 177) kX11_tries rfl (by decide) (fun c618 => ?_) (fun c618 => ?_)
                      · refine fz_aload_n kX11_tries rfl rfl ?_
                        refine fz_getR (t := 90) kX11_tries rfl rfl ?_
                        refine fz_iload kX11_tries rfl rfl ?_
                        refine fz_iload kX11_tries rfl rfl ?_
                        refine fz_iast (n := 4) kX11_tries rfl rfl (by omega) (by omega) ?_
                        refine fz_nmu (S := [(53, 54), (53, 55), (74, 99999), (75, 99999), (89, 99999), (90, 99999)]) (h0 := h) (fz_Iv_up hI608 (by decide) (show (0 : Int) ≤ (h 55 (x578.toNat)) by omega) (show ((h 55 (x578.toNat)) : Int) ≤ 7 by omega)) (fz_fr_up hf615 rfl) (fun H619 hI620 hf621 e622 => ?_)
                        have t623 : H619 53 0 = H604 53 0 := by rw [e622]; exact fz_up_o (by decide)
                        have hXw624 : fz_Xw H619 := fz_Xw_eq (by rw [e622]; exact fz_up_o (by decide)) (by rw [e622]; exact fz_up_ne (by decide)) (by rw [e622]; exact fz_up_ne (by decide)) (by rw [e622]; exact fz_up_ne (by decide)) (by rw [e622]; exact fz_up_ne (by decide)) hXw610
                        have hHB625 : fl_HB H619 := fl_HB_eq (by rw [e622]; exact fz_up_ne (by decide)) (by rw [e622]; exact fz_up_ne (by decide)) (by rw [e622]; exact fz_up_o (by decide)) (by rw [e622]; exact fz_up_o (by decide)) hHB611
                        have hRM626 : fz_RM H619 := fz_RM_eq (by rw [e622]; exact fz_up_ne (by decide)) (by rw [e622]; exact fz_up_ne (by decide)) (by rw [e622]; exact fz_up_o (by decide)) (by rw [e622]; exact fz_up_o (by decide)) hRM616
                        clear e622
                        refine fz_aload_n kX11_tries rfl rfl ?_
                        refine fz_iload_n kX11_tries rfl rfl ?_
                        refine fz_iload kX11_tries rfl rfl ?_
                        refine fz_iload kX11_tries rfl rfl ?_
                        refine fz_iload kX11_tries rfl rfl ?_
                        refine fz_iconst ⟨by decide, by decide⟩ kX11_tries rfl ?_
                        refine fz_iaddN kX11_tries rfl ⟨by decide, by decide⟩ ?_
                        refine fz_eqi (y := 1) rfl ?_
                        refine fz_iload kX11_tries rfl rfl ?_
                        refine fz_aload_n kX11_tries rfl rfl ?_
                        refine fz_iload_n kX11_tries rfl rfl ?_
                        refine fz_iload kX11_tries rfl rfl ?_
                        refine fz_iload kX11_tries rfl rfl ?_
                        have e627 : H619 53 0 = h 53 0 := hf621 53 0 rfl
                        refine fz_callV (d' := 4) (M' := mX11_receivedIn) (As := [fz_i pe, fz_i (h 55 (x578.toNat)), fz_i z597]) (st := [fz_i su, fz_i 1, fz_i z597, fz_i (h 55 (x578.toNat)), fz_i pe, fz_r 53]) kX11_tries rfl rfl vX11_receivedIn rfl rfl rfl rfl (Nat.le_of_ble_eq_true rfl) (Nat.le_of_ble_eq_true rfl) (by decide) (sX11_receivedIn H619 hI620 pe (h 55 (x578.toNat)) z597 hXw624 hHB625 (by omega) (by omega)) (fun H628 r629 q630 o631 => ?_)
                        obtain ⟨hI632, hf633, hXw634, hHB635, y638, rfl, f636, f637⟩ := q630
                        clear o631
                        have hf639 := fz_fr_tr hf621 hf633 (show fz_su [(74, 99999), (75, 99999)] [(53, 54), (53, 55), (74, 99999), (75, 99999), (89, 99999), (90, 99999)] = true from rfl)
                        have hRM640 : fz_RM H628 := fz_RM_eq (funext fun s => hf633 55 s rfl) (funext fun s => hf633 56 s rfl) (hf633 53 0 rfl) (hf633 53 2 rfl) hRM626
                        have t641 : H628 53 0 = H619 53 0 := hf633 53 0 rfl
                        refine fz_iadd kX11_tries rfl ?_
                        refine fz_nmw (fun z642 e643 => ?_)
                        have e644 : H628 53 0 = h 53 0 := hf639 53 0 rfl
                        refine fz_callV (d' := 7) (M' := mX11_tries) (As := [fz_i pe, fz_i (h 55 (x578.toNat)), fz_i z597, fz_i 1, fz_i z642]) (st := []) kX11_tries rfl rfl vX11_tries rfl rfl rfl rfl (Nat.le_of_ble_eq_true rfl) (Nat.le_of_ble_eq_true rfl) (by decide) (sX11_tries_1 H628 hI632 pe (h 55 (x578.toNat)) z597 z642 hXw634 hHB635 hRM640 (by omega) (by omega)) (fun H645 r646 q647 o648 => ?_)
                        obtain ⟨hI649, hf650, hXw651, hHB652, hRM653, rfl⟩ := q647
                        clear o648
                        have hf654 := fz_fr_tr hf639 hf650 (show fz_su [(53, 54), (53, 55), (74, 99999), (75, 99999), (89, 99999), (90, 99999)] [(53, 54), (53, 55), (74, 99999), (75, 99999), (89, 99999), (90, 99999)] = true from rfl)
                        have t655 : H645 53 0 = H628 53 0 := hf650 53 0 rfl
                        refine fz_iincN (ls' := [(6, fz_i (x578 + 1)), (8, fz_i z597), (7, fz_i (h 55 (x578.toNat))), (0, fz_r 53), (1, fz_i pe), (2, fz_i t), (3, fz_i hr), (4, fz_i 0), (5, fz_i su)]) kX11_tries rfl (by decide) rfl (by omega) rfl ?_
                        refine fz_goto (tgt := 79) kX11_tries rfl (by decide) ?_
                        refine fz_sub (fz_pk_sub (ls' := [(6, fz_i (x578 + 1)), (0, fz_r 53), (1, fz_i pe), (2, fz_i t), (3, fz_i hr), (4, fz_i 0), (5, fz_i su)]) [0, 3, 4, 5, 6, 7, 8] rfl) ?_
                        exact ih587 (x578 + 1) H645 hI649 hf654 hXw651 hHB652 hRM653 (by omega) (by omega)
                      · refine fz_goto (tgt := 211) kX11_tries rfl (by decide) ?_
                        refine fz_iincN (ls' := [(6, fz_i (x578 + 1)), (8, fz_i z597), (7, fz_i (h 55 (x578.toNat))), (0, fz_r 53), (1, fz_i pe), (2, fz_i t), (3, fz_i hr), (4, fz_i 0), (5, fz_i su)]) kX11_tries rfl (by decide) rfl (by omega) rfl ?_
                        refine fz_goto (tgt := 79) kX11_tries rfl (by decide) ?_
                        refine fz_sub (fz_pk_sub (ls' := [(6, fz_i (x578 + 1)), (0, fz_r 53), (1, fz_i pe), (2, fz_i t), (3, fz_i hr), (4, fz_i 0), (5, fz_i su)]) [0, 3, 4, 5, 6, 7, 8] rfl) ?_
                        exact ih587 (x578 + 1) H604 hI608 hf615 hXw610 hHB611 hRM616 (by omega) (by omega)
                  · refine fz_aload_n kX11_tries rfl rfl ?_
                    refine fz_getR (t := 56) kX11_tries rfl rfl ?_
                    refine fz_iload kX11_tries rfl rfl ?_
                    refine fz_ialdV (n := 12) (v := h 56 (x578.toNat)) kX11_tries rfl rfl (by omega) (by omega) (hf584 56 _ rfl) ?_
                    have b656 : 0 ≤ h 56 (x578.toNat) ∧ h 56 (x578.toNat) ≤ 7 := hI.1 56 _
                    refine fz_goto (tgt := 141) kX11_tries rfl (by decide) ?_
                    have k657 := hRM (x578).toNat (by omega)
                    refine fz_istore (ls' := [(7, fz_i (h 56 (x578.toNat))), (6, fz_i x578), (0, fz_r 53), (1, fz_i pe), (2, fz_i t), (3, fz_i hr), (4, fz_i 0), (5, fz_i su)]) kX11_tries rfl (by decide) rfl ?_
                    refine fz_iload_n kX11_tries rfl rfl ?_
                    refine fz_aload_n kX11_tries rfl rfl ?_
                    refine fz_getR (t := 57) kX11_tries rfl rfl ?_
                    refine fz_iload kX11_tries rfl rfl ?_
                    refine fz_ialdV (n := 12) (v := h 57 (x578.toNat)) kX11_tries rfl rfl (by omega) (by omega) (hf584 57 _ rfl) ?_
                    have b658 : 0 ≤ h 57 (x578.toNat) ∧ h 57 (x578.toNat) ≤ 24 := hI.1 57 _
                    refine fz_iadd kX11_tries rfl ?_
                    refine fz_nmw (fun z659 e660 => ?_)
                    refine fz_istore (ls' := [(8, fz_i z659), (7, fz_i (h 56 (x578.toNat))), (6, fz_i x578), (0, fz_r 53), (1, fz_i pe), (2, fz_i t), (3, fz_i hr), (4, fz_i 0), (5, fz_i su)]) kX11_tries rfl (by decide) rfl ?_
                    refine fz_iload kX11_tries rfl rfl ?_
                    refine fz_sipush ⟨by decide, by decide⟩ kX11_tries rfl ?_
                    refine fz_icmp_gt (tgt := 211) kX11_tries rfl (by decide) (fun c661 => ?_) (fun c661 => ?_)
                    · refine fz_iincN (ls' := [(6, fz_i (x578 + 1)), (8, fz_i z659), (7, fz_i (h 56 (x578.toNat))), (0, fz_r 53), (1, fz_i pe), (2, fz_i t), (3, fz_i hr), (4, fz_i 0), (5, fz_i su)]) kX11_tries rfl (by decide) rfl (by omega) rfl ?_
                      refine fz_goto (tgt := 79) kX11_tries rfl (by decide) ?_
                      refine fz_sub (fz_pk_sub (ls' := [(6, fz_i (x578 + 1)), (0, fz_r 53), (1, fz_i pe), (2, fz_i t), (3, fz_i hr), (4, fz_i 0), (5, fz_i su)]) [0, 3, 4, 5, 6, 7, 8] rfl) ?_
                      exact ih587 (x578 + 1) H582 hI583 hf584 hXw579 hHB580 hRM581 (by omega) (by omega)
                    · refine fz_aload_n kX11_tries rfl rfl ?_
                      refine fz_iload_n kX11_tries rfl rfl ?_
                      refine fz_iload kX11_tries rfl rfl ?_
                      refine fz_iload kX11_tries rfl rfl ?_
                      have b662 : 0 ≤ h 53 0 ∧ h 53 0 ≤ 8 := hI.1 53 _
                      have b663 : 0 ≤ h 53 8 ∧ h 53 8 ≤ 99 := hI.1 53 _
                      have e664 : H582 53 0 = h 53 0 := hf584 53 0 rfl
                      have e665 : H582 53 8 = h 53 8 := hf584 53 8 rfl
                      refine fz_callV (d' := 4) (M' := mX11_isArrested) (As := [fz_i pe, fz_i (h 56 (x578.toNat)), fz_i z659]) (st := []) kX11_tries rfl rfl vX11_isArrested rfl rfl rfl rfl (Nat.le_of_ble_eq_true rfl) (Nat.le_of_ble_eq_true rfl) (by decide) (sX11_isArrested H582 hI583 pe (h 56 (x578.toNat)) z659 hXw579 hHB580 (by omega) (by omega)) (fun H666 r667 q668 o669 => ?_)
                      obtain ⟨hI670, hf671, hXw672, hHB673, y675, rfl, p676, f674⟩ := q668
                      clear o669
                      have hf677 := fz_fr_tr hf584 hf671 (show fz_su [(74, 99999), (75, 99999)] [(53, 54), (53, 55), (74, 99999), (75, 99999), (89, 99999), (90, 99999)] = true from rfl)
                      have hRM678 : fz_RM H666 := fz_RM_eq (funext fun s => hf671 55 s rfl) (funext fun s => hf671 56 s rfl) (hf671 53 0 rfl) (hf671 53 2 rfl) hRM581
                      have t679 : H666 53 0 = H582 53 0 := hf671 53 0 rfl
                      refine fz_if_eq (tgt := 177) kX11_tries rfl (by decide) (fun c680 => ?_) (fun c680 => ?_)
                      · refine fz_aload_n kX11_tries rfl rfl ?_
                        refine fz_getR (t := 90) kX11_tries rfl rfl ?_
                        refine fz_iload kX11_tries rfl rfl ?_
                        refine fz_iload kX11_tries rfl rfl ?_
                        refine fz_iast (n := 4) kX11_tries rfl rfl (by omega) (by omega) ?_
                        refine fz_nmu (S := [(53, 54), (53, 55), (74, 99999), (75, 99999), (89, 99999), (90, 99999)]) (h0 := h) (fz_Iv_up hI670 (by decide) (show (0 : Int) ≤ (h 56 (x578.toNat)) by omega) (show ((h 56 (x578.toNat)) : Int) ≤ 7 by omega)) (fz_fr_up hf677 rfl) (fun H681 hI682 hf683 e684 => ?_)
                        have t685 : H681 53 0 = H666 53 0 := by rw [e684]; exact fz_up_o (by decide)
                        have hXw686 : fz_Xw H681 := fz_Xw_eq (by rw [e684]; exact fz_up_o (by decide)) (by rw [e684]; exact fz_up_ne (by decide)) (by rw [e684]; exact fz_up_ne (by decide)) (by rw [e684]; exact fz_up_ne (by decide)) (by rw [e684]; exact fz_up_ne (by decide)) hXw672
                        have hHB687 : fl_HB H681 := fl_HB_eq (by rw [e684]; exact fz_up_ne (by decide)) (by rw [e684]; exact fz_up_ne (by decide)) (by rw [e684]; exact fz_up_o (by decide)) (by rw [e684]; exact fz_up_o (by decide)) hHB673
                        have hRM688 : fz_RM H681 := fz_RM_eq (by rw [e684]; exact fz_up_ne (by decide)) (by rw [e684]; exact fz_up_ne (by decide)) (by rw [e684]; exact fz_up_o (by decide)) (by rw [e684]; exact fz_up_o (by decide)) hRM678
                        clear e684
                        refine fz_aload_n kX11_tries rfl rfl ?_
                        refine fz_iload_n kX11_tries rfl rfl ?_
                        refine fz_iload kX11_tries rfl rfl ?_
                        refine fz_iload kX11_tries rfl rfl ?_
                        refine fz_iload kX11_tries rfl rfl ?_
                        refine fz_iconst ⟨by decide, by decide⟩ kX11_tries rfl ?_
                        refine fz_iaddN kX11_tries rfl ⟨by decide, by decide⟩ ?_
                        refine fz_eqi (y := 1) rfl ?_
                        refine fz_iload kX11_tries rfl rfl ?_
                        refine fz_aload_n kX11_tries rfl rfl ?_
                        refine fz_iload_n kX11_tries rfl rfl ?_
                        refine fz_iload kX11_tries rfl rfl ?_
                        refine fz_iload kX11_tries rfl rfl ?_
                        have e689 : H681 53 0 = h 53 0 := hf683 53 0 rfl
                        refine fz_callV (d' := 4) (M' := mX11_receivedIn) (As := [fz_i pe, fz_i (h 56 (x578.toNat)), fz_i z659]) (st := [fz_i su, fz_i 1, fz_i z659, fz_i (h 56 (x578.toNat)), fz_i pe, fz_r 53]) kX11_tries rfl rfl vX11_receivedIn rfl rfl rfl rfl (Nat.le_of_ble_eq_true rfl) (Nat.le_of_ble_eq_true rfl) (by decide) (sX11_receivedIn H681 hI682 pe (h 56 (x578.toNat)) z659 hXw686 hHB687 (by omega) (by omega)) (fun H690 r691 q692 o693 => ?_)
                        obtain ⟨hI694, hf695, hXw696, hHB697, y700, rfl, f698, f699⟩ := q692
                        clear o693
                        have hf701 := fz_fr_tr hf683 hf695 (show fz_su [(74, 99999), (75, 99999)] [(53, 54), (53, 55), (74, 99999), (75, 99999), (89, 99999), (90, 99999)] = true from rfl)
                        have hRM702 : fz_RM H690 := fz_RM_eq (funext fun s => hf695 55 s rfl) (funext fun s => hf695 56 s rfl) (hf695 53 0 rfl) (hf695 53 2 rfl) hRM688
                        have t703 : H690 53 0 = H681 53 0 := hf695 53 0 rfl
                        refine fz_iadd kX11_tries rfl ?_
                        refine fz_nmw (fun z704 e705 => ?_)
                        have e706 : H690 53 0 = h 53 0 := hf701 53 0 rfl
                        refine fz_callV (d' := 7) (M' := mX11_tries) (As := [fz_i pe, fz_i (h 56 (x578.toNat)), fz_i z659, fz_i 1, fz_i z704]) (st := []) kX11_tries rfl rfl vX11_tries rfl rfl rfl rfl (Nat.le_of_ble_eq_true rfl) (Nat.le_of_ble_eq_true rfl) (by decide) (sX11_tries_1 H690 hI694 pe (h 56 (x578.toNat)) z659 z704 hXw696 hHB697 hRM702 (by omega) (by omega)) (fun H707 r708 q709 o710 => ?_)
                        obtain ⟨hI711, hf712, hXw713, hHB714, hRM715, rfl⟩ := q709
                        clear o710
                        have hf716 := fz_fr_tr hf701 hf712 (show fz_su [(53, 54), (53, 55), (74, 99999), (75, 99999), (89, 99999), (90, 99999)] [(53, 54), (53, 55), (74, 99999), (75, 99999), (89, 99999), (90, 99999)] = true from rfl)
                        have t717 : H707 53 0 = H690 53 0 := hf712 53 0 rfl
                        refine fz_iincN (ls' := [(6, fz_i (x578 + 1)), (8, fz_i z659), (7, fz_i (h 56 (x578.toNat))), (0, fz_r 53), (1, fz_i pe), (2, fz_i t), (3, fz_i hr), (4, fz_i 0), (5, fz_i su)]) kX11_tries rfl (by decide) rfl (by omega) rfl ?_
                        refine fz_goto (tgt := 79) kX11_tries rfl (by decide) ?_
                        refine fz_sub (fz_pk_sub (ls' := [(6, fz_i (x578 + 1)), (0, fz_r 53), (1, fz_i pe), (2, fz_i t), (3, fz_i hr), (4, fz_i 0), (5, fz_i su)]) [0, 3, 4, 5, 6, 7, 8] rfl) ?_
                        exact ih587 (x578 + 1) H707 hI711 hf716 hXw713 hHB714 hRM715 (by omega) (by omega)
                      · refine fz_goto (tgt := 211) kX11_tries rfl (by decide) ?_
                        refine fz_iincN (ls' := [(6, fz_i (x578 + 1)), (8, fz_i z659), (7, fz_i (h 56 (x578.toNat))), (0, fz_r 53), (1, fz_i pe), (2, fz_i t), (3, fz_i hr), (4, fz_i 0), (5, fz_i su)]) kX11_tries rfl (by decide) rfl (by omega) rfl ?_
                        refine fz_goto (tgt := 79) kX11_tries rfl (by decide) ?_
                        refine fz_sub (fz_pk_sub (ls' := [(6, fz_i (x578 + 1)), (0, fz_r 53), (1, fz_i pe), (2, fz_i t), (3, fz_i hr), (4, fz_i 0), (5, fz_i su)]) [0, 3, 4, 5, 6, 7, 8] rfl) ?_
                        exact ih587 (x578 + 1) H666 hI670 hf677 hXw672 hHB673 hRM678 (by omega) (by omega)
                · refine fz_aload_n kX11_tries rfl rfl ?_
                  refine fz_getR (t := 56) kX11_tries rfl rfl ?_
                  refine fz_iload kX11_tries rfl rfl ?_
                  refine fz_ialdV (n := 12) (v := h 56 (x578.toNat)) kX11_tries rfl rfl (by omega) (by omega) (hf584 56 _ rfl) ?_
                  have b718 : 0 ≤ h 56 (x578.toNat) ∧ h 56 (x578.toNat) ≤ 7 := hI.1 56 _
                  refine fz_iload_n kX11_tries rfl rfl ?_
                  refine fz_icmp_eq (tgt := 113) kX11_tries rfl (by decide) (fun c719 => ?_) (fun c719 => ?_)
                  · refine fz_aload_n kX11_tries rfl rfl ?_
                    refine fz_getR (t := 55) kX11_tries rfl rfl ?_
                    refine fz_iload kX11_tries rfl rfl ?_
                    refine fz_ialdV (n := 12) (v := h 55 (x578.toNat)) kX11_tries rfl rfl (by omega) (by omega) (hf584 55 _ rfl) ?_
                    refine fz_iload_n kX11_tries rfl rfl ?_
                    refine fz_icmp_ne (tgt := 134) kX11_tries rfl (by decide) (fun c720 => ?_) (fun c720 => ?_)
                    · refine fz_aload_n kX11_tries rfl rfl ?_
                      refine fz_getR (t := 55) kX11_tries rfl rfl ?_
                      refine fz_iload kX11_tries rfl rfl ?_
                      refine fz_ialdV (n := 12) (v := h 55 (x578.toNat)) kX11_tries rfl rfl (by omega) (by omega) (hf584 55 _ rfl) ?_
                      have k721 := hRM (x578).toNat (by omega)
                      refine fz_istore (ls' := [(7, fz_i (h 55 (x578.toNat))), (6, fz_i x578), (0, fz_r 53), (1, fz_i pe), (2, fz_i t), (3, fz_i hr), (4, fz_i 0), (5, fz_i su)]) kX11_tries rfl (by decide) rfl ?_
                      refine fz_iload_n kX11_tries rfl rfl ?_
                      refine fz_aload_n kX11_tries rfl rfl ?_
                      refine fz_getR (t := 57) kX11_tries rfl rfl ?_
                      refine fz_iload kX11_tries rfl rfl ?_
                      refine fz_ialdV (n := 12) (v := h 57 (x578.toNat)) kX11_tries rfl rfl (by omega) (by omega) (hf584 57 _ rfl) ?_
                      have b722 : 0 ≤ h 57 (x578.toNat) ∧ h 57 (x578.toNat) ≤ 24 := hI.1 57 _
                      refine fz_iadd kX11_tries rfl ?_
                      refine fz_nmw (fun z723 e724 => ?_)
                      refine fz_istore (ls' := [(8, fz_i z723), (7, fz_i (h 55 (x578.toNat))), (6, fz_i x578), (0, fz_r 53), (1, fz_i pe), (2, fz_i t), (3, fz_i hr), (4, fz_i 0), (5, fz_i su)]) kX11_tries rfl (by decide) rfl ?_
                      refine fz_iload kX11_tries rfl rfl ?_
                      refine fz_sipush ⟨by decide, by decide⟩ kX11_tries rfl ?_
                      refine fz_icmp_gt (tgt := 211) kX11_tries rfl (by decide) (fun c725 => ?_) (fun c725 => ?_)
                      · refine fz_iincN (ls' := [(6, fz_i (x578 + 1)), (8, fz_i z723), (7, fz_i (h 55 (x578.toNat))), (0, fz_r 53), (1, fz_i pe), (2, fz_i t), (3, fz_i hr), (4, fz_i 0), (5, fz_i su)]) kX11_tries rfl (by decide) rfl (by omega) rfl ?_
                        refine fz_goto (tgt := 79) kX11_tries rfl (by decide) ?_
                        refine fz_sub (fz_pk_sub (ls' := [(6, fz_i (x578 + 1)), (0, fz_r 53), (1, fz_i pe), (2, fz_i t), (3, fz_i hr), (4, fz_i 0), (5, fz_i su)]) [0, 3, 4, 5, 6, 7, 8] rfl) ?_
                        exact ih587 (x578 + 1) H582 hI583 hf584 hXw579 hHB580 hRM581 (by omega) (by omega)
                      · refine fz_aload_n kX11_tries rfl rfl ?_
                        refine fz_iload_n kX11_tries rfl rfl ?_
                        refine fz_iload kX11_tries rfl rfl ?_
                        refine fz_iload kX11_tries rfl rfl ?_
                        have b726 : 0 ≤ h 53 0 ∧ h 53 0 ≤ 8 := hI.1 53 _
                        have b727 : 0 ≤ h 53 8 ∧ h 53 8 ≤ 99 := hI.1 53 _
                        have e728 : H582 53 0 = h 53 0 := hf584 53 0 rfl
                        have e729 : H582 53 8 = h 53 8 := hf584 53 8 rfl
                        refine fz_callV (d' := 4) (M' := mX11_isArrested) (As := [fz_i pe, fz_i (h 55 (x578.toNat)), fz_i z723]) (st := []) kX11_tries rfl rfl vX11_isArrested rfl rfl rfl rfl (Nat.le_of_ble_eq_true rfl) (Nat.le_of_ble_eq_true rfl) (by decide) (sX11_isArrested H582 hI583 pe (h 55 (x578.toNat)) z723 hXw579 hHB580 (by omega) (by omega)) (fun H730 r731 q732 o733 => ?_)
                        obtain ⟨hI734, hf735, hXw736, hHB737, y739, rfl, p740, f738⟩ := q732
                        clear o733
                        have hf741 := fz_fr_tr hf584 hf735 (show fz_su [(74, 99999), (75, 99999)] [(53, 54), (53, 55), (74, 99999), (75, 99999), (89, 99999), (90, 99999)] = true from rfl)
                        have hRM742 : fz_RM H730 := fz_RM_eq (funext fun s => hf735 55 s rfl) (funext fun s => hf735 56 s rfl) (hf735 53 0 rfl) (hf735 53 2 rfl) hRM581
                        have t743 : H730 53 0 = H582 53 0 := hf735 53 0 rfl
                        refine fz_if_eq (tgt := 177) kX11_tries rfl (by decide) (fun c744 => ?_) (fun c744 => ?_)
                        · refine fz_aload_n kX11_tries rfl rfl ?_
                          refine fz_getR (t := 90) kX11_tries rfl rfl ?_
                          refine fz_iload kX11_tries rfl rfl ?_
                          refine fz_iload kX11_tries rfl rfl ?_
                          refine fz_iast (n := 4) kX11_tries rfl rfl (by omega) (by omega) ?_
                          refine fz_nmu (S := [(53, 54), (53, 55), (74, 99999), (75, 99999), (89, 99999), (90, 99999)]) (h0 := h) (fz_Iv_up hI734 (by decide) (show (0 : Int) ≤ (h 55 (x578.toNat)) by omega) (show ((h 55 (x578.toNat)) : Int) ≤ 7 by omega)) (fz_fr_up hf741 rfl) (fun H745 hI746 hf747 e748 => ?_)
                          have t749 : H745 53 0 = H730 53 0 := by rw [e748]; exact fz_up_o (by decide)
                          have hXw750 : fz_Xw H745 := fz_Xw_eq (by rw [e748]; exact fz_up_o (by decide)) (by rw [e748]; exact fz_up_ne (by decide)) (by rw [e748]; exact fz_up_ne (by decide)) (by rw [e748]; exact fz_up_ne (by decide)) (by rw [e748]; exact fz_up_ne (by decide)) hXw736
                          have hHB751 : fl_HB H745 := fl_HB_eq (by rw [e748]; exact fz_up_ne (by decide)) (by rw [e748]; exact fz_up_ne (by decide)) (by rw [e748]; exact fz_up_o (by decide)) (by rw [e748]; exact fz_up_o (by decide)) hHB737
                          have hRM752 : fz_RM H745 := fz_RM_eq (by rw [e748]; exact fz_up_ne (by decide)) (by rw [e748]; exact fz_up_ne (by decide)) (by rw [e748]; exact fz_up_o (by decide)) (by rw [e748]; exact fz_up_o (by decide)) hRM742
                          clear e748
                          refine fz_aload_n kX11_tries rfl rfl ?_
                          refine fz_iload_n kX11_tries rfl rfl ?_
                          refine fz_iload kX11_tries rfl rfl ?_
                          refine fz_iload kX11_tries rfl rfl ?_
                          refine fz_iload kX11_tries rfl rfl ?_
                          refine fz_iconst ⟨by decide, by decide⟩ kX11_tries rfl ?_
                          refine fz_iaddN kX11_tries rfl ⟨by decide, by decide⟩ ?_
                          refine fz_eqi (y := 1) rfl ?_
                          refine fz_iload kX11_tries rfl rfl ?_
                          refine fz_aload_n kX11_tries rfl rfl ?_
                          refine fz_iload_n kX11_tries rfl rfl ?_
                          refine fz_iload kX11_tries rfl rfl ?_
                          refine fz_iload kX11_tries rfl rfl ?_
                          have e753 : H745 53 0 = h 53 0 := hf747 53 0 rfl
                          refine fz_callV (d' := 4) (M' := mX11_receivedIn) (As := [fz_i pe, fz_i (h 55 (x578.toNat)), fz_i z723]) (st := [fz_i su, fz_i 1, fz_i z723, fz_i (h 55 (x578.toNat)), fz_i pe, fz_r 53]) kX11_tries rfl rfl vX11_receivedIn rfl rfl rfl rfl (Nat.le_of_ble_eq_true rfl) (Nat.le_of_ble_eq_true rfl) (by decide) (sX11_receivedIn H745 hI746 pe (h 55 (x578.toNat)) z723 hXw750 hHB751 (by omega) (by omega)) (fun H754 r755 q756 o757 => ?_)
                          obtain ⟨hI758, hf759, hXw760, hHB761, y764, rfl, f762, f763⟩ := q756
                          clear o757
                          have hf765 := fz_fr_tr hf747 hf759 (show fz_su [(74, 99999), (75, 99999)] [(53, 54), (53, 55), (74, 99999), (75, 99999), (89, 99999), (90, 99999)] = true from rfl)
                          have hRM766 : fz_RM H754 := fz_RM_eq (funext fun s => hf759 55 s rfl) (funext fun s => hf759 56 s rfl) (hf759 53 0 rfl) (hf759 53 2 rfl) hRM752
                          have t767 : H754 53 0 = H745 53 0 := hf759 53 0 rfl
                          refine fz_iadd kX11_tries rfl ?_
                          refine fz_nmw (fun z768 e769 => ?_)
                          have e770 : H754 53 0 = h 53 0 := hf765 53 0 rfl
                          refine fz_callV (d' := 7) (M' := mX11_tries) (As := [fz_i pe, fz_i (h 55 (x578.toNat)), fz_i z723, fz_i 1, fz_i z768]) (st := []) kX11_tries rfl rfl vX11_tries rfl rfl rfl rfl (Nat.le_of_ble_eq_true rfl) (Nat.le_of_ble_eq_true rfl) (by decide) (sX11_tries_1 H754 hI758 pe (h 55 (x578.toNat)) z723 z768 hXw760 hHB761 hRM766 (by omega) (by omega)) (fun H771 r772 q773 o774 => ?_)
                          obtain ⟨hI775, hf776, hXw777, hHB778, hRM779, rfl⟩ := q773
                          clear o774
                          have hf780 := fz_fr_tr hf765 hf776 (show fz_su [(53, 54), (53, 55), (74, 99999), (75, 99999), (89, 99999), (90, 99999)] [(53, 54), (53, 55), (74, 99999), (75, 99999), (89, 99999), (90, 99999)] = true from rfl)
                          have t781 : H771 53 0 = H754 53 0 := hf776 53 0 rfl
                          refine fz_iincN (ls' := [(6, fz_i (x578 + 1)), (8, fz_i z723), (7, fz_i (h 55 (x578.toNat))), (0, fz_r 53), (1, fz_i pe), (2, fz_i t), (3, fz_i hr), (4, fz_i 0), (5, fz_i su)]) kX11_tries rfl (by decide) rfl (by omega) rfl ?_
                          refine fz_goto (tgt := 79) kX11_tries rfl (by decide) ?_
                          refine fz_sub (fz_pk_sub (ls' := [(6, fz_i (x578 + 1)), (0, fz_r 53), (1, fz_i pe), (2, fz_i t), (3, fz_i hr), (4, fz_i 0), (5, fz_i su)]) [0, 3, 4, 5, 6, 7, 8] rfl) ?_
                          exact ih587 (x578 + 1) H771 hI775 hf780 hXw777 hHB778 hRM779 (by omega) (by omega)
                        · refine fz_goto (tgt := 211) kX11_tries rfl (by decide) ?_
                          refine fz_iincN (ls' := [(6, fz_i (x578 + 1)), (8, fz_i z723), (7, fz_i (h 55 (x578.toNat))), (0, fz_r 53), (1, fz_i pe), (2, fz_i t), (3, fz_i hr), (4, fz_i 0), (5, fz_i su)]) kX11_tries rfl (by decide) rfl (by omega) rfl ?_
                          refine fz_goto (tgt := 79) kX11_tries rfl (by decide) ?_
                          refine fz_sub (fz_pk_sub (ls' := [(6, fz_i (x578 + 1)), (0, fz_r 53), (1, fz_i pe), (2, fz_i t), (3, fz_i hr), (4, fz_i 0), (5, fz_i su)]) [0, 3, 4, 5, 6, 7, 8] rfl) ?_
                          exact ih587 (x578 + 1) H730 hI734 hf741 hXw736 hHB737 hRM742 (by omega) (by omega)
                    · refine fz_aload_n kX11_tries rfl rfl ?_
                      refine fz_getR (t := 56) kX11_tries rfl rfl ?_
                      refine fz_iload kX11_tries rfl rfl ?_
                      refine fz_ialdV (n := 12) (v := h 56 (x578.toNat)) kX11_tries rfl rfl (by omega) (by omega) (hf584 56 _ rfl) ?_
                      refine fz_goto (tgt := 141) kX11_tries rfl (by decide) ?_
                      have k782 := hRM (x578).toNat (by omega)
                      refine fz_istore (ls' := [(7, fz_i (h 56 (x578.toNat))), (6, fz_i x578), (0, fz_r 53), (1, fz_i pe), (2, fz_i t), (3, fz_i hr), (4, fz_i 0), (5, fz_i su)]) kX11_tries rfl (by decide) rfl ?_
                      refine fz_iload_n kX11_tries rfl rfl ?_
                      refine fz_aload_n kX11_tries rfl rfl ?_
                      refine fz_getR (t := 57) kX11_tries rfl rfl ?_
                      refine fz_iload kX11_tries rfl rfl ?_
                      refine fz_ialdV (n := 12) (v := h 57 (x578.toNat)) kX11_tries rfl rfl (by omega) (by omega) (hf584 57 _ rfl) ?_
                      have b783 : 0 ≤ h 57 (x578.toNat) ∧ h 57 (x578.toNat) ≤ 24 := hI.1 57 _
                      refine fz_iadd kX11_tries rfl ?_
                      refine fz_nmw (fun z784 e785 => ?_)
                      refine fz_istore (ls' := [(8, fz_i z784), (7, fz_i (h 56 (x578.toNat))), (6, fz_i x578), (0, fz_r 53), (1, fz_i pe), (2, fz_i t), (3, fz_i hr), (4, fz_i 0), (5, fz_i su)]) kX11_tries rfl (by decide) rfl ?_
                      refine fz_iload kX11_tries rfl rfl ?_
                      refine fz_sipush ⟨by decide, by decide⟩ kX11_tries rfl ?_
                      refine fz_icmp_gt (tgt := 211) kX11_tries rfl (by decide) (fun c786 => ?_) (fun c786 => ?_)
                      · refine fz_iincN (ls' := [(6, fz_i (x578 + 1)), (8, fz_i z784), (7, fz_i (h 56 (x578.toNat))), (0, fz_r 53), (1, fz_i pe), (2, fz_i t), (3, fz_i hr), (4, fz_i 0), (5, fz_i su)]) kX11_tries rfl (by decide) rfl (by omega) rfl ?_
                        refine fz_goto (tgt := 79) kX11_tries rfl (by decide) ?_
                        refine fz_sub (fz_pk_sub (ls' := [(6, fz_i (x578 + 1)), (0, fz_r 53), (1, fz_i pe), (2, fz_i t), (3, fz_i hr), (4, fz_i 0), (5, fz_i su)]) [0, 3, 4, 5, 6, 7, 8] rfl) ?_
                        exact ih587 (x578 + 1) H582 hI583 hf584 hXw579 hHB580 hRM581 (by omega) (by omega)
                      · refine fz_aload_n kX11_tries rfl rfl ?_
                        refine fz_iload_n kX11_tries rfl rfl ?_
                        refine fz_iload kX11_tries rfl rfl ?_
                        refine fz_iload kX11_tries rfl rfl ?_
                        have b787 : 0 ≤ h 53 0 ∧ h 53 0 ≤ 8 := hI.1 53 _
                        have b788 : 0 ≤ h 53 8 ∧ h 53 8 ≤ 99 := hI.1 53 _
                        have e789 : H582 53 0 = h 53 0 := hf584 53 0 rfl
                        have e790 : H582 53 8 = h 53 8 := hf584 53 8 rfl
                        refine fz_callV (d' := 4) (M' := mX11_isArrested) (As := [fz_i pe, fz_i (h 56 (x578.toNat)), fz_i z784]) (st := []) kX11_tries rfl rfl vX11_isArrested rfl rfl rfl rfl (Nat.le_of_ble_eq_true rfl) (Nat.le_of_ble_eq_true rfl) (by decide) (sX11_isArrested H582 hI583 pe (h 56 (x578.toNat)) z784 hXw579 hHB580 (by omega) (by omega)) (fun H791 r792 q793 o794 => ?_)
                        obtain ⟨hI795, hf796, hXw797, hHB798, y800, rfl, p801, f799⟩ := q793
                        clear o794
                        have hf802 := fz_fr_tr hf584 hf796 (show fz_su [(74, 99999), (75, 99999)] [(53, 54), (53, 55), (74, 99999), (75, 99999), (89, 99999), (90, 99999)] = true from rfl)
                        have hRM803 : fz_RM H791 := fz_RM_eq (funext fun s => hf796 55 s rfl) (funext fun s => hf796 56 s rfl) (hf796 53 0 rfl) (hf796 53 2 rfl) hRM581
                        have t804 : H791 53 0 = H582 53 0 := hf796 53 0 rfl
                        refine fz_if_eq (tgt := 177) kX11_tries rfl (by decide) (fun c805 => ?_) (fun c805 => ?_)
                        · refine fz_aload_n kX11_tries rfl rfl ?_
                          refine fz_getR (t := 90) kX11_tries rfl rfl ?_
                          refine fz_iload kX11_tries rfl rfl ?_
                          refine fz_iload kX11_tries rfl rfl ?_
                          refine fz_iast (n := 4) kX11_tries rfl rfl (by omega) (by omega) ?_
                          refine fz_nmu (S := [(53, 54), (53, 55), (74, 99999), (75, 99999), (89, 99999), (90, 99999)]) (h0 := h) (fz_Iv_up hI795 (by decide) (show (0 : Int) ≤ (h 56 (x578.toNat)) by omega) (show ((h 56 (x578.toNat)) : Int) ≤ 7 by omega)) (fz_fr_up hf802 rfl) (fun H806 hI807 hf808 e809 => ?_)
                          have t810 : H806 53 0 = H791 53 0 := by rw [e809]; exact fz_up_o (by decide)
                          have hXw811 : fz_Xw H806 := fz_Xw_eq (by rw [e809]; exact fz_up_o (by decide)) (by rw [e809]; exact fz_up_ne (by decide)) (by rw [e809]; exact fz_up_ne (by decide)) (by rw [e809]; exact fz_up_ne (by decide)) (by rw [e809]; exact fz_up_ne (by decide)) hXw797
                          have hHB812 : fl_HB H806 := fl_HB_eq (by rw [e809]; exact fz_up_ne (by decide)) (by rw [e809]; exact fz_up_ne (by decide)) (by rw [e809]; exact fz_up_o (by decide)) (by rw [e809]; exact fz_up_o (by decide)) hHB798
                          have hRM813 : fz_RM H806 := fz_RM_eq (by rw [e809]; exact fz_up_ne (by decide)) (by rw [e809]; exact fz_up_ne (by decide)) (by rw [e809]; exact fz_up_o (by decide)) (by rw [e809]; exact fz_up_o (by decide)) hRM803
                          clear e809
                          refine fz_aload_n kX11_tries rfl rfl ?_
                          refine fz_iload_n kX11_tries rfl rfl ?_
                          refine fz_iload kX11_tries rfl rfl ?_
                          refine fz_iload kX11_tries rfl rfl ?_
                          refine fz_iload kX11_tries rfl rfl ?_
                          refine fz_iconst ⟨by decide, by decide⟩ kX11_tries rfl ?_
                          refine fz_iaddN kX11_tries rfl ⟨by decide, by decide⟩ ?_
                          refine fz_eqi (y := 1) rfl ?_
                          refine fz_iload kX11_tries rfl rfl ?_
                          refine fz_aload_n kX11_tries rfl rfl ?_
                          refine fz_iload_n kX11_tries rfl rfl ?_
                          refine fz_iload kX11_tries rfl rfl ?_
                          refine fz_iload kX11_tries rfl rfl ?_
                          have e814 : H806 53 0 = h 53 0 := hf808 53 0 rfl
                          refine fz_callV (d' := 4) (M' := mX11_receivedIn) (As := [fz_i pe, fz_i (h 56 (x578.toNat)), fz_i z784]) (st := [fz_i su, fz_i 1, fz_i z784, fz_i (h 56 (x578.toNat)), fz_i pe, fz_r 53]) kX11_tries rfl rfl vX11_receivedIn rfl rfl rfl rfl (Nat.le_of_ble_eq_true rfl) (Nat.le_of_ble_eq_true rfl) (by decide) (sX11_receivedIn H806 hI807 pe (h 56 (x578.toNat)) z784 hXw811 hHB812 (by omega) (by omega)) (fun H815 r816 q817 o818 => ?_)
                          obtain ⟨hI819, hf820, hXw821, hHB822, y825, rfl, f823, f824⟩ := q817
                          clear o818
                          have hf826 := fz_fr_tr hf808 hf820 (show fz_su [(74, 99999), (75, 99999)] [(53, 54), (53, 55), (74, 99999), (75, 99999), (89, 99999), (90, 99999)] = true from rfl)
                          have hRM827 : fz_RM H815 := fz_RM_eq (funext fun s => hf820 55 s rfl) (funext fun s => hf820 56 s rfl) (hf820 53 0 rfl) (hf820 53 2 rfl) hRM813
                          have t828 : H815 53 0 = H806 53 0 := hf820 53 0 rfl
                          refine fz_iadd kX11_tries rfl ?_
                          refine fz_nmw (fun z829 e830 => ?_)
                          have e831 : H815 53 0 = h 53 0 := hf826 53 0 rfl
                          refine fz_callV (d' := 7) (M' := mX11_tries) (As := [fz_i pe, fz_i (h 56 (x578.toNat)), fz_i z784, fz_i 1, fz_i z829]) (st := []) kX11_tries rfl rfl vX11_tries rfl rfl rfl rfl (Nat.le_of_ble_eq_true rfl) (Nat.le_of_ble_eq_true rfl) (by decide) (sX11_tries_1 H815 hI819 pe (h 56 (x578.toNat)) z784 z829 hXw821 hHB822 hRM827 (by omega) (by omega)) (fun H832 r833 q834 o835 => ?_)
                          obtain ⟨hI836, hf837, hXw838, hHB839, hRM840, rfl⟩ := q834
                          clear o835
                          have hf841 := fz_fr_tr hf826 hf837 (show fz_su [(53, 54), (53, 55), (74, 99999), (75, 99999), (89, 99999), (90, 99999)] [(53, 54), (53, 55), (74, 99999), (75, 99999), (89, 99999), (90, 99999)] = true from rfl)
                          have t842 : H832 53 0 = H815 53 0 := hf837 53 0 rfl
                          refine fz_iincN (ls' := [(6, fz_i (x578 + 1)), (8, fz_i z784), (7, fz_i (h 56 (x578.toNat))), (0, fz_r 53), (1, fz_i pe), (2, fz_i t), (3, fz_i hr), (4, fz_i 0), (5, fz_i su)]) kX11_tries rfl (by decide) rfl (by omega) rfl ?_
                          refine fz_goto (tgt := 79) kX11_tries rfl (by decide) ?_
                          refine fz_sub (fz_pk_sub (ls' := [(6, fz_i (x578 + 1)), (0, fz_r 53), (1, fz_i pe), (2, fz_i t), (3, fz_i hr), (4, fz_i 0), (5, fz_i su)]) [0, 3, 4, 5, 6, 7, 8] rfl) ?_
                          exact ih587 (x578 + 1) H832 hI836 hf841 hXw838 hHB839 hRM840 (by omega) (by omega)
                        · refine fz_goto (tgt := 211) kX11_tries rfl (by decide) ?_
                          refine fz_iincN (ls' := [(6, fz_i (x578 + 1)), (8, fz_i z784), (7, fz_i (h 56 (x578.toNat))), (0, fz_r 53), (1, fz_i pe), (2, fz_i t), (3, fz_i hr), (4, fz_i 0), (5, fz_i su)]) kX11_tries rfl (by decide) rfl (by omega) rfl ?_
                          refine fz_goto (tgt := 79) kX11_tries rfl (by decide) ?_
                          refine fz_sub (fz_pk_sub (ls' := [(6, fz_i (x578 + 1)), (0, fz_r 53), (1, fz_i pe), (2, fz_i t), (3, fz_i hr), (4, fz_i 0), (5, fz_i su)]) [0, 3, 4, 5, 6, 7, 8] rfl) ?_
                          exact ih587 (x578 + 1) H791 hI795 hf802 hXw797 hHB798 hRM803 (by omega) (by omega)
                  · refine fz_goto (tgt := 211) kX11_tries rfl (by decide) ?_
                    refine fz_iincN (ls' := [(6, fz_i (x578 + 1)), (0, fz_r 53), (1, fz_i pe), (2, fz_i t), (3, fz_i hr), (4, fz_i 0), (5, fz_i su)]) kX11_tries rfl (by decide) rfl (by omega) rfl ?_
                    refine fz_goto (tgt := 79) kX11_tries rfl (by decide) ?_
                    exact ih587 (x578 + 1) H582 hI583 hf584 hXw579 hHB580 hRM581 (by omega) (by omega)
          exact lp586 _ 0 h hI hf hXw hHB hRM (by omega) (Nat.lt_succ_self _)
        · exfalso; omega
      · refine fz_aload_n kX11_tries rfl rfl ?_
        refine fz_iload kX11_tries rfl rfl ?_
        refine fz_putI kX11_tries rfl rfl rfl ?_
        refine fz_nmu (S := [(53, 54), (53, 55), (74, 99999), (75, 99999), (89, 99999), (90, 99999)]) (h0 := h) (fz_Iv_up hI (by decide) (show ((-2147483648) : Int) ≤ su by omega) (show (su : Int) ≤ 2147483647 by omega)) (fz_fr_up hf rfl) (fun H843 hI844 hf845 e846 => ?_)
        have k847 : H843 53 54 = su := by rw [e846]; exact fz_up_e
        have t848 : H843 53 0 = h 53 0 := by rw [e846]; exact fz_up_s (by decide)
        have hXw849 : fz_Xw H843 := fz_Xw_eq (by rw [e846]; exact fz_up_s (by decide)) (by rw [e846]; exact fz_up_ne (by decide)) (by rw [e846]; exact fz_up_ne (by decide)) (by rw [e846]; exact fz_up_ne (by decide)) (by rw [e846]; exact fz_up_ne (by decide)) hXw
        have hHB850 : fl_HB H843 := fl_HB_eq (by rw [e846]; exact fz_up_ne (by decide)) (by rw [e846]; exact fz_up_ne (by decide)) (by rw [e846]; exact fz_up_s (by decide)) (by rw [e846]; exact fz_up_s (by decide)) hHB
        have hRM851 : fz_RM H843 := fz_RM_eq (by rw [e846]; exact fz_up_ne (by decide)) (by rw [e846]; exact fz_up_ne (by decide)) (by rw [e846]; exact fz_up_s (by decide)) (by rw [e846]; exact fz_up_s (by decide)) hRM
        clear e846
        refine fz_aload_n kX11_tries rfl rfl ?_
        refine fz_iload kX11_tries rfl rfl ?_
        refine fz_putI kX11_tries rfl rfl rfl ?_
        refine fz_nmu (S := [(53, 54), (53, 55), (74, 99999), (75, 99999), (89, 99999), (90, 99999)]) (h0 := h) (fz_Iv_up hI844 (by decide) (show (0 : Int) ≤ 0 by decide) (show (0 : Int) ≤ 4 by decide)) (fz_fr_up hf845 rfl) (fun H852 hI853 hf854 e855 => ?_)
        have k856 : H852 53 54 = su := by rw [e855]; exact (fz_up_s (by decide)).trans k847
        have k857 : H852 53 55 = 0 := by rw [e855]; exact fz_up_e
        have t858 : H852 53 0 = H843 53 0 := by rw [e855]; exact fz_up_s (by decide)
        have hXw859 : fz_Xw H852 := fz_Xw_eq (by rw [e855]; exact fz_up_s (by decide)) (by rw [e855]; exact fz_up_ne (by decide)) (by rw [e855]; exact fz_up_ne (by decide)) (by rw [e855]; exact fz_up_ne (by decide)) (by rw [e855]; exact fz_up_ne (by decide)) hXw849
        have hHB860 : fl_HB H852 := fl_HB_eq (by rw [e855]; exact fz_up_ne (by decide)) (by rw [e855]; exact fz_up_ne (by decide)) (by rw [e855]; exact fz_up_s (by decide)) (by rw [e855]; exact fz_up_s (by decide)) hHB850
        have hRM861 : fz_RM H852 := fz_RM_eq (by rw [e855]; exact fz_up_ne (by decide)) (by rw [e855]; exact fz_up_ne (by decide)) (by rw [e855]; exact fz_up_s (by decide)) (by rw [e855]; exact fz_up_s (by decide)) hRM851
        clear e855
        refine fz_iconst ⟨by decide, by decide⟩ kX11_tries rfl ?_
        refine fz_istore (ls' := [(6, fz_i 0), (0, fz_r 53), (1, fz_i pe), (2, fz_i t), (3, fz_i hr), (4, fz_i 0), (5, fz_i su)]) kX11_tries rfl (by decide) rfl ?_
        have lp870 : ∀ (n869 : Nat) (x862 : Int) (H866 : fz_H), fz_Iv H866 → fz_fr [(53, 54), (53, 55), (74, 99999), (75, 99999), (89, 99999), (90, 99999)] h H866 → fz_Xw H866 → fl_HB H866 → fz_RM H866 → (0 ≤ x862 ∧ x862 ≤ 2147483647) → (0 - x862).toNat < n869 → fz_R 8 mX11_tries 42 [(6, fz_i x862), (0, fz_r 53), (1, fz_i pe), (2, fz_i t), (3, fz_i hr), (4, fz_i 0), (5, fz_i su)] [] H866 (qX11_tries_0 h pe t hr su) := by
          intro n869
          induction n869 with
          | zero => intro x862 H866 hI867 hf868 hXw863 hHB864 hRM865 hv873 hm872; exact absurd hm872 (by omega)
          | succ n869 ih871 =>
            intro x862 H866 hI867 hf868 hXw863 hHB864 hRM865 hv873 hm872
            refine fz_iload kX11_tries rfl rfl ?_
            refine fz_iload kX11_tries rfl rfl ?_
            refine fz_icmp_ge (tgt := 69) kX11_tries rfl (by decide) (fun c874 => ?_) (fun c874 => ?_)
            · refine fz_iload kX11_tries rfl rfl ?_
              refine fz_iconst ⟨by decide, by decide⟩ kX11_tries rfl ?_
              refine fz_icmp_ne (tgt := 76) kX11_tries rfl (by decide) (fun c875 => ?_) (fun c875 => ?_)
              · refine fz_iconst ⟨by decide, by decide⟩ kX11_tries rfl ?_
                refine fz_istore (ls' := [(6, fz_i 0), (0, fz_r 53), (1, fz_i pe), (2, fz_i t), (3, fz_i hr), (4, fz_i 0), (5, fz_i su)]) kX11_tries rfl (by decide) rfl ?_
                have lp884 : ∀ (n883 : Nat) (x876 : Int) (H880 : fz_H), fz_Iv H880 → fz_fr [(53, 54), (53, 55), (74, 99999), (75, 99999), (89, 99999), (90, 99999)] h H880 → fz_Xw H880 → fl_HB H880 → fz_RM H880 → (0 ≤ x876 ∧ x876 ≤ 2147483647) → ((h 53 2) - x876).toNat < n883 → fz_R 8 mX11_tries 79 [(6, fz_i x876), (0, fz_r 53), (1, fz_i pe), (2, fz_i t), (3, fz_i hr), (4, fz_i 0), (5, fz_i su)] [] H880 (qX11_tries_0 h pe t hr su) := by
                  intro n883
                  induction n883 with
                  | zero => intro x876 H880 hI881 hf882 hXw877 hHB878 hRM879 hv887 hm886; exact absurd hm886 (by omega)
                  | succ n883 ih885 =>
                    intro x876 H880 hI881 hf882 hXw877 hHB878 hRM879 hv887 hm886
                    refine fz_iload kX11_tries rfl rfl ?_
                    refine fz_aload_n kX11_tries rfl rfl ?_
                    refine fz_getV (v := h 53 2) kX11_tries rfl rfl (hf882 53 2 rfl) ?_
                    have b888 : 0 ≤ h 53 2 ∧ h 53 2 ≤ 12 := hI.1 53 _
                    refine fz_icmp_ge (tgt := 217) kX11_tries rfl (by decide) (fun c889 => ?_) (fun c889 => ?_)
                    · exact fz_vret kX11_tries rfl rfl ⟨hI881, hf882, hXw877, hHB878, hRM879, rfl⟩
                    · refine fz_aload_n kX11_tries rfl rfl ?_
                      refine fz_getR (t := 55) kX11_tries rfl rfl ?_
                      refine fz_iload kX11_tries rfl rfl ?_
                      refine fz_ialdV (n := 12) (v := h 55 (x876.toNat)) kX11_tries rfl rfl (by omega) (by omega) (hf882 55 _ rfl) ?_
                      have b890 : 0 ≤ h 55 (x876.toNat) ∧ h 55 (x876.toNat) ≤ 7 := hI.1 55 _
                      refine fz_iload_n kX11_tries rfl rfl ?_
                      refine fz_icmp_eq (tgt := 113) kX11_tries rfl (by decide) (fun c891 => ?_) (fun c891 => ?_)
                      · refine fz_aload_n kX11_tries rfl rfl ?_
                        refine fz_getR (t := 55) kX11_tries rfl rfl ?_
                        refine fz_iload kX11_tries rfl rfl ?_
                        refine fz_ialdV (n := 12) (v := h 55 (x876.toNat)) kX11_tries rfl rfl (by omega) (by omega) (hf882 55 _ rfl) ?_
                        refine fz_iload_n kX11_tries rfl rfl ?_
                        refine fz_icmp_ne (tgt := 134) kX11_tries rfl (by decide) (fun c892 => ?_) (fun c892 => ?_)
                        · refine fz_aload_n kX11_tries rfl rfl ?_
                          refine fz_getR (t := 55) kX11_tries rfl rfl ?_
                          refine fz_iload kX11_tries rfl rfl ?_
                          refine fz_ialdV (n := 12) (v := h 55 (x876.toNat)) kX11_tries rfl rfl (by omega) (by omega) (hf882 55 _ rfl) ?_
                          have k893 := hRM (x876).toNat (by omega)
                          refine fz_istore (ls' := [(7, fz_i (h 55 (x876.toNat))), (6, fz_i x876), (0, fz_r 53), (1, fz_i pe), (2, fz_i t), (3, fz_i hr), (4, fz_i 0), (5, fz_i su)]) kX11_tries rfl (by decide) rfl ?_
                          refine fz_iload_n kX11_tries rfl rfl ?_
                          refine fz_aload_n kX11_tries rfl rfl ?_
                          refine fz_getR (t := 57) kX11_tries rfl rfl ?_
                          refine fz_iload kX11_tries rfl rfl ?_
                          refine fz_ialdV (n := 12) (v := h 57 (x876.toNat)) kX11_tries rfl rfl (by omega) (by omega) (hf882 57 _ rfl) ?_
                          have b894 : 0 ≤ h 57 (x876.toNat) ∧ h 57 (x876.toNat) ≤ 24 := hI.1 57 _
                          refine fz_iadd kX11_tries rfl ?_
                          refine fz_nmw (fun z895 e896 => ?_)
                          refine fz_istore (ls' := [(8, fz_i z895), (7, fz_i (h 55 (x876.toNat))), (6, fz_i x876), (0, fz_r 53), (1, fz_i pe), (2, fz_i t), (3, fz_i hr), (4, fz_i 0), (5, fz_i su)]) kX11_tries rfl (by decide) rfl ?_
                          refine fz_iload kX11_tries rfl rfl ?_
                          refine fz_sipush ⟨by decide, by decide⟩ kX11_tries rfl ?_
                          refine fz_icmp_gt (tgt := 211) kX11_tries rfl (by decide) (fun c897 => ?_) (fun c897 => ?_)
                          · refine fz_iincN (ls' := [(6, fz_i (x876 + 1)), (8, fz_i z895), (7, fz_i (h 55 (x876.toNat))), (0, fz_r 53), (1, fz_i pe), (2, fz_i t), (3, fz_i hr), (4, fz_i 0), (5, fz_i su)]) kX11_tries rfl (by decide) rfl (by omega) rfl ?_
                            refine fz_goto (tgt := 79) kX11_tries rfl (by decide) ?_
                            refine fz_sub (fz_pk_sub (ls' := [(6, fz_i (x876 + 1)), (0, fz_r 53), (1, fz_i pe), (2, fz_i t), (3, fz_i hr), (4, fz_i 0), (5, fz_i su)]) [0, 3, 4, 5, 6, 7, 8] rfl) ?_
                            exact ih885 (x876 + 1) H880 hI881 hf882 hXw877 hHB878 hRM879 (by omega) (by omega)
                          · refine fz_aload_n kX11_tries rfl rfl ?_
                            refine fz_iload_n kX11_tries rfl rfl ?_
                            refine fz_iload kX11_tries rfl rfl ?_
                            refine fz_iload kX11_tries rfl rfl ?_
                            have b898 : 0 ≤ h 53 0 ∧ h 53 0 ≤ 8 := hI.1 53 _
                            have b899 : 0 ≤ h 53 8 ∧ h 53 8 ≤ 99 := hI.1 53 _
                            have e900 : H880 53 0 = h 53 0 := hf882 53 0 rfl
                            have e901 : H880 53 8 = h 53 8 := hf882 53 8 rfl
                            refine fz_callV (d' := 4) (M' := mX11_isArrested) (As := [fz_i pe, fz_i (h 55 (x876.toNat)), fz_i z895]) (st := []) kX11_tries rfl rfl vX11_isArrested rfl rfl rfl rfl (Nat.le_of_ble_eq_true rfl) (Nat.le_of_ble_eq_true rfl) (by decide) (sX11_isArrested H880 hI881 pe (h 55 (x876.toNat)) z895 hXw877 hHB878 (by omega) (by omega)) (fun H902 r903 q904 o905 => ?_)
                            obtain ⟨hI906, hf907, hXw908, hHB909, y911, rfl, p912, f910⟩ := q904
                            clear o905
                            have hf913 := fz_fr_tr hf882 hf907 (show fz_su [(74, 99999), (75, 99999)] [(53, 54), (53, 55), (74, 99999), (75, 99999), (89, 99999), (90, 99999)] = true from rfl)
                            have hRM914 : fz_RM H902 := fz_RM_eq (funext fun s => hf907 55 s rfl) (funext fun s => hf907 56 s rfl) (hf907 53 0 rfl) (hf907 53 2 rfl) hRM879
                            have t915 : H902 53 0 = H880 53 0 := hf907 53 0 rfl
                            refine fz_if_eq (tgt := 177) kX11_tries rfl (by decide) (fun c916 => ?_) (fun c916 => ?_)
                            · refine fz_aload_n kX11_tries rfl rfl ?_
                              refine fz_getR (t := 90) kX11_tries rfl rfl ?_
                              refine fz_iload kX11_tries rfl rfl ?_
                              refine fz_iload kX11_tries rfl rfl ?_
                              refine fz_iast (n := 4) kX11_tries rfl rfl (by omega) (by omega) ?_
                              refine fz_nmu (S := [(53, 54), (53, 55), (74, 99999), (75, 99999), (89, 99999), (90, 99999)]) (h0 := h) (fz_Iv_up hI906 (by decide) (show (0 : Int) ≤ (h 55 (x876.toNat)) by omega) (show ((h 55 (x876.toNat)) : Int) ≤ 7 by omega)) (fz_fr_up hf913 rfl) (fun H917 hI918 hf919 e920 => ?_)
                              have t921 : H917 53 0 = H902 53 0 := by rw [e920]; exact fz_up_o (by decide)
                              have hXw922 : fz_Xw H917 := fz_Xw_eq (by rw [e920]; exact fz_up_o (by decide)) (by rw [e920]; exact fz_up_ne (by decide)) (by rw [e920]; exact fz_up_ne (by decide)) (by rw [e920]; exact fz_up_ne (by decide)) (by rw [e920]; exact fz_up_ne (by decide)) hXw908
                              have hHB923 : fl_HB H917 := fl_HB_eq (by rw [e920]; exact fz_up_ne (by decide)) (by rw [e920]; exact fz_up_ne (by decide)) (by rw [e920]; exact fz_up_o (by decide)) (by rw [e920]; exact fz_up_o (by decide)) hHB909
                              have hRM924 : fz_RM H917 := fz_RM_eq (by rw [e920]; exact fz_up_ne (by decide)) (by rw [e920]; exact fz_up_ne (by decide)) (by rw [e920]; exact fz_up_o (by decide)) (by rw [e920]; exact fz_up_o (by decide)) hRM914
                              clear e920
                              refine fz_aload_n kX11_tries rfl rfl ?_
                              refine fz_iload_n kX11_tries rfl rfl ?_
                              refine fz_iload kX11_tries rfl rfl ?_
                              refine fz_iload kX11_tries rfl rfl ?_
                              refine fz_iload kX11_tries rfl rfl ?_
                              refine fz_iconst ⟨by decide, by decide⟩ kX11_tries rfl ?_
                              refine fz_iaddN kX11_tries rfl ⟨by decide, by decide⟩ ?_
                              refine fz_eqi (y := 1) rfl ?_
                              refine fz_iload kX11_tries rfl rfl ?_
                              refine fz_aload_n kX11_tries rfl rfl ?_
                              refine fz_iload_n kX11_tries rfl rfl ?_
                              refine fz_iload kX11_tries rfl rfl ?_
                              refine fz_iload kX11_tries rfl rfl ?_
                              have e925 : H917 53 0 = h 53 0 := hf919 53 0 rfl
                              refine fz_callV (d' := 4) (M' := mX11_receivedIn) (As := [fz_i pe, fz_i (h 55 (x876.toNat)), fz_i z895]) (st := [fz_i su, fz_i 1, fz_i z895, fz_i (h 55 (x876.toNat)), fz_i pe, fz_r 53]) kX11_tries rfl rfl vX11_receivedIn rfl rfl rfl rfl (Nat.le_of_ble_eq_true rfl) (Nat.le_of_ble_eq_true rfl) (by decide) (sX11_receivedIn H917 hI918 pe (h 55 (x876.toNat)) z895 hXw922 hHB923 (by omega) (by omega)) (fun H926 r927 q928 o929 => ?_)
                              obtain ⟨hI930, hf931, hXw932, hHB933, y936, rfl, f934, f935⟩ := q928
                              clear o929
                              have hf937 := fz_fr_tr hf919 hf931 (show fz_su [(74, 99999), (75, 99999)] [(53, 54), (53, 55), (74, 99999), (75, 99999), (89, 99999), (90, 99999)] = true from rfl)
                              have hRM938 : fz_RM H926 := fz_RM_eq (funext fun s => hf931 55 s rfl) (funext fun s => hf931 56 s rfl) (hf931 53 0 rfl) (hf931 53 2 rfl) hRM924
                              have t939 : H926 53 0 = H917 53 0 := hf931 53 0 rfl
                              refine fz_iadd kX11_tries rfl ?_
                              refine fz_nmw (fun z940 e941 => ?_)
                              have e942 : H926 53 0 = h 53 0 := hf937 53 0 rfl
                              refine fz_callV (d' := 7) (M' := mX11_tries) (As := [fz_i pe, fz_i (h 55 (x876.toNat)), fz_i z895, fz_i 1, fz_i z940]) (st := []) kX11_tries rfl rfl vX11_tries rfl rfl rfl rfl (Nat.le_of_ble_eq_true rfl) (Nat.le_of_ble_eq_true rfl) (by decide) (sX11_tries_1 H926 hI930 pe (h 55 (x876.toNat)) z895 z940 hXw932 hHB933 hRM938 (by omega) (by omega)) (fun H943 r944 q945 o946 => ?_)
                              obtain ⟨hI947, hf948, hXw949, hHB950, hRM951, rfl⟩ := q945
                              clear o946
                              have hf952 := fz_fr_tr hf937 hf948 (show fz_su [(53, 54), (53, 55), (74, 99999), (75, 99999), (89, 99999), (90, 99999)] [(53, 54), (53, 55), (74, 99999), (75, 99999), (89, 99999), (90, 99999)] = true from rfl)
                              have t953 : H943 53 0 = H926 53 0 := hf948 53 0 rfl
                              refine fz_iincN (ls' := [(6, fz_i (x876 + 1)), (8, fz_i z895), (7, fz_i (h 55 (x876.toNat))), (0, fz_r 53), (1, fz_i pe), (2, fz_i t), (3, fz_i hr), (4, fz_i 0), (5, fz_i su)]) kX11_tries rfl (by decide) rfl (by omega) rfl ?_
                              refine fz_goto (tgt := 79) kX11_tries rfl (by decide) ?_
                              refine fz_sub (fz_pk_sub (ls' := [(6, fz_i (x876 + 1)), (0, fz_r 53), (1, fz_i pe), (2, fz_i t), (3, fz_i hr), (4, fz_i 0), (5, fz_i su)]) [0, 3, 4, 5, 6, 7, 8] rfl) ?_
                              exact ih885 (x876 + 1) H943 hI947 hf952 hXw949 hHB950 hRM951 (by omega) (by omega)
                            · refine fz_goto (tgt := 211) kX11_tries rfl (by decide) ?_
                              refine fz_iincN (ls' := [(6, fz_i (x876 + 1)), (8, fz_i z895), (7, fz_i (h 55 (x876.toNat))), (0, fz_r 53), (1, fz_i pe), (2, fz_i t), (3, fz_i hr), (4, fz_i 0), (5, fz_i su)]) kX11_tries rfl (by decide) rfl (by omega) rfl ?_
                              refine fz_goto (tgt := 79) kX11_tries rfl (by decide) ?_
                              refine fz_sub (fz_pk_sub (ls' := [(6, fz_i (x876 + 1)), (0, fz_r 53), (1, fz_i pe), (2, fz_i t), (3, fz_i hr), (4, fz_i 0), (5, fz_i su)]) [0, 3, 4, 5, 6, 7, 8] rfl) ?_
                              exact ih885 (x876 + 1) H902 hI906 hf913 hXw908 hHB909 hRM914 (by omega) (by omega)
                        · refine fz_aload_n kX11_tries rfl rfl ?_
                          refine fz_getR (t := 56) kX11_tries rfl rfl ?_
                          refine fz_iload kX11_tries rfl rfl ?_
                          refine fz_ialdV (n := 12) (v := h 56 (x876.toNat)) kX11_tries rfl rfl (by omega) (by omega) (hf882 56 _ rfl) ?_
                          have b954 : 0 ≤ h 56 (x876.toNat) ∧ h 56 (x876.toNat) ≤ 7 := hI.1 56 _
                          refine fz_goto (tgt := 141) kX11_tries rfl (by decide) ?_
                          have k955 := hRM (x876).toNat (by omega)
                          refine fz_istore (ls' := [(7, fz_i (h 56 (x876.toNat))), (6, fz_i x876), (0, fz_r 53), (1, fz_i pe), (2, fz_i t), (3, fz_i hr), (4, fz_i 0), (5, fz_i su)]) kX11_tries rfl (by decide) rfl ?_
                          refine fz_iload_n kX11_tries rfl rfl ?_
                          refine fz_aload_n kX11_tries rfl rfl ?_
                          refine fz_getR (t := 57) kX11_tries rfl rfl ?_
                          refine fz_iload kX11_tries rfl rfl ?_
                          refine fz_ialdV (n := 12) (v := h 57 (x876.toNat)) kX11_tries rfl rfl (by omega) (by omega) (hf882 57 _ rfl) ?_
                          have b956 : 0 ≤ h 57 (x876.toNat) ∧ h 57 (x876.toNat) ≤ 24 := hI.1 57 _
                          refine fz_iadd kX11_tries rfl ?_
                          refine fz_nmw (fun z957 e958 => ?_)
                          refine fz_istore (ls' := [(8, fz_i z957), (7, fz_i (h 56 (x876.toNat))), (6, fz_i x876), (0, fz_r 53), (1, fz_i pe), (2, fz_i t), (3, fz_i hr), (4, fz_i 0), (5, fz_i su)]) kX11_tries rfl (by decide) rfl ?_
                          refine fz_iload kX11_tries rfl rfl ?_
                          refine fz_sipush ⟨by decide, by decide⟩ kX11_tries rfl ?_
                          refine fz_icmp_gt (tgt := 211) kX11_tries rfl (by decide) (fun c959 => ?_) (fun c959 => ?_)
                          · refine fz_iincN (ls' := [(6, fz_i (x876 + 1)), (8, fz_i z957), (7, fz_i (h 56 (x876.toNat))), (0, fz_r 53), (1, fz_i pe), (2, fz_i t), (3, fz_i hr), (4, fz_i 0), (5, fz_i su)]) kX11_tries rfl (by decide) rfl (by omega) rfl ?_
                            refine fz_goto (tgt := 79) kX11_tries rfl (by decide) ?_
                            refine fz_sub (fz_pk_sub (ls' := [(6, fz_i (x876 + 1)), (0, fz_r 53), (1, fz_i pe), (2, fz_i t), (3, fz_i hr), (4, fz_i 0), (5, fz_i su)]) [0, 3, 4, 5, 6, 7, 8] rfl) ?_
                            exact ih885 (x876 + 1) H880 hI881 hf882 hXw877 hHB878 hRM879 (by omega) (by omega)
                          · refine fz_aload_n kX11_tries rfl rfl ?_
                            refine fz_iload_n kX11_tries rfl rfl ?_
                            refine fz_iload kX11_tries rfl rfl ?_
                            refine fz_iload kX11_tries rfl rfl ?_
                            have b960 : 0 ≤ h 53 0 ∧ h 53 0 ≤ 8 := hI.1 53 _
                            have b961 : 0 ≤ h 53 8 ∧ h 53 8 ≤ 99 := hI.1 53 _
                            have e962 : H880 53 0 = h 53 0 := hf882 53 0 rfl
                            have e963 : H880 53 8 = h 53 8 := hf882 53 8 rfl
                            refine fz_callV (d' := 4) (M' := mX11_isArrested) (As := [fz_i pe, fz_i (h 56 (x876.toNat)), fz_i z957]) (st := []) kX11_tries rfl rfl vX11_isArrested rfl rfl rfl rfl (Nat.le_of_ble_eq_true rfl) (Nat.le_of_ble_eq_true rfl) (by decide) (sX11_isArrested H880 hI881 pe (h 56 (x876.toNat)) z957 hXw877 hHB878 (by omega) (by omega)) (fun H964 r965 q966 o967 => ?_)
                            obtain ⟨hI968, hf969, hXw970, hHB971, y973, rfl, p974, f972⟩ := q966
                            clear o967
                            have hf975 := fz_fr_tr hf882 hf969 (show fz_su [(74, 99999), (75, 99999)] [(53, 54), (53, 55), (74, 99999), (75, 99999), (89, 99999), (90, 99999)] = true from rfl)
                            have hRM976 : fz_RM H964 := fz_RM_eq (funext fun s => hf969 55 s rfl) (funext fun s => hf969 56 s rfl) (hf969 53 0 rfl) (hf969 53 2 rfl) hRM879
                            have t977 : H964 53 0 = H880 53 0 := hf969 53 0 rfl
                            refine fz_if_eq (tgt := 177) kX11_tries rfl (by decide) (fun c978 => ?_) (fun c978 => ?_)
                            · refine fz_aload_n kX11_tries rfl rfl ?_
                              refine fz_getR (t := 90) kX11_tries rfl rfl ?_
                              refine fz_iload kX11_tries rfl rfl ?_
                              refine fz_iload kX11_tries rfl rfl ?_
                              refine fz_iast (n := 4) kX11_tries rfl rfl (by omega) (by omega) ?_
                              refine fz_nmu (S := [(53, 54), (53, 55), (74, 99999), (75, 99999), (89, 99999), (90, 99999)]) (h0 := h) (fz_Iv_up hI968 (by decide) (show (0 : Int) ≤ (h 56 (x876.toNat)) by omega) (show ((h 56 (x876.toNat)) : Int) ≤ 7 by omega)) (fz_fr_up hf975 rfl) (fun H979 hI980 hf981 e982 => ?_)
                              have t983 : H979 53 0 = H964 53 0 := by rw [e982]; exact fz_up_o (by decide)
                              have hXw984 : fz_Xw H979 := fz_Xw_eq (by rw [e982]; exact fz_up_o (by decide)) (by rw [e982]; exact fz_up_ne (by decide)) (by rw [e982]; exact fz_up_ne (by decide)) (by rw [e982]; exact fz_up_ne (by decide)) (by rw [e982]; exact fz_up_ne (by decide)) hXw970
                              have hHB985 : fl_HB H979 := fl_HB_eq (by rw [e982]; exact fz_up_ne (by decide)) (by rw [e982]; exact fz_up_ne (by decide)) (by rw [e982]; exact fz_up_o (by decide)) (by rw [e982]; exact fz_up_o (by decide)) hHB971
                              have hRM986 : fz_RM H979 := fz_RM_eq (by rw [e982]; exact fz_up_ne (by decide)) (by rw [e982]; exact fz_up_ne (by decide)) (by rw [e982]; exact fz_up_o (by decide)) (by rw [e982]; exact fz_up_o (by decide)) hRM976
                              clear e982
                              refine fz_aload_n kX11_tries rfl rfl ?_
                              refine fz_iload_n kX11_tries rfl rfl ?_
                              refine fz_iload kX11_tries rfl rfl ?_
                              refine fz_iload kX11_tries rfl rfl ?_
                              refine fz_iload kX11_tries rfl rfl ?_
                              refine fz_iconst ⟨by decide, by decide⟩ kX11_tries rfl ?_
                              refine fz_iaddN kX11_tries rfl ⟨by decide, by decide⟩ ?_
                              refine fz_eqi (y := 1) rfl ?_
                              refine fz_iload kX11_tries rfl rfl ?_
                              refine fz_aload_n kX11_tries rfl rfl ?_
                              refine fz_iload_n kX11_tries rfl rfl ?_
                              refine fz_iload kX11_tries rfl rfl ?_
                              refine fz_iload kX11_tries rfl rfl ?_
                              have e987 : H979 53 0 = h 53 0 := hf981 53 0 rfl
                              refine fz_callV (d' := 4) (M' := mX11_receivedIn) (As := [fz_i pe, fz_i (h 56 (x876.toNat)), fz_i z957]) (st := [fz_i su, fz_i 1, fz_i z957, fz_i (h 56 (x876.toNat)), fz_i pe, fz_r 53]) kX11_tries rfl rfl vX11_receivedIn rfl rfl rfl rfl (Nat.le_of_ble_eq_true rfl) (Nat.le_of_ble_eq_true rfl) (by decide) (sX11_receivedIn H979 hI980 pe (h 56 (x876.toNat)) z957 hXw984 hHB985 (by omega) (by omega)) (fun H988 r989 q990 o991 => ?_)
                              obtain ⟨hI992, hf993, hXw994, hHB995, y998, rfl, f996, f997⟩ := q990
                              clear o991
                              have hf999 := fz_fr_tr hf981 hf993 (show fz_su [(74, 99999), (75, 99999)] [(53, 54), (53, 55), (74, 99999), (75, 99999), (89, 99999), (90, 99999)] = true from rfl)
                              have hRM1000 : fz_RM H988 := fz_RM_eq (funext fun s => hf993 55 s rfl) (funext fun s => hf993 56 s rfl) (hf993 53 0 rfl) (hf993 53 2 rfl) hRM986
                              have t1001 : H988 53 0 = H979 53 0 := hf993 53 0 rfl
                              refine fz_iadd kX11_tries rfl ?_
                              refine fz_nmw (fun z1002 e1003 => ?_)
                              have e1004 : H988 53 0 = h 53 0 := hf999 53 0 rfl
                              refine fz_callV (d' := 7) (M' := mX11_tries) (As := [fz_i pe, fz_i (h 56 (x876.toNat)), fz_i z957, fz_i 1, fz_i z1002]) (st := []) kX11_tries rfl rfl vX11_tries rfl rfl rfl rfl (Nat.le_of_ble_eq_true rfl) (Nat.le_of_ble_eq_true rfl) (by decide) (sX11_tries_1 H988 hI992 pe (h 56 (x876.toNat)) z957 z1002 hXw994 hHB995 hRM1000 (by omega) (by omega)) (fun H1005 r1006 q1007 o1008 => ?_)
                              obtain ⟨hI1009, hf1010, hXw1011, hHB1012, hRM1013, rfl⟩ := q1007
                              clear o1008
                              have hf1014 := fz_fr_tr hf999 hf1010 (show fz_su [(53, 54), (53, 55), (74, 99999), (75, 99999), (89, 99999), (90, 99999)] [(53, 54), (53, 55), (74, 99999), (75, 99999), (89, 99999), (90, 99999)] = true from rfl)
                              have t1015 : H1005 53 0 = H988 53 0 := hf1010 53 0 rfl
                              refine fz_iincN (ls' := [(6, fz_i (x876 + 1)), (8, fz_i z957), (7, fz_i (h 56 (x876.toNat))), (0, fz_r 53), (1, fz_i pe), (2, fz_i t), (3, fz_i hr), (4, fz_i 0), (5, fz_i su)]) kX11_tries rfl (by decide) rfl (by omega) rfl ?_
                              refine fz_goto (tgt := 79) kX11_tries rfl (by decide) ?_
                              refine fz_sub (fz_pk_sub (ls' := [(6, fz_i (x876 + 1)), (0, fz_r 53), (1, fz_i pe), (2, fz_i t), (3, fz_i hr), (4, fz_i 0), (5, fz_i su)]) [0, 3, 4, 5, 6, 7, 8] rfl) ?_
                              exact ih885 (x876 + 1) H1005 hI1009 hf1014 hXw1011 hHB1012 hRM1013 (by omega) (by omega)
                            · refine fz_goto (tgt := 211) kX11_tries rfl (by decide) ?_
                              refine fz_iincN (ls' := [(6, fz_i (x876 + 1)), (8, fz_i z957), (7, fz_i (h 56 (x876.toNat))), (0, fz_r 53), (1, fz_i pe), (2, fz_i t), (3, fz_i hr), (4, fz_i 0), (5, fz_i su)]) kX11_tries rfl (by decide) rfl (by omega) rfl ?_
                              refine fz_goto (tgt := 79) kX11_tries rfl (by decide) ?_
                              refine fz_sub (fz_pk_sub (ls' := [(6, fz_i (x876 + 1)), (0, fz_r 53), (1, fz_i pe), (2, fz_i t), (3, fz_i hr), (4, fz_i 0), (5, fz_i su)]) [0, 3, 4, 5, 6, 7, 8] rfl) ?_
                              exact ih885 (x876 + 1) H964 hI968 hf975 hXw970 hHB971 hRM976 (by omega) (by omega)
                      · refine fz_aload_n kX11_tries rfl rfl ?_
                        refine fz_getR (t := 56) kX11_tries rfl rfl ?_
                        refine fz_iload kX11_tries rfl rfl ?_
                        refine fz_ialdV (n := 12) (v := h 56 (x876.toNat)) kX11_tries rfl rfl (by omega) (by omega) (hf882 56 _ rfl) ?_
                        have b1016 : 0 ≤ h 56 (x876.toNat) ∧ h 56 (x876.toNat) ≤ 7 := hI.1 56 _
                        refine fz_iload_n kX11_tries rfl rfl ?_
                        refine fz_icmp_eq (tgt := 113) kX11_tries rfl (by decide) (fun c1017 => ?_) (fun c1017 => ?_)
                        · refine fz_aload_n kX11_tries rfl rfl ?_
                          refine fz_getR (t := 55) kX11_tries rfl rfl ?_
                          refine fz_iload kX11_tries rfl rfl ?_
                          refine fz_ialdV (n := 12) (v := h 55 (x876.toNat)) kX11_tries rfl rfl (by omega) (by omega) (hf882 55 _ rfl) ?_
                          refine fz_iload_n kX11_tries rfl rfl ?_
                          refine fz_icmp_ne (tgt := 134) kX11_tries rfl (by decide) (fun c1018 => ?_) (fun c1018 => ?_)
                          · refine fz_aload_n kX11_tries rfl rfl ?_
                            refine fz_getR (t := 55) kX11_tries rfl rfl ?_
                            refine fz_iload kX11_tries rfl rfl ?_
                            refine fz_ialdV (n := 12) (v := h 55 (x876.toNat)) kX11_tries rfl rfl (by omega) (by omega) (hf882 55 _ rfl) ?_
                            have k1019 := hRM (x876).toNat (by omega)
                            refine fz_istore (ls' := [(7, fz_i (h 55 (x876.toNat))), (6, fz_i x876), (0, fz_r 53), (1, fz_i pe), (2, fz_i t), (3, fz_i hr), (4, fz_i 0), (5, fz_i su)]) kX11_tries rfl (by decide) rfl ?_
                            refine fz_iload_n kX11_tries rfl rfl ?_
                            refine fz_aload_n kX11_tries rfl rfl ?_
                            refine fz_getR (t := 57) kX11_tries rfl rfl ?_
                            refine fz_iload kX11_tries rfl rfl ?_
                            refine fz_ialdV (n := 12) (v := h 57 (x876.toNat)) kX11_tries rfl rfl (by omega) (by omega) (hf882 57 _ rfl) ?_
                            have b1020 : 0 ≤ h 57 (x876.toNat) ∧ h 57 (x876.toNat) ≤ 24 := hI.1 57 _
                            refine fz_iadd kX11_tries rfl ?_
                            refine fz_nmw (fun z1021 e1022 => ?_)
                            refine fz_istore (ls' := [(8, fz_i z1021), (7, fz_i (h 55 (x876.toNat))), (6, fz_i x876), (0, fz_r 53), (1, fz_i pe), (2, fz_i t), (3, fz_i hr), (4, fz_i 0), (5, fz_i su)]) kX11_tries rfl (by decide) rfl ?_
                            refine fz_iload kX11_tries rfl rfl ?_
                            refine fz_sipush ⟨by decide, by decide⟩ kX11_tries rfl ?_
                            refine fz_icmp_gt (tgt := 211) kX11_tries rfl (by decide) (fun c1023 => ?_) (fun c1023 => ?_)
                            · refine fz_iincN (ls' := [(6, fz_i (x876 + 1)), (8, fz_i z1021), (7, fz_i (h 55 (x876.toNat))), (0, fz_r 53), (1, fz_i pe), (2, fz_i t), (3, fz_i hr), (4, fz_i 0), (5, fz_i su)]) kX11_tries rfl (by decide) rfl (by omega) rfl ?_
                              refine fz_goto (tgt := 79) kX11_tries rfl (by decide) ?_
                              refine fz_sub (fz_pk_sub (ls' := [(6, fz_i (x876 + 1)), (0, fz_r 53), (1, fz_i pe), (2, fz_i t), (3, fz_i hr), (4, fz_i 0), (5, fz_i su)]) [0, 3, 4, 5, 6, 7, 8] rfl) ?_
                              exact ih885 (x876 + 1) H880 hI881 hf882 hXw877 hHB878 hRM879 (by omega) (by omega)
                            · refine fz_aload_n kX11_tries rfl rfl ?_
                              refine fz_iload_n kX11_tries rfl rfl ?_
                              refine fz_iload kX11_tries rfl rfl ?_
                              refine fz_iload kX11_tries rfl rfl ?_
                              have b1024 : 0 ≤ h 53 0 ∧ h 53 0 ≤ 8 := hI.1 53 _
                              have b1025 : 0 ≤ h 53 8 ∧ h 53 8 ≤ 99 := hI.1 53 _
                              have e1026 : H880 53 0 = h 53 0 := hf882 53 0 rfl
                              have e1027 : H880 53 8 = h 53 8 := hf882 53 8 rfl
                              refine fz_callV (d' := 4) (M' := mX11_isArrested) (As := [fz_i pe, fz_i (h 55 (x876.toNat)), fz_i z1021]) (st := []) kX11_tries rfl rfl vX11_isArrested rfl rfl rfl rfl (Nat.le_of_ble_eq_true rfl) (Nat.le_of_ble_eq_true rfl) (by decide) (sX11_isArrested H880 hI881 pe (h 55 (x876.toNat)) z1021 hXw877 hHB878 (by omega) (by omega)) (fun H1028 r1029 q1030 o1031 => ?_)
                              obtain ⟨hI1032, hf1033, hXw1034, hHB1035, y1037, rfl, p1038, f1036⟩ := q1030
                              clear o1031
                              have hf1039 := fz_fr_tr hf882 hf1033 (show fz_su [(74, 99999), (75, 99999)] [(53, 54), (53, 55), (74, 99999), (75, 99999), (89, 99999), (90, 99999)] = true from rfl)
                              have hRM1040 : fz_RM H1028 := fz_RM_eq (funext fun s => hf1033 55 s rfl) (funext fun s => hf1033 56 s rfl) (hf1033 53 0 rfl) (hf1033 53 2 rfl) hRM879
                              have t1041 : H1028 53 0 = H880 53 0 := hf1033 53 0 rfl
                              refine fz_if_eq (tgt := 177) kX11_tries rfl (by decide) (fun c1042 => ?_) (fun c1042 => ?_)
                              · refine fz_aload_n kX11_tries rfl rfl ?_
                                refine fz_getR (t := 90) kX11_tries rfl rfl ?_
                                refine fz_iload kX11_tries rfl rfl ?_
                                refine fz_iload kX11_tries rfl rfl ?_
                                refine fz_iast (n := 4) kX11_tries rfl rfl (by omega) (by omega) ?_
                                refine fz_nmu (S := [(53, 54), (53, 55), (74, 99999), (75, 99999), (89, 99999), (90, 99999)]) (h0 := h) (fz_Iv_up hI1032 (by decide) (show (0 : Int) ≤ (h 55 (x876.toNat)) by omega) (show ((h 55 (x876.toNat)) : Int) ≤ 7 by omega)) (fz_fr_up hf1039 rfl) (fun H1043 hI1044 hf1045 e1046 => ?_)
                                have t1047 : H1043 53 0 = H1028 53 0 := by rw [e1046]; exact fz_up_o (by decide)
                                have hXw1048 : fz_Xw H1043 := fz_Xw_eq (by rw [e1046]; exact fz_up_o (by decide)) (by rw [e1046]; exact fz_up_ne (by decide)) (by rw [e1046]; exact fz_up_ne (by decide)) (by rw [e1046]; exact fz_up_ne (by decide)) (by rw [e1046]; exact fz_up_ne (by decide)) hXw1034
                                have hHB1049 : fl_HB H1043 := fl_HB_eq (by rw [e1046]; exact fz_up_ne (by decide)) (by rw [e1046]; exact fz_up_ne (by decide)) (by rw [e1046]; exact fz_up_o (by decide)) (by rw [e1046]; exact fz_up_o (by decide)) hHB1035
                                have hRM1050 : fz_RM H1043 := fz_RM_eq (by rw [e1046]; exact fz_up_ne (by decide)) (by rw [e1046]; exact fz_up_ne (by decide)) (by rw [e1046]; exact fz_up_o (by decide)) (by rw [e1046]; exact fz_up_o (by decide)) hRM1040
                                clear e1046
                                refine fz_aload_n kX11_tries rfl rfl ?_
                                refine fz_iload_n kX11_tries rfl rfl ?_
                                refine fz_iload kX11_tries rfl rfl ?_
                                refine fz_iload kX11_tries rfl rfl ?_
                                refine fz_iload kX11_tries rfl rfl ?_
                                refine fz_iconst ⟨by decide, by decide⟩ kX11_tries rfl ?_
                                refine fz_iaddN kX11_tries rfl ⟨by decide, by decide⟩ ?_
                                refine fz_eqi (y := 1) rfl ?_
                                refine fz_iload kX11_tries rfl rfl ?_
                                refine fz_aload_n kX11_tries rfl rfl ?_
                                refine fz_iload_n kX11_tries rfl rfl ?_
                                refine fz_iload kX11_tries rfl rfl ?_
                                refine fz_iload kX11_tries rfl rfl ?_
                                have e1051 : H1043 53 0 = h 53 0 := hf1045 53 0 rfl
                                refine fz_callV (d' := 4) (M' := mX11_receivedIn) (As := [fz_i pe, fz_i (h 55 (x876.toNat)), fz_i z1021]) (st := [fz_i su, fz_i 1, fz_i z1021, fz_i (h 55 (x876.toNat)), fz_i pe, fz_r 53]) kX11_tries rfl rfl vX11_receivedIn rfl rfl rfl rfl (Nat.le_of_ble_eq_true rfl) (Nat.le_of_ble_eq_true rfl) (by decide) (sX11_receivedIn H1043 hI1044 pe (h 55 (x876.toNat)) z1021 hXw1048 hHB1049 (by omega) (by omega)) (fun H1052 r1053 q1054 o1055 => ?_)
                                obtain ⟨hI1056, hf1057, hXw1058, hHB1059, y1062, rfl, f1060, f1061⟩ := q1054
                                clear o1055
                                have hf1063 := fz_fr_tr hf1045 hf1057 (show fz_su [(74, 99999), (75, 99999)] [(53, 54), (53, 55), (74, 99999), (75, 99999), (89, 99999), (90, 99999)] = true from rfl)
                                have hRM1064 : fz_RM H1052 := fz_RM_eq (funext fun s => hf1057 55 s rfl) (funext fun s => hf1057 56 s rfl) (hf1057 53 0 rfl) (hf1057 53 2 rfl) hRM1050
                                have t1065 : H1052 53 0 = H1043 53 0 := hf1057 53 0 rfl
                                refine fz_iadd kX11_tries rfl ?_
                                refine fz_nmw (fun z1066 e1067 => ?_)
                                have e1068 : H1052 53 0 = h 53 0 := hf1063 53 0 rfl
                                refine fz_callV (d' := 7) (M' := mX11_tries) (As := [fz_i pe, fz_i (h 55 (x876.toNat)), fz_i z1021, fz_i 1, fz_i z1066]) (st := []) kX11_tries rfl rfl vX11_tries rfl rfl rfl rfl (Nat.le_of_ble_eq_true rfl) (Nat.le_of_ble_eq_true rfl) (by decide) (sX11_tries_1 H1052 hI1056 pe (h 55 (x876.toNat)) z1021 z1066 hXw1058 hHB1059 hRM1064 (by omega) (by omega)) (fun H1069 r1070 q1071 o1072 => ?_)
                                obtain ⟨hI1073, hf1074, hXw1075, hHB1076, hRM1077, rfl⟩ := q1071
                                clear o1072
                                have hf1078 := fz_fr_tr hf1063 hf1074 (show fz_su [(53, 54), (53, 55), (74, 99999), (75, 99999), (89, 99999), (90, 99999)] [(53, 54), (53, 55), (74, 99999), (75, 99999), (89, 99999), (90, 99999)] = true from rfl)
                                have t1079 : H1069 53 0 = H1052 53 0 := hf1074 53 0 rfl
                                refine fz_iincN (ls' := [(6, fz_i (x876 + 1)), (8, fz_i z1021), (7, fz_i (h 55 (x876.toNat))), (0, fz_r 53), (1, fz_i pe), (2, fz_i t), (3, fz_i hr), (4, fz_i 0), (5, fz_i su)]) kX11_tries rfl (by decide) rfl (by omega) rfl ?_
                                refine fz_goto (tgt := 79) kX11_tries rfl (by decide) ?_
                                refine fz_sub (fz_pk_sub (ls' := [(6, fz_i (x876 + 1)), (0, fz_r 53), (1, fz_i pe), (2, fz_i t), (3, fz_i hr), (4, fz_i 0), (5, fz_i su)]) [0, 3, 4, 5, 6, 7, 8] rfl) ?_
                                exact ih885 (x876 + 1) H1069 hI1073 hf1078 hXw1075 hHB1076 hRM1077 (by omega) (by omega)
                              · refine fz_goto (tgt := 211) kX11_tries rfl (by decide) ?_
                                refine fz_iincN (ls' := [(6, fz_i (x876 + 1)), (8, fz_i z1021), (7, fz_i (h 55 (x876.toNat))), (0, fz_r 53), (1, fz_i pe), (2, fz_i t), (3, fz_i hr), (4, fz_i 0), (5, fz_i su)]) kX11_tries rfl (by decide) rfl (by omega) rfl ?_
                                refine fz_goto (tgt := 79) kX11_tries rfl (by decide) ?_
                                refine fz_sub (fz_pk_sub (ls' := [(6, fz_i (x876 + 1)), (0, fz_r 53), (1, fz_i pe), (2, fz_i t), (3, fz_i hr), (4, fz_i 0), (5, fz_i su)]) [0, 3, 4, 5, 6, 7, 8] rfl) ?_
                                exact ih885 (x876 + 1) H1028 hI1032 hf1039 hXw1034 hHB1035 hRM1040 (by omega) (by omega)
                          · refine fz_aload_n kX11_tries rfl rfl ?_
                            refine fz_getR (t := 56) kX11_tries rfl rfl ?_
                            refine fz_iload kX11_tries rfl rfl ?_
                            refine fz_ialdV (n := 12) (v := h 56 (x876.toNat)) kX11_tries rfl rfl (by omega) (by omega) (hf882 56 _ rfl) ?_
                            refine fz_goto (tgt := 141) kX11_tries rfl (by decide) ?_
                            have k1080 := hRM (x876).toNat (by omega)
                            refine fz_istore (ls' := [(7, fz_i (h 56 (x876.toNat))), (6, fz_i x876), (0, fz_r 53), (1, fz_i pe), (2, fz_i t), (3, fz_i hr), (4, fz_i 0), (5, fz_i su)]) kX11_tries rfl (by decide) rfl ?_
                            refine fz_iload_n kX11_tries rfl rfl ?_
                            refine fz_aload_n kX11_tries rfl rfl ?_
                            refine fz_getR (t := 57) kX11_tries rfl rfl ?_
                            refine fz_iload kX11_tries rfl rfl ?_
                            refine fz_ialdV (n := 12) (v := h 57 (x876.toNat)) kX11_tries rfl rfl (by omega) (by omega) (hf882 57 _ rfl) ?_
                            have b1081 : 0 ≤ h 57 (x876.toNat) ∧ h 57 (x876.toNat) ≤ 24 := hI.1 57 _
                            refine fz_iadd kX11_tries rfl ?_
                            refine fz_nmw (fun z1082 e1083 => ?_)
                            refine fz_istore (ls' := [(8, fz_i z1082), (7, fz_i (h 56 (x876.toNat))), (6, fz_i x876), (0, fz_r 53), (1, fz_i pe), (2, fz_i t), (3, fz_i hr), (4, fz_i 0), (5, fz_i su)]) kX11_tries rfl (by decide) rfl ?_
                            refine fz_iload kX11_tries rfl rfl ?_
                            refine fz_sipush ⟨by decide, by decide⟩ kX11_tries rfl ?_
                            refine fz_icmp_gt (tgt := 211) kX11_tries rfl (by decide) (fun c1084 => ?_) (fun c1084 => ?_)
                            · refine fz_iincN (ls' := [(6, fz_i (x876 + 1)), (8, fz_i z1082), (7, fz_i (h 56 (x876.toNat))), (0, fz_r 53), (1, fz_i pe), (2, fz_i t), (3, fz_i hr), (4, fz_i 0), (5, fz_i su)]) kX11_tries rfl (by decide) rfl (by omega) rfl ?_
                              refine fz_goto (tgt := 79) kX11_tries rfl (by decide) ?_
                              refine fz_sub (fz_pk_sub (ls' := [(6, fz_i (x876 + 1)), (0, fz_r 53), (1, fz_i pe), (2, fz_i t), (3, fz_i hr), (4, fz_i 0), (5, fz_i su)]) [0, 3, 4, 5, 6, 7, 8] rfl) ?_
                              exact ih885 (x876 + 1) H880 hI881 hf882 hXw877 hHB878 hRM879 (by omega) (by omega)
                            · refine fz_aload_n kX11_tries rfl rfl ?_
                              refine fz_iload_n kX11_tries rfl rfl ?_
                              refine fz_iload kX11_tries rfl rfl ?_
                              refine fz_iload kX11_tries rfl rfl ?_
                              have b1085 : 0 ≤ h 53 0 ∧ h 53 0 ≤ 8 := hI.1 53 _
                              have b1086 : 0 ≤ h 53 8 ∧ h 53 8 ≤ 99 := hI.1 53 _
                              have e1087 : H880 53 0 = h 53 0 := hf882 53 0 rfl
                              have e1088 : H880 53 8 = h 53 8 := hf882 53 8 rfl
                              refine fz_callV (d' := 4) (M' := mX11_isArrested) (As := [fz_i pe, fz_i (h 56 (x876.toNat)), fz_i z1082]) (st := []) kX11_tries rfl rfl vX11_isArrested rfl rfl rfl rfl (Nat.le_of_ble_eq_true rfl) (Nat.le_of_ble_eq_true rfl) (by decide) (sX11_isArrested H880 hI881 pe (h 56 (x876.toNat)) z1082 hXw877 hHB878 (by omega) (by omega)) (fun H1089 r1090 q1091 o1092 => ?_)
                              obtain ⟨hI1093, hf1094, hXw1095, hHB1096, y1098, rfl, p1099, f1097⟩ := q1091
                              clear o1092
                              have hf1100 := fz_fr_tr hf882 hf1094 (show fz_su [(74, 99999), (75, 99999)] [(53, 54), (53, 55), (74, 99999), (75, 99999), (89, 99999), (90, 99999)] = true from rfl)
                              have hRM1101 : fz_RM H1089 := fz_RM_eq (funext fun s => hf1094 55 s rfl) (funext fun s => hf1094 56 s rfl) (hf1094 53 0 rfl) (hf1094 53 2 rfl) hRM879
                              have t1102 : H1089 53 0 = H880 53 0 := hf1094 53 0 rfl
                              refine fz_if_eq (tgt := 177) kX11_tries rfl (by decide) (fun c1103 => ?_) (fun c1103 => ?_)
                              · refine fz_aload_n kX11_tries rfl rfl ?_
                                refine fz_getR (t := 90) kX11_tries rfl rfl ?_
                                refine fz_iload kX11_tries rfl rfl ?_
                                refine fz_iload kX11_tries rfl rfl ?_
                                refine fz_iast (n := 4) kX11_tries rfl rfl (by omega) (by omega) ?_
                                refine fz_nmu (S := [(53, 54), (53, 55), (74, 99999), (75, 99999), (89, 99999), (90, 99999)]) (h0 := h) (fz_Iv_up hI1093 (by decide) (show (0 : Int) ≤ (h 56 (x876.toNat)) by omega) (show ((h 56 (x876.toNat)) : Int) ≤ 7 by omega)) (fz_fr_up hf1100 rfl) (fun H1104 hI1105 hf1106 e1107 => ?_)
                                have t1108 : H1104 53 0 = H1089 53 0 := by rw [e1107]; exact fz_up_o (by decide)
                                have hXw1109 : fz_Xw H1104 := fz_Xw_eq (by rw [e1107]; exact fz_up_o (by decide)) (by rw [e1107]; exact fz_up_ne (by decide)) (by rw [e1107]; exact fz_up_ne (by decide)) (by rw [e1107]; exact fz_up_ne (by decide)) (by rw [e1107]; exact fz_up_ne (by decide)) hXw1095
                                have hHB1110 : fl_HB H1104 := fl_HB_eq (by rw [e1107]; exact fz_up_ne (by decide)) (by rw [e1107]; exact fz_up_ne (by decide)) (by rw [e1107]; exact fz_up_o (by decide)) (by rw [e1107]; exact fz_up_o (by decide)) hHB1096
                                have hRM1111 : fz_RM H1104 := fz_RM_eq (by rw [e1107]; exact fz_up_ne (by decide)) (by rw [e1107]; exact fz_up_ne (by decide)) (by rw [e1107]; exact fz_up_o (by decide)) (by rw [e1107]; exact fz_up_o (by decide)) hRM1101
                                clear e1107
                                refine fz_aload_n kX11_tries rfl rfl ?_
                                refine fz_iload_n kX11_tries rfl rfl ?_
                                refine fz_iload kX11_tries rfl rfl ?_
                                refine fz_iload kX11_tries rfl rfl ?_
                                refine fz_iload kX11_tries rfl rfl ?_
                                refine fz_iconst ⟨by decide, by decide⟩ kX11_tries rfl ?_
                                refine fz_iaddN kX11_tries rfl ⟨by decide, by decide⟩ ?_
                                refine fz_eqi (y := 1) rfl ?_
                                refine fz_iload kX11_tries rfl rfl ?_
                                refine fz_aload_n kX11_tries rfl rfl ?_
                                refine fz_iload_n kX11_tries rfl rfl ?_
                                refine fz_iload kX11_tries rfl rfl ?_
                                refine fz_iload kX11_tries rfl rfl ?_
                                have e1112 : H1104 53 0 = h 53 0 := hf1106 53 0 rfl
                                refine fz_callV (d' := 4) (M' := mX11_receivedIn) (As := [fz_i pe, fz_i (h 56 (x876.toNat)), fz_i z1082]) (st := [fz_i su, fz_i 1, fz_i z1082, fz_i (h 56 (x876.toNat)), fz_i pe, fz_r 53]) kX11_tries rfl rfl vX11_receivedIn rfl rfl rfl rfl (Nat.le_of_ble_eq_true rfl) (Nat.le_of_ble_eq_true rfl) (by decide) (sX11_receivedIn H1104 hI1105 pe (h 56 (x876.toNat)) z1082 hXw1109 hHB1110 (by omega) (by omega)) (fun H1113 r1114 q1115 o1116 => ?_)
                                obtain ⟨hI1117, hf1118, hXw1119, hHB1120, y1123, rfl, f1121, f1122⟩ := q1115
                                clear o1116
                                have hf1124 := fz_fr_tr hf1106 hf1118 (show fz_su [(74, 99999), (75, 99999)] [(53, 54), (53, 55), (74, 99999), (75, 99999), (89, 99999), (90, 99999)] = true from rfl)
                                have hRM1125 : fz_RM H1113 := fz_RM_eq (funext fun s => hf1118 55 s rfl) (funext fun s => hf1118 56 s rfl) (hf1118 53 0 rfl) (hf1118 53 2 rfl) hRM1111
                                have t1126 : H1113 53 0 = H1104 53 0 := hf1118 53 0 rfl
                                refine fz_iadd kX11_tries rfl ?_
                                refine fz_nmw (fun z1127 e1128 => ?_)
                                have e1129 : H1113 53 0 = h 53 0 := hf1124 53 0 rfl
                                refine fz_callV (d' := 7) (M' := mX11_tries) (As := [fz_i pe, fz_i (h 56 (x876.toNat)), fz_i z1082, fz_i 1, fz_i z1127]) (st := []) kX11_tries rfl rfl vX11_tries rfl rfl rfl rfl (Nat.le_of_ble_eq_true rfl) (Nat.le_of_ble_eq_true rfl) (by decide) (sX11_tries_1 H1113 hI1117 pe (h 56 (x876.toNat)) z1082 z1127 hXw1119 hHB1120 hRM1125 (by omega) (by omega)) (fun H1130 r1131 q1132 o1133 => ?_)
                                obtain ⟨hI1134, hf1135, hXw1136, hHB1137, hRM1138, rfl⟩ := q1132
                                clear o1133
                                have hf1139 := fz_fr_tr hf1124 hf1135 (show fz_su [(53, 54), (53, 55), (74, 99999), (75, 99999), (89, 99999), (90, 99999)] [(53, 54), (53, 55), (74, 99999), (75, 99999), (89, 99999), (90, 99999)] = true from rfl)
                                have t1140 : H1130 53 0 = H1113 53 0 := hf1135 53 0 rfl
                                refine fz_iincN (ls' := [(6, fz_i (x876 + 1)), (8, fz_i z1082), (7, fz_i (h 56 (x876.toNat))), (0, fz_r 53), (1, fz_i pe), (2, fz_i t), (3, fz_i hr), (4, fz_i 0), (5, fz_i su)]) kX11_tries rfl (by decide) rfl (by omega) rfl ?_
                                refine fz_goto (tgt := 79) kX11_tries rfl (by decide) ?_
                                refine fz_sub (fz_pk_sub (ls' := [(6, fz_i (x876 + 1)), (0, fz_r 53), (1, fz_i pe), (2, fz_i t), (3, fz_i hr), (4, fz_i 0), (5, fz_i su)]) [0, 3, 4, 5, 6, 7, 8] rfl) ?_
                                exact ih885 (x876 + 1) H1130 hI1134 hf1139 hXw1136 hHB1137 hRM1138 (by omega) (by omega)
                              · refine fz_goto (tgt := 211) kX11_tries rfl (by decide) ?_
                                refine fz_iincN (ls' := [(6, fz_i (x876 + 1)), (8, fz_i z1082), (7, fz_i (h 56 (x876.toNat))), (0, fz_r 53), (1, fz_i pe), (2, fz_i t), (3, fz_i hr), (4, fz_i 0), (5, fz_i su)]) kX11_tries rfl (by decide) rfl (by omega) rfl ?_
                                refine fz_goto (tgt := 79) kX11_tries rfl (by decide) ?_
                                refine fz_sub (fz_pk_sub (ls' := [(6, fz_i (x876 + 1)), (0, fz_r 53), (1, fz_i pe), (2, fz_i t), (3, fz_i hr), (4, fz_i 0), (5, fz_i su)]) [0, 3, 4, 5, 6, 7, 8] rfl) ?_
                                exact ih885 (x876 + 1) H1089 hI1093 hf1100 hXw1095 hHB1096 hRM1101 (by omega) (by omega)
                        · refine fz_goto (tgt := 211) kX11_tries rfl (by decide) ?_
                          refine fz_iincN (ls' := [(6, fz_i (x876 + 1)), (0, fz_r 53), (1, fz_i pe), (2, fz_i t), (3, fz_i hr), (4, fz_i 0), (5, fz_i su)]) kX11_tries rfl (by decide) rfl (by omega) rfl ?_
                          refine fz_goto (tgt := 79) kX11_tries rfl (by decide) ?_
                          exact ih885 (x876 + 1) H880 hI881 hf882 hXw877 hHB878 hRM879 (by omega) (by omega)
                exact lp884 _ 0 H866 hI867 hf868 hXw863 hHB864 hRM865 (by omega) (Nat.lt_succ_self _)
              · exfalso; omega
            · exfalso; omega
        exact lp870 _ 0 H852 hI853 hf854 hXw859 hHB860 hRM861 (by omega) (Nat.lt_succ_self _)

abbrev qX11_route (h : fz_H) (on th k : Int) : fz_H → Option fz_V → Prop := fun h' r0 => fz_Iv h' ∧ fz_fr [(53, 54), (53, 55), (74, 99999), (75, 99999), (86, 99999), (87, 99999), (88, 99999), (89, 99999), (90, 99999)] h h' ∧ fz_Xw h' ∧ fz_RM h' ∧ fl_RPm h' ∧ ∃ r : Int, r0 = some (fz_i r) ∧ ((-2147483648) ≤ r ∧ r ≤ 2147483647)
set_option maxHeartbeats 1000000 in
set_option maxRecDepth 100000 in
theorem sX11_route (h : fz_H) (hI : fz_Iv h) (on th k : Int) (hXw : fz_Xw h) (hRM : fz_RM h) (hRPm : fl_RPm h) : fz_R 9 mX11_route 0 [(0, fz_r 53), (1, fz_i on), (2, fz_i th), (3, fz_i k)] [] h (qX11_route h on th k) := by
  refine fz_knowl (fun hk => ?_)
  have hr_on : -2147483648 ≤ on ∧ on < 2147483648 := hk _ (List.Mem.tail _ (List.Mem.head _))
  have hr_th : -2147483648 ≤ th ∧ th < 2147483648 := hk _ (List.Mem.tail _ (List.Mem.tail _ (List.Mem.head _)))
  have hr_k : -2147483648 ≤ k ∧ k < 2147483648 := hk _ (List.Mem.tail _ (List.Mem.tail _ (List.Mem.tail _ (List.Mem.head _))))
  clear hk
  have hf : fz_fr [(53, 54), (53, 55), (74, 99999), (75, 99999), (86, 99999), (87, 99999), (88, 99999), (89, 99999), (90, 99999)] h h := fz_fr_rf
  refine fz_iload_n kX11_route rfl rfl ?_
  refine fz_callS (d' := 1) (M' := mX11_isPerson) (As := [fz_i on]) (st := []) kX11_route rfl rfl vX11_isPerson rfl rfl (Nat.le_of_ble_eq_true rfl) (Nat.le_of_ble_eq_true rfl) (by decide) (sX11_isPerson h hI on ) (fun H1 r2 q3 o4 => ?_)
  obtain ⟨e5, y6, rfl, p7⟩ := q3
  subst H1
  clear o4
  rcases p7 with ⟨rfl, c8⟩ | ⟨rfl, c8⟩
  · refine fz_if_eq (tgt := 20) kX11_route rfl (by decide) (fun c9 => ?_) (fun c9 => ?_)
    · exfalso; omega
    · refine fz_aload_n kX11_route rfl rfl ?_
      refine fz_iload_n kX11_route rfl rfl ?_
      have b10 : 0 ≤ h 53 0 ∧ h 53 0 ≤ 8 := hI.1 53 _
      refine fz_callV (d' := 2) (M' := mX11_isWhen) (As := [fz_i th]) (st := []) kX11_route rfl rfl vX11_isWhen rfl rfl rfl rfl (Nat.le_of_ble_eq_true rfl) (Nat.le_of_ble_eq_true rfl) (by decide) (sX11_isWhen h hI th ) (fun H11 r12 q13 o14 => ?_)
      obtain ⟨e15, y16, rfl, p17⟩ := q13
      subst H11
      clear o14
      rcases p17 with ⟨rfl, c18⟩ | ⟨rfl, c18⟩
      · refine fz_if_eq (tgt := 20) kX11_route rfl (by decide) (fun c19 => ?_) (fun c19 => ?_)
        · exfalso; omega
        · refine fz_iload_n kX11_route rfl rfl ?_
          refine fz_iconst ⟨by decide, by decide⟩ kX11_route rfl ?_
          refine fz_icmp_ge (tgt := 23) kX11_route rfl (by decide) (fun c20 => ?_) (fun c20 => ?_)
          · refine fz_aload_n kX11_route rfl rfl ?_
            have b21 : 0 ≤ h 53 10 ∧ h 53 10 ≤ 11 := hI.1 53 _
            refine fz_callV (d' := 3) (M' := mX11_allHear) (As := []) (st := []) kX11_route rfl rfl vX11_allHear rfl rfl rfl rfl (Nat.le_of_ble_eq_true rfl) (Nat.le_of_ble_eq_true rfl) (by decide) (sX11_allHear h hI  hRM hRPm) (fun H22 r23 q24 o25 => ?_)
            obtain ⟨hI26, hf27, hRM28, hRPm29, rfl, f30⟩ := q24
            clear o25
            have hf31 := fz_fr_tr hf hf27 (show fz_su [(86, 99999), (87, 99999), (88, 99999)] [(53, 54), (53, 55), (74, 99999), (75, 99999), (86, 99999), (87, 99999), (88, 99999), (89, 99999), (90, 99999)] = true from rfl)
            have hXw32 : fz_Xw H22 := fz_Xw_eq (hf27 53 19 rfl) (funext fun s => hf27 66 s rfl) (funext fun s => hf27 67 s rfl) (funext fun s => hf27 68 s rfl) (funext fun s => hf27 69 s rfl) hXw
            have t33 : H22 53 0 = h 53 0 := hf27 53 0 rfl
            have hHB34 : fl_HB H22 := fl_HB_of2 f30 (funext fun s => hf27 62 s rfl) (hf27 53 10 rfl) (hf27 53 0 rfl) (funext fun s => hf27 54 s rfl) (fun q => (hI26.1 54 q).1)
            have hHT36 : fl_HTh h H22 := f30
            refine fz_aload_n kX11_route rfl rfl ?_
            refine fz_iconst ⟨by decide, by decide⟩ kX11_route rfl ?_
            refine fz_putI kX11_route rfl rfl rfl ?_
            refine fz_nmu (S := [(53, 54), (53, 55), (74, 99999), (75, 99999), (86, 99999), (87, 99999), (88, 99999), (89, 99999), (90, 99999)]) (h0 := h) (fz_Iv_up hI26 (by decide) (show ((-2147483648) : Int) ≤ 0 by decide) (show (0 : Int) ≤ 2147483647 by decide)) (fz_fr_up hf31 rfl) (fun H38 hI39 hf40 e41 => ?_)
            have k42 : H38 53 54 = 0 := by rw [e41]; exact fz_up_e
            have t43 : H38 53 0 = H22 53 0 := by rw [e41]; exact fz_up_s (by decide)
            have hXw44 : fz_Xw H38 := fz_Xw_eq (by rw [e41]; exact fz_up_s (by decide)) (by rw [e41]; exact fz_up_ne (by decide)) (by rw [e41]; exact fz_up_ne (by decide)) (by rw [e41]; exact fz_up_ne (by decide)) (by rw [e41]; exact fz_up_ne (by decide)) hXw32
            have hRM45 : fz_RM H38 := fz_RM_eq (by rw [e41]; exact fz_up_ne (by decide)) (by rw [e41]; exact fz_up_ne (by decide)) (by rw [e41]; exact fz_up_s (by decide)) (by rw [e41]; exact fz_up_s (by decide)) hRM28
            have hRPm46 : fl_RPm H38 := fl_RPm_eq (by rw [e41]; exact fz_up_ne (by decide)) (by rw [e41]; exact fz_up_s (by decide)) (by rw [e41]; exact fz_up_s (by decide)) hRPm29
            have hHB47 : fl_HB H38 := fl_HB_eq (by rw [e41]; exact fz_up_ne (by decide)) (by rw [e41]; exact fz_up_ne (by decide)) (by rw [e41]; exact fz_up_s (by decide)) (by rw [e41]; exact fz_up_s (by decide)) hHB34
            have hHT48 : fl_HTh h H38 := fl_HTh_eq (by rw [e41]; exact fz_up_ne (by decide)) hHT36
            clear e41
            refine fz_aload_n kX11_route rfl rfl ?_
            refine fz_iconst ⟨by decide, by decide⟩ kX11_route rfl ?_
            refine fz_putI kX11_route rfl rfl rfl ?_
            refine fz_nmu (S := [(53, 54), (53, 55), (74, 99999), (75, 99999), (86, 99999), (87, 99999), (88, 99999), (89, 99999), (90, 99999)]) (h0 := h) (fz_Iv_up hI39 (by decide) (show (0 : Int) ≤ 0 by decide) (show (0 : Int) ≤ 4 by decide)) (fz_fr_up hf40 rfl) (fun H49 hI50 hf51 e52 => ?_)
            have k53 : H49 53 54 = 0 := by rw [e52]; exact (fz_up_s (by decide)).trans k42
            have k54 : H49 53 55 = 0 := by rw [e52]; exact fz_up_e
            have t55 : H49 53 0 = H38 53 0 := by rw [e52]; exact fz_up_s (by decide)
            have hXw56 : fz_Xw H49 := fz_Xw_eq (by rw [e52]; exact fz_up_s (by decide)) (by rw [e52]; exact fz_up_ne (by decide)) (by rw [e52]; exact fz_up_ne (by decide)) (by rw [e52]; exact fz_up_ne (by decide)) (by rw [e52]; exact fz_up_ne (by decide)) hXw44
            have hRM57 : fz_RM H49 := fz_RM_eq (by rw [e52]; exact fz_up_ne (by decide)) (by rw [e52]; exact fz_up_ne (by decide)) (by rw [e52]; exact fz_up_s (by decide)) (by rw [e52]; exact fz_up_s (by decide)) hRM45
            have hRPm58 : fl_RPm H49 := fl_RPm_eq (by rw [e52]; exact fz_up_ne (by decide)) (by rw [e52]; exact fz_up_s (by decide)) (by rw [e52]; exact fz_up_s (by decide)) hRPm46
            have hHB59 : fl_HB H49 := fl_HB_eq (by rw [e52]; exact fz_up_ne (by decide)) (by rw [e52]; exact fz_up_ne (by decide)) (by rw [e52]; exact fz_up_s (by decide)) (by rw [e52]; exact fz_up_s (by decide)) hHB47
            have hHT60 : fl_HTh h H49 := fl_HTh_eq (by rw [e52]; exact fz_up_ne (by decide)) hHT48
            clear e52
            refine fz_aload_n kX11_route rfl rfl ?_
            refine fz_iload_n kX11_route rfl rfl ?_
            refine fz_iload_n kX11_route rfl rfl ?_
            refine fz_sipush ⟨by decide, by decide⟩ kX11_route rfl ?_
            refine fz_idivN kX11_route rfl (by omega) (by omega) (by omega) ?_
            refine fz_iload_n kX11_route rfl rfl ?_
            refine fz_sipush ⟨by decide, by decide⟩ kX11_route rfl ?_
            refine fz_iremN kX11_route rfl (by omega) (by omega) (by omega) ?_
            refine fz_iconst ⟨by decide, by decide⟩ kX11_route rfl ?_
            refine fz_iconst ⟨by decide, by decide⟩ kX11_route rfl ?_
            have e61 : H49 53 0 = h 53 0 := hf51 53 0 rfl
            refine fz_callV (d' := 8) (M' := mX11_tries) (As := [fz_i on, fz_i (th / 1000), fz_i (th % 1000), fz_i 0, fz_i 0]) (st := []) kX11_route rfl rfl vX11_tries rfl rfl rfl rfl (Nat.le_of_ble_eq_true rfl) (Nat.le_of_ble_eq_true rfl) (by decide) (sX11_tries_0 H49 hI50 on (th / 1000) (th % 1000) 0 hXw56 hHB59 hRM57 (by omega) (by omega)) (fun H62 r63 q64 o65 => ?_)
            obtain ⟨hI66, hf67, hXw68, hHB69, hRM70, rfl⟩ := q64
            clear o65
            have hf71 := fz_fr_tr hf51 hf67 (show fz_su [(53, 54), (53, 55), (74, 99999), (75, 99999), (89, 99999), (90, 99999)] [(53, 54), (53, 55), (74, 99999), (75, 99999), (86, 99999), (87, 99999), (88, 99999), (89, 99999), (90, 99999)] = true from rfl)
            have hRPm72 : fl_RPm H62 := fl_RPm_eq (funext fun s => hf67 61 s rfl) (hf67 53 10 rfl) (hf67 53 0 rfl) hRPm58
            have hHT73 : fl_HTh h H62 := fl_HTh_eq (funext fun s => hf67 88 s rfl) hHT60
            have t74 : H62 53 0 = H49 53 0 := hf67 53 0 rfl
            refine fz_iload_n kX11_route rfl rfl ?_
            refine fz_iconst ⟨by decide, by decide⟩ kX11_route rfl ?_
            refine fz_icmp_ne (tgt := 66) kX11_route rfl (by decide) (fun c75 => ?_) (fun c75 => ?_)
            · refine fz_iload_n kX11_route rfl rfl ?_
              refine fz_aload_n kX11_route rfl rfl ?_
              obtain ⟨v76, e77⟩ : ∃ z, H62 53 (55) = z := ⟨_, rfl⟩
              refine fz_getV (v := v76) kX11_route rfl rfl e77 ?_
              have b78 : 0 ≤ v76 ∧ v76 ≤ 4 := by rw [← e77]; exact hI66.1 53 _
              refine fz_icmp_ge (tgt := 83) kX11_route rfl (by decide) (fun c79 => ?_) (fun c79 => ?_)
              · refine fz_bipush ⟨by decide, by decide⟩ kX11_route rfl ?_
                exact fz_iret kX11_route rfl rfl (fun _ => ⟨hI66, hf71, hXw68, hRM70, hRPm72, _, rfl, (by omega)⟩)
              · refine fz_aload_n kX11_route rfl rfl ?_
                refine fz_getR (t := 89) kX11_route rfl rfl ?_
                refine fz_iload_n kX11_route rfl rfl ?_
                obtain ⟨v80, e81⟩ : ∃ z, H62 89 (k.toNat) = z := ⟨_, rfl⟩
                refine fz_ialdV (n := 4) (v := v80) kX11_route rfl rfl (by omega) (by omega) e81 ?_
                have b82 : 0 ≤ v80 ∧ v80 ≤ 7 := by rw [← e81]; exact hI66.1 89 _
                refine fz_goto (tgt := 85) kX11_route rfl (by decide) ?_
                exact fz_iret kX11_route rfl rfl (fun _ => ⟨hI66, hf71, hXw68, hRM70, hRPm72, _, rfl, (by omega)⟩)
            · refine fz_aload_n kX11_route rfl rfl ?_
              obtain ⟨v83, e84⟩ : ∃ z, H62 53 (54) = z := ⟨_, rfl⟩
              refine fz_getV (v := v83) kX11_route rfl rfl e84 ?_
              have b85 : (-2147483648) ≤ v83 ∧ v83 ≤ 2147483647 := by rw [← e84]; exact hI66.1 53 _
              refine fz_goto (tgt := 85) kX11_route rfl (by decide) ?_
              exact fz_iret kX11_route rfl rfl (fun _ => ⟨hI66, hf71, hXw68, hRM70, hRPm72, _, rfl, (by omega)⟩)
          · refine fz_ldc (x := (-2000000000)) kX11_route rfl rfl rfl ?_
            exact fz_iret kX11_route rfl rfl (fun _ => ⟨hI, hf, hXw, hRM, hRPm, _, rfl, (by omega)⟩)
      · refine fz_if_eq (tgt := 20) kX11_route rfl (by decide) (fun c86 => ?_) (fun c86 => ?_)
        · refine fz_ldc (x := (-2000000000)) kX11_route rfl rfl rfl ?_
          exact fz_iret kX11_route rfl rfl (fun _ => ⟨hI, hf, hXw, hRM, hRPm, _, rfl, (by omega)⟩)
        · exfalso; omega
  · refine fz_if_eq (tgt := 20) kX11_route rfl (by decide) (fun c87 => ?_) (fun c87 => ?_)
    · refine fz_ldc (x := (-2000000000)) kX11_route rfl rfl rfl ?_
      exact fz_iret kX11_route rfl rfl (fun _ => ⟨hI, hf, hXw, hRM, hRPm, _, rfl, (by omega)⟩)
    · exfalso; omega
