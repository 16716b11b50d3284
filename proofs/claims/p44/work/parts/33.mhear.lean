/-! ===== what the methods keep ===== -/
abbrev qX11_way (h : fz_H) (ab wh : Int) : fz_H → Option fz_V → Prop := fun h' r0 => fz_Iv h' ∧ fz_fr [(86, 99999), (87, 99999)] h h' ∧ ∃ r : Int, r0 = some (fz_i r) ∧ ((-2147483648) ≤ r ∧ r ≤ 2147483647)
set_option maxHeartbeats 1000000 in
set_option maxRecDepth 100000 in
theorem sX11_way (h : fz_H) (hI : fz_Iv h) (ab wh : Int) : fz_R 3 mX11_way 0 [(0, fz_r 53), (1, fz_i ab), (2, fz_i wh)] [] h (qX11_way h ab wh) := by
  refine fz_knowl (fun hk => ?_)
  have hr_ab : -2147483648 ≤ ab ∧ ab < 2147483648 := hk _ (List.Mem.tail _ (List.Mem.head _))
  have hr_wh : -2147483648 ≤ wh ∧ wh < 2147483648 := hk _ (List.Mem.tail _ (List.Mem.tail _ (List.Mem.head _)))
  clear hk
  have hf : fz_fr [(86, 99999), (87, 99999)] h h := fz_fr_rf
  refine fz_aload_n kX11_way rfl rfl ?_
  refine fz_iload_n kX11_way rfl rfl ?_
  have b1 : 0 ≤ h 53 0 ∧ h 53 0 ≤ 8 := hI.1 53 _
  refine fz_callV (d' := 2) (M' := mX11_areTowns) (As := [fz_i ab]) (st := []) kX11_way rfl rfl vX11_areTowns rfl rfl rfl rfl (Nat.le_of_ble_eq_true rfl) (Nat.le_of_ble_eq_true rfl) (by decide) (sX11_areTowns h hI ab ) (fun H2 r3 q4 o5 => ?_)
  obtain ⟨e6, y7, rfl, p8⟩ := q4
  subst H2
  clear o5
  rcases p8 with ⟨rfl, c9⟩ | ⟨rfl, c9⟩
  · refine fz_if_eq (tgt := 17) kX11_way rfl (by decide) (fun c10 => ?_) (fun c10 => ?_)
    · exfalso; omega
    · refine fz_iload_n kX11_way rfl rfl ?_
      refine fz_iconst ⟨by decide, by decide⟩ kX11_way rfl ?_
      refine fz_iconst ⟨by decide, by decide⟩ kX11_way rfl ?_
      refine fz_callS (d' := 0) (M' := mX11_within) (As := [fz_i wh, fz_i 0, fz_i 1]) (st := []) kX11_way rfl rfl vX11_within rfl rfl (Nat.le_of_ble_eq_true rfl) (Nat.le_of_ble_eq_true rfl) (by decide) (sX11_within h hI wh 0 1 ) (fun H11 r12 q13 o14 => ?_)
      obtain ⟨e15, y16, rfl, p17⟩ := q13
      subst H11
      clear o14
      rcases p17 with ⟨rfl, c18⟩ | ⟨rfl, c18⟩
      · refine fz_if_ne (tgt := 19) kX11_way rfl (by decide) (fun c19 => ?_) (fun c19 => ?_)
        · refine fz_aload_n kX11_way rfl rfl ?_
          refine fz_iload_n kX11_way rfl rfl ?_
          refine fz_bipush ⟨by decide, by decide⟩ kX11_way rfl ?_
          refine fz_idivN kX11_way rfl (by omega) (by omega) (by omega) ?_
          refine fz_iload_n kX11_way rfl rfl ?_
          refine fz_iconst ⟨by decide, by decide⟩ kX11_way rfl ?_
          refine fz_icmp_ne (tgt := 33) kX11_way rfl (by decide) (fun c20 => ?_) (fun c20 => ?_)
          · refine fz_iconst ⟨by decide, by decide⟩ kX11_way rfl ?_
            refine fz_callV (d' := 1) (M' := mX11_goesFrom) (As := [fz_i (ab / 10), fz_i 0]) (st := []) kX11_way rfl rfl vX11_goesFrom rfl rfl rfl rfl (Nat.le_of_ble_eq_true rfl) (Nat.le_of_ble_eq_true rfl) (by decide) (sX11_goesFrom h hI (ab / 10) 0 (by omega) (by omega)) (fun H21 r22 q23 o24 => ?_)
            obtain ⟨hI25, hf26, rfl⟩ := q23
            clear o24
            have hf27 := fz_fr_tr hf hf26 (show fz_su [(86, 99999), (87, 99999)] [(86, 99999), (87, 99999)] = true from rfl)
            refine fz_aload_n kX11_way rfl rfl ?_
            refine fz_getR (t := 86) kX11_way rfl rfl ?_
            refine fz_iload_n kX11_way rfl rfl ?_
            refine fz_bipush ⟨by decide, by decide⟩ kX11_way rfl ?_
            refine fz_iremN kX11_way rfl (by omega) (by omega) (by omega) ?_
            obtain ⟨v28, e29⟩ : ∃ z, H21 86 ((ab % 10).toNat) = z := ⟨_, rfl⟩
            refine fz_ialdV (n := 8) (v := v28) kX11_way rfl rfl (by omega) (by omega) e29 ?_
            have b30 : (-2147483648) ≤ v28 ∧ v28 ≤ 2147483647 := by rw [← e29]; exact hI25.1 86 _
            exact fz_iret kX11_way rfl rfl (fun _ => ⟨hI25, hf27, _, rfl, (by omega)⟩)
          · refine fz_iconst ⟨by decide, by decide⟩ kX11_way rfl ?_
            refine fz_goto (tgt := 34) kX11_way rfl (by decide) ?_
            refine fz_callV (d' := 1) (M' := mX11_goesFrom) (As := [fz_i (ab / 10), fz_i 1]) (st := []) kX11_way rfl rfl vX11_goesFrom rfl rfl rfl rfl (Nat.le_of_ble_eq_true rfl) (Nat.le_of_ble_eq_true rfl) (by decide) (sX11_goesFrom h hI (ab / 10) 1 (by omega) (by omega)) (fun H31 r32 q33 o34 => ?_)
            obtain ⟨hI35, hf36, rfl⟩ := q33
            clear o34
            have hf37 := fz_fr_tr hf hf36 (show fz_su [(86, 99999), (87, 99999)] [(86, 99999), (87, 99999)] = true from rfl)
            refine fz_aload_n kX11_way rfl rfl ?_
            refine fz_getR (t := 86) kX11_way rfl rfl ?_
            refine fz_iload_n kX11_way rfl rfl ?_
            refine fz_bipush ⟨by decide, by decide⟩ kX11_way rfl ?_
            refine fz_iremN kX11_way rfl (by omega) (by omega) (by omega) ?_
            obtain ⟨v38, e39⟩ : ∃ z, H31 86 ((ab % 10).toNat) = z := ⟨_, rfl⟩
            refine fz_ialdV (n := 8) (v := v38) kX11_way rfl rfl (by omega) (by omega) e39 ?_
            have b40 : (-2147483648) ≤ v38 ∧ v38 ≤ 2147483647 := by rw [← e39]; exact hI35.1 86 _
            exact fz_iret kX11_way rfl rfl (fun _ => ⟨hI35, hf37, _, rfl, (by omega)⟩)
        · exfalso; omega
      · refine fz_if_ne (tgt := 19) kX11_way rfl (by decide) (fun c41 => ?_) (fun c41 => ?_)
        · exfalso; omega
        · refine fz_iconst ⟨by decide, by decide⟩ kX11_way rfl ?_
          exact fz_iret kX11_way rfl rfl (fun _ => ⟨hI, hf, _, rfl, (by omega)⟩)
  · refine fz_if_eq (tgt := 17) kX11_way rfl (by decide) (fun c42 => ?_) (fun c42 => ?_)
    · refine fz_iconst ⟨by decide, by decide⟩ kX11_way rfl ?_
      exact fz_iret kX11_way rfl rfl (fun _ => ⟨hI, hf, _, rfl, (by omega)⟩)
    · exfalso; omega

abbrev qX11_heardAt (h : fz_H) (d t : Int) : fz_H → Option fz_V → Prop := fun h' r0 => fz_Iv h' ∧ fz_fr [(86, 99999), (87, 99999)] h h' ∧ ∃ r : Int, r0 = some (fz_i r) ∧ ((-2147483648) ≤ r ∧ r ≤ 2147483647)
set_option maxHeartbeats 1000000 in
set_option maxRecDepth 100000 in
theorem sX11_heardAt (h : fz_H) (hI : fz_Iv h) (d t : Int) (hp0 : 0 ≤ d ∧ d ≤ 10) (hp1 : 0 ≤ t ∧ t ≤ 7) : fz_R 2 mX11_heardAt 0 [(0, fz_r 53), (1, fz_i d), (2, fz_i t)] [] h (qX11_heardAt h d t) := by
  refine fz_knowl (fun hk => ?_)
  have hr_d : -2147483648 ≤ d ∧ d < 2147483648 := hk _ (List.Mem.tail _ (List.Mem.head _))
  have hr_t : -2147483648 ≤ t ∧ t < 2147483648 := hk _ (List.Mem.tail _ (List.Mem.tail _ (List.Mem.head _)))
  clear hk
  have hf : fz_fr [(86, 99999), (87, 99999)] h h := fz_fr_rf
  refine fz_aload_n kX11_heardAt rfl rfl ?_
  refine fz_aload_n kX11_heardAt rfl rfl ?_
  refine fz_getR (t := 61) kX11_heardAt rfl rfl ?_
  refine fz_iload_n kX11_heardAt rfl rfl ?_
  refine fz_ialdV (n := 11) (v := h 61 (d.toNat)) kX11_heardAt rfl rfl (by omega) (by omega) rfl ?_
  have b1 : 0 ≤ h 61 (d.toNat) ∧ h 61 (d.toNat) ≤ 7 := hI.1 61 _
  refine fz_iconst ⟨by decide, by decide⟩ kX11_heardAt rfl ?_
  refine fz_callV (d' := 1) (M' := mX11_goesFrom) (As := [fz_i (h 61 (d.toNat)), fz_i 1]) (st := []) kX11_heardAt rfl rfl vX11_goesFrom rfl rfl rfl rfl (Nat.le_of_ble_eq_true rfl) (Nat.le_of_ble_eq_true rfl) (by decide) (sX11_goesFrom h hI (h 61 (d.toNat)) 1 (by omega) (by omega)) (fun H2 r3 q4 o5 => ?_)
  obtain ⟨hI6, hf7, rfl⟩ := q4
  clear o5
  have hf8 := fz_fr_tr hf hf7 (show fz_su [(86, 99999), (87, 99999)] [(86, 99999), (87, 99999)] = true from rfl)
  refine fz_aload_n kX11_heardAt rfl rfl ?_
  refine fz_getR (t := 86) kX11_heardAt rfl rfl ?_
  refine fz_iload_n kX11_heardAt rfl rfl ?_
  obtain ⟨v9, e10⟩ : ∃ z, H2 86 (t.toNat) = z := ⟨_, rfl⟩
  refine fz_ialdV (n := 8) (v := v9) kX11_heardAt rfl rfl (by omega) (by omega) e10 ?_
  have b11 : (-2147483648) ≤ v9 ∧ v9 ≤ 2147483647 := by rw [← e10]; exact hI6.1 86 _
  refine fz_bipush ⟨by decide, by decide⟩ kX11_heardAt rfl ?_
  refine fz_icmp_ne (tgt := 27) kX11_heardAt rfl (by decide) (fun c12 => ?_) (fun c12 => ?_)
  · refine fz_aload_n kX11_heardAt rfl rfl ?_
    refine fz_getR (t := 62) kX11_heardAt rfl rfl ?_
    refine fz_iload_n kX11_heardAt rfl rfl ?_
    refine fz_ialdV (n := 11) (v := h 62 (d.toNat)) kX11_heardAt rfl rfl (by omega) (by omega) (hf8 62 _ rfl) ?_
    have b13 : 0 ≤ h 62 (d.toNat) ∧ h 62 (d.toNat) ≤ 999 := hI.1 62 _
    refine fz_aload_n kX11_heardAt rfl rfl ?_
    refine fz_getR (t := 86) kX11_heardAt rfl rfl ?_
    refine fz_iload_n kX11_heardAt rfl rfl ?_
    obtain ⟨v14, e15⟩ : ∃ z, H2 86 (t.toNat) = z := ⟨_, rfl⟩
    refine fz_ialdV (n := 8) (v := v14) kX11_heardAt rfl rfl (by omega) (by omega) e15 ?_
    have b16 : (-2147483648) ≤ v14 ∧ v14 ≤ 2147483647 := by rw [← e15]; exact hI6.1 86 _
    refine fz_iadd kX11_heardAt rfl ?_
    refine fz_nmw (fun z17 e18 => ?_)
    refine fz_aload_n kX11_heardAt rfl rfl ?_
    refine fz_getR (t := 54) kX11_heardAt rfl rfl ?_
    refine fz_iload_n kX11_heardAt rfl rfl ?_
    refine fz_ialdV (n := 8) (v := h 54 (t.toNat)) kX11_heardAt rfl rfl (by omega) (by omega) (hf8 54 _ rfl) ?_
    have b19 : 0 ≤ h 54 (t.toNat) ∧ h 54 (t.toNat) ≤ 9 := hI.1 54 _
    refine fz_iadd kX11_heardAt rfl ?_
    refine fz_nmw (fun z20 e21 => ?_)
    exact fz_iret kX11_heardAt rfl rfl (fun _ => ⟨hI6, hf8, _, rfl, (by omega)⟩)
  · refine fz_bipush ⟨by decide, by decide⟩ kX11_heardAt rfl ?_
    refine fz_goto (tgt := 47) kX11_heardAt rfl (by decide) ?_
    exact fz_iret kX11_heardAt rfl rfl (fun _ => ⟨hI6, hf8, _, rfl, (by omega)⟩)

abbrev qX11_hears (h : fz_H) (d : Int) : fz_H → Option fz_V → Prop := fun h' r0 => fz_Iv h' ∧ fz_fr [(86, 99999), (87, 99999), (88, 99999)] h h' ∧ r0 = none
set_option maxHeartbeats 1000000 in
set_option maxRecDepth 100000 in
theorem sX11_hears (h : fz_H) (hI : fz_Iv h) (d : Int) (hp0 : 0 ≤ d ∧ d ≤ 10) : fz_R 2 mX11_hears 0 [(0, fz_r 53), (1, fz_i d)] [] h (qX11_hears h d) := by
  refine fz_knowl (fun hk => ?_)
  have hr_d : -2147483648 ≤ d ∧ d < 2147483648 := hk _ (List.Mem.tail _ (List.Mem.head _))
  clear hk
  have hf : fz_fr [(86, 99999), (87, 99999), (88, 99999)] h h := fz_fr_rf
  refine fz_aload_n kX11_hears rfl rfl ?_
  refine fz_aload_n kX11_hears rfl rfl ?_
  refine fz_getR (t := 61) kX11_hears rfl rfl ?_
  refine fz_iload_n kX11_hears rfl rfl ?_
  refine fz_ialdV (n := 11) (v := h 61 (d.toNat)) kX11_hears rfl rfl (by omega) (by omega) rfl ?_
  have b1 : 0 ≤ h 61 (d.toNat) ∧ h 61 (d.toNat) ≤ 7 := hI.1 61 _
  refine fz_iconst ⟨by decide, by decide⟩ kX11_hears rfl ?_
  refine fz_callV (d' := 1) (M' := mX11_goesFrom) (As := [fz_i (h 61 (d.toNat)), fz_i 1]) (st := []) kX11_hears rfl rfl vX11_goesFrom rfl rfl rfl rfl (Nat.le_of_ble_eq_true rfl) (Nat.le_of_ble_eq_true rfl) (by decide) (sX11_goesFrom h hI (h 61 (d.toNat)) 1 (by omega) (by omega)) (fun H2 r3 q4 o5 => ?_)
  obtain ⟨hI6, hf7, rfl⟩ := q4
  clear o5
  have hf8 := fz_fr_tr hf hf7 (show fz_su [(86, 99999), (87, 99999)] [(86, 99999), (87, 99999), (88, 99999)] = true from rfl)
  refine fz_iconst ⟨by decide, by decide⟩ kX11_hears rfl ?_
  refine fz_istore_n (ls' := [(2, fz_i 0), (0, fz_r 53), (1, fz_i d)]) kX11_hears rfl (by decide) rfl ?_
  have lp14 : ∀ (n13 : Nat) (x9 : Int) (H10 : fz_H), fz_Iv H10 → fz_fr [(86, 99999), (87, 99999), (88, 99999)] h H10 → (0 ≤ x9 ∧ x9 ≤ 2147483647) → ((h 53 0) - x9).toNat < n13 → fz_R 2 mX11_hears 13 [(2, fz_i x9), (0, fz_r 53), (1, fz_i d)] [] H10 (qX11_hears h d) := by
    intro n13
    induction n13 with
    | zero => intro x9 H10 hI11 hf12 hv17 hm16; exact absurd hm16 (by omega)
    | succ n13 ih15 =>
      intro x9 H10 hI11 hf12 hv17 hm16
      refine fz_iload_n kX11_hears rfl rfl ?_
      refine fz_aload_n kX11_hears rfl rfl ?_
      refine fz_getV (v := h 53 0) kX11_hears rfl rfl (hf12 53 0 rfl) ?_
      have b18 : 0 ≤ h 53 0 ∧ h 53 0 ≤ 8 := hI.1 53 _
      refine fz_icmp_ge (tgt := 74) kX11_hears rfl (by decide) (fun c19 => ?_) (fun c19 => ?_)
      · exact fz_vret kX11_hears rfl rfl ⟨hI11, hf12, rfl⟩
      · refine fz_aload_n kX11_hears rfl rfl ?_
        refine fz_getR (t := 88) kX11_hears rfl rfl ?_
        refine fz_bipush ⟨by decide, by decide⟩ kX11_hears rfl ?_
        refine fz_iload_n kX11_hears rfl rfl ?_
        refine fz_imulN kX11_hears rfl (by omega) ?_
        refine fz_iload_n kX11_hears rfl rfl ?_
        refine fz_iaddN kX11_hears rfl (by omega) ?_
        refine fz_aload_n kX11_hears rfl rfl ?_
        refine fz_getR (t := 86) kX11_hears rfl rfl ?_
        refine fz_iload_n kX11_hears rfl rfl ?_
        obtain ⟨v20, e21⟩ : ∃ z, H10 86 (x9.toNat) = z := ⟨_, rfl⟩
        refine fz_ialdV (n := 8) (v := v20) kX11_hears rfl rfl (by omega) (by omega) e21 ?_
        have b22 : (-2147483648) ≤ v20 ∧ v20 ≤ 2147483647 := by rw [← e21]; exact hI11.1 86 _
        refine fz_bipush ⟨by decide, by decide⟩ kX11_hears rfl ?_
        refine fz_icmp_ne (tgt := 47) kX11_hears rfl (by decide) (fun c23 => ?_) (fun c23 => ?_)
        · refine fz_aload_n kX11_hears rfl rfl ?_
          refine fz_getR (t := 62) kX11_hears rfl rfl ?_
          refine fz_iload_n kX11_hears rfl rfl ?_
          refine fz_ialdV (n := 11) (v := h 62 (d.toNat)) kX11_hears rfl rfl (by omega) (by omega) (hf12 62 _ rfl) ?_
          have b24 : 0 ≤ h 62 (d.toNat) ∧ h 62 (d.toNat) ≤ 999 := hI.1 62 _
          refine fz_aload_n kX11_hears rfl rfl ?_
          refine fz_getR (t := 86) kX11_hears rfl rfl ?_
          refine fz_iload_n kX11_hears rfl rfl ?_
          obtain ⟨v25, e26⟩ : ∃ z, H10 86 (x9.toNat) = z := ⟨_, rfl⟩
          refine fz_ialdV (n := 8) (v := v25) kX11_hears rfl rfl (by omega) (by omega) e26 ?_
          have b27 : (-2147483648) ≤ v25 ∧ v25 ≤ 2147483647 := by rw [← e26]; exact hI11.1 86 _
          refine fz_iadd kX11_hears rfl ?_
          refine fz_nmw (fun z28 e29 => ?_)
          refine fz_aload_n kX11_hears rfl rfl ?_
          refine fz_getR (t := 54) kX11_hears rfl rfl ?_
          refine fz_iload_n kX11_hears rfl rfl ?_
          refine fz_ialdV (n := 8) (v := h 54 (x9.toNat)) kX11_hears rfl rfl (by omega) (by omega) (hf12 54 _ rfl) ?_
          have b30 : 0 ≤ h 54 (x9.toNat) ∧ h 54 (x9.toNat) ≤ 9 := hI.1 54 _
          refine fz_iadd kX11_hears rfl ?_
          refine fz_nmw (fun z31 e32 => ?_)
          refine fz_iast (n := 88) kX11_hears rfl rfl (by omega) (by omega) ?_
          refine fz_nmu (S := [(86, 99999), (87, 99999), (88, 99999)]) (h0 := h) (fz_Iv_up hI11 (by decide) (show ((-2147483648) : Int) ≤ z31 by omega) (show (z31 : Int) ≤ 2147483647 by omega)) (fz_fr_up hf12 rfl) (fun H33 hI34 hf35 e36 => ?_)
          clear e36
          refine fz_iincN (ls' := [(2, fz_i (x9 + 1)), (0, fz_r 53), (1, fz_i d)]) kX11_hears rfl (by decide) rfl (by omega) rfl ?_
          refine fz_goto (tgt := 13) kX11_hears rfl (by decide) ?_
          exact ih15 (x9 + 1) H33 hI34 hf35 (by omega) (by omega)
        · refine fz_bipush ⟨by decide, by decide⟩ kX11_hears rfl ?_
          refine fz_goto (tgt := 67) kX11_hears rfl (by decide) ?_
          refine fz_iast (n := 88) kX11_hears rfl rfl (by omega) (by omega) ?_
          refine fz_nmu (S := [(86, 99999), (87, 99999), (88, 99999)]) (h0 := h) (fz_Iv_up hI11 (by decide) (show ((-2147483648) : Int) ≤ (-2) by decide) (show ((-2) : Int) ≤ 2147483647 by decide)) (fz_fr_up hf12 rfl) (fun H37 hI38 hf39 e40 => ?_)
          clear e40
          refine fz_iincN (ls' := [(2, fz_i (x9 + 1)), (0, fz_r 53), (1, fz_i d)]) kX11_hears rfl (by decide) rfl (by omega) rfl ?_
          refine fz_goto (tgt := 13) kX11_hears rfl (by decide) ?_
          exact ih15 (x9 + 1) H37 hI38 hf39 (by omega) (by omega)
  exact lp14 _ 0 H2 hI6 hf8 (by omega) (Nat.lt_succ_self _)

abbrev qX11_allHear (h : fz_H) : fz_H → Option fz_V → Prop := fun h' r0 => fz_Iv h' ∧ fz_fr [(86, 99999), (87, 99999), (88, 99999)] h h' ∧ r0 = none
set_option maxHeartbeats 1000000 in
set_option maxRecDepth 100000 in
theorem sX11_allHear (h : fz_H) (hI : fz_Iv h) : fz_R 3 mX11_allHear 0 [(0, fz_r 53)] [] h (qX11_allHear h) := by
  have hf : fz_fr [(86, 99999), (87, 99999), (88, 99999)] h h := fz_fr_rf
  refine fz_iconst ⟨by decide, by decide⟩ kX11_allHear rfl ?_
  refine fz_istore_n (ls' := [(1, fz_i 0), (0, fz_r 53)]) kX11_allHear rfl (by decide) rfl ?_
  have lp6 : ∀ (n5 : Nat) (x1 : Int) (H2 : fz_H), fz_Iv H2 → fz_fr [(86, 99999), (87, 99999), (88, 99999)] h H2 → (0 ≤ x1 ∧ x1 ≤ 2147483647) → ((h 53 10) - x1).toNat < n5 → fz_R 3 mX11_allHear 2 [(1, fz_i x1), (0, fz_r 53)] [] H2 (qX11_allHear h) := by
    intro n5
    induction n5 with
    | zero => intro x1 H2 hI3 hf4 hv9 hm8; exact absurd hm8 (by omega)
    | succ n5 ih7 =>
      intro x1 H2 hI3 hf4 hv9 hm8
      refine fz_iload_n kX11_allHear rfl rfl ?_
      refine fz_aload_n kX11_allHear rfl rfl ?_
      refine fz_getV (v := h 53 10) kX11_allHear rfl rfl (hf4 53 10 rfl) ?_
      have b10 : 0 ≤ h 53 10 ∧ h 53 10 ≤ 11 := hI.1 53 _
      refine fz_icmp_ge (tgt := 21) kX11_allHear rfl (by decide) (fun c11 => ?_) (fun c11 => ?_)
      · exact fz_vret kX11_allHear rfl rfl ⟨hI3, hf4, rfl⟩
      · refine fz_aload_n kX11_allHear rfl rfl ?_
        refine fz_iload_n kX11_allHear rfl rfl ?_
        refine fz_callV (d' := 2) (M' := mX11_hears) (As := [fz_i x1]) (st := []) kX11_allHear rfl rfl vX11_hears rfl rfl rfl rfl (Nat.le_of_ble_eq_true rfl) (Nat.le_of_ble_eq_true rfl) (by decide) (sX11_hears H2 hI3 x1 (by omega)) (fun H12 r13 q14 o15 => ?_)
        obtain ⟨hI16, hf17, rfl⟩ := q14
        clear o15
        have hf18 := fz_fr_tr hf4 hf17 (show fz_su [(86, 99999), (87, 99999), (88, 99999)] [(86, 99999), (87, 99999), (88, 99999)] = true from rfl)
        refine fz_iincN (ls' := [(1, fz_i (x1 + 1)), (0, fz_r 53)]) kX11_allHear rfl (by decide) rfl (by omega) rfl ?_
        refine fz_goto (tgt := 2) kX11_allHear rfl (by decide) ?_
        exact ih7 (x1 + 1) H12 hI16 hf18 (by omega) (by omega)
  exact lp6 _ 0 h hI hf (by omega) (Nat.lt_succ_self _)

abbrev qX11_heard (h : fz_H) (d t : Int) : fz_H → Option fz_V → Prop := fun h' r0 => fz_Iv h' ∧ fz_fr [(86, 99999), (87, 99999)] h h' ∧ ∃ r : Int, r0 = some (fz_i r) ∧ ((-2147483648) ≤ r ∧ r ≤ 2147483647)
set_option maxHeartbeats 1000000 in
set_option maxRecDepth 100000 in
theorem sX11_heard (h : fz_H) (hI : fz_Iv h) (d t : Int) : fz_R 3 mX11_heard 0 [(0, fz_r 53), (1, fz_i d), (2, fz_i t)] [] h (qX11_heard h d t) := by
  refine fz_knowl (fun hk => ?_)
  have hr_d : -2147483648 ≤ d ∧ d < 2147483648 := hk _ (List.Mem.tail _ (List.Mem.head _))
  have hr_t : -2147483648 ≤ t ∧ t < 2147483648 := hk _ (List.Mem.tail _ (List.Mem.tail _ (List.Mem.head _)))
  clear hk
  have hf : fz_fr [(86, 99999), (87, 99999)] h h := fz_fr_rf
  refine fz_aload_n kX11_heard rfl rfl ?_
  refine fz_iload_n kX11_heard rfl rfl ?_
  have b1 : 0 ≤ h 53 10 ∧ h 53 10 ≤ 11 := hI.1 53 _
  refine fz_callV (d' := 1) (M' := mX11_isDeed) (As := [fz_i d]) (st := []) kX11_heard rfl rfl vX11_isDeed rfl rfl rfl rfl (Nat.le_of_ble_eq_true rfl) (Nat.le_of_ble_eq_true rfl) (by decide) (sX11_isDeed h hI d ) (fun H2 r3 q4 o5 => ?_)
  obtain ⟨e6, y7, rfl, p8⟩ := q4
  subst H2
  clear o5
  rcases p8 with ⟨rfl, c9⟩ | ⟨rfl, c9⟩
  · refine fz_if_eq (tgt := 25) kX11_heard rfl (by decide) (fun c10 => ?_) (fun c10 => ?_)
    · exfalso; omega
    · refine fz_aload_n kX11_heard rfl rfl ?_
      refine fz_iload_n kX11_heard rfl rfl ?_
      have b11 : 0 ≤ h 53 0 ∧ h 53 0 ≤ 8 := hI.1 53 _
      refine fz_callV (d' := 1) (M' := mX11_isTown) (As := [fz_i t]) (st := []) kX11_heard rfl rfl vX11_isTown rfl rfl rfl rfl (Nat.le_of_ble_eq_true rfl) (Nat.le_of_ble_eq_true rfl) (by decide) (sX11_isTown h hI t ) (fun H12 r13 q14 o15 => ?_)
      obtain ⟨e16, y17, rfl, p18⟩ := q14
      subst H12
      clear o15
      rcases p18 with ⟨rfl, c19⟩ | ⟨rfl, c19⟩
      · refine fz_if_eq (tgt := 25) kX11_heard rfl (by decide) (fun c20 => ?_) (fun c20 => ?_)
        · exfalso; omega
        · refine fz_aload_n kX11_heard rfl rfl ?_
          refine fz_iload_n kX11_heard rfl rfl ?_
          refine fz_iload_n kX11_heard rfl rfl ?_
          refine fz_callV (d' := 2) (M' := mX11_heardAt) (As := [fz_i d, fz_i t]) (st := []) kX11_heard rfl rfl vX11_heardAt rfl rfl rfl rfl (Nat.le_of_ble_eq_true rfl) (Nat.le_of_ble_eq_true rfl) (by decide) (sX11_heardAt h hI d t (by omega) (by omega)) (fun H21 r22 q23 o24 => ?_)
          obtain ⟨hI25, hf26, y28, rfl, f27⟩ := q23
          clear o24
          have hf29 := fz_fr_tr hf hf26 (show fz_su [(86, 99999), (87, 99999)] [(86, 99999), (87, 99999)] = true from rfl)
          refine fz_goto (tgt := 26) kX11_heard rfl (by decide) ?_
          exact fz_iret kX11_heard rfl rfl (fun _ => ⟨hI25, hf29, _, rfl, (by omega)⟩)
      · refine fz_if_eq (tgt := 25) kX11_heard rfl (by decide) (fun c30 => ?_) (fun c30 => ?_)
        · refine fz_iconst ⟨by decide, by decide⟩ kX11_heard rfl ?_
          exact fz_iret kX11_heard rfl rfl (fun _ => ⟨hI, hf, _, rfl, (by omega)⟩)
        · exfalso; omega
  · refine fz_if_eq (tgt := 25) kX11_heard rfl (by decide) (fun c31 => ?_) (fun c31 => ?_)
    · refine fz_iconst ⟨by decide, by decide⟩ kX11_heard rfl ?_
      exact fz_iret kX11_heard rfl rfl (fun _ => ⟨hI, hf, _, rfl, (by omega)⟩)
    · exfalso; omega

abbrev qX11_loudness (h : fz_H) (d t hr pe : Int) : fz_H → Option fz_V → Prop := fun h' r0 => fz_Iv h' ∧ fz_fr [(74, 99999), (75, 99999)] h h' ∧ fz_Xw h' ∧ ∃ r : Int, r0 = some (fz_i r) ∧ (0 ≤ r ∧ r ≤ 2147483647)
set_option maxHeartbeats 1000000 in
set_option maxRecDepth 100000 in
theorem sX11_loudness (h : fz_H) (hI : fz_Iv h) (d t hr pe : Int) (hXw : fz_Xw h) (hp0 : 0 ≤ d ∧ d ≤ 10) (hp1 : 0 ≤ t ∧ t ≤ 7) : fz_R 2 mX11_loudness 0 [(0, fz_r 53), (1, fz_i d), (2, fz_i t), (3, fz_i hr), (4, fz_i pe)] [] h (qX11_loudness h d t hr pe) := by
  refine fz_knowl (fun hk => ?_)
  have hr_d : -2147483648 ≤ d ∧ d < 2147483648 := hk _ (List.Mem.tail _ (List.Mem.head _))
  have hr_t : -2147483648 ≤ t ∧ t < 2147483648 := hk _ (List.Mem.tail _ (List.Mem.tail _ (List.Mem.head _)))
  have hr_hr : -2147483648 ≤ hr ∧ hr < 2147483648 := hk _ (List.Mem.tail _ (List.Mem.tail _ (List.Mem.tail _ (List.Mem.head _))))
  have hr_pe : -2147483648 ≤ pe ∧ pe < 2147483648 := hk _ (List.Mem.tail _ (List.Mem.tail _ (List.Mem.tail _ (List.Mem.tail _ (List.Mem.head _)))))
  clear hk
  have hf : fz_fr [(74, 99999), (75, 99999)] h h := fz_fr_rf
  refine fz_aload_n kX11_loudness rfl rfl ?_
  refine fz_getR (t := 88) kX11_loudness rfl rfl ?_
  refine fz_bipush ⟨by decide, by decide⟩ kX11_loudness rfl ?_
  refine fz_iload_n kX11_loudness rfl rfl ?_
  refine fz_imulN kX11_loudness rfl (by omega) ?_
  refine fz_iload_n kX11_loudness rfl rfl ?_
  refine fz_iaddN kX11_loudness rfl (by omega) ?_
  refine fz_ialdV (n := 88) (v := h 88 (((8 * d) + t).toNat)) kX11_loudness rfl rfl (by omega) (by omega) rfl ?_
  have b1 : (-2147483648) ≤ h 88 (((8 * d) + t).toNat) ∧ h 88 (((8 * d) + t).toNat) ≤ 2147483647 := hI.1 88 _
  refine fz_istore (ls' := [(5, fz_i (h 88 (((8 * d) + t).toNat))), (0, fz_r 53), (1, fz_i d), (2, fz_i t), (3, fz_i hr), (4, fz_i pe)]) kX11_loudness rfl (by decide) rfl ?_
  refine fz_iload kX11_loudness rfl rfl ?_
  refine fz_bipush ⟨by decide, by decide⟩ kX11_loudness rfl ?_
  refine fz_icmp_eq (tgt := 26) kX11_loudness rfl (by decide) (fun c2 => ?_) (fun c2 => ?_)
  · refine fz_iconst ⟨by decide, by decide⟩ kX11_loudness rfl ?_
    exact fz_iret kX11_loudness rfl rfl (fun _ => ⟨hI, hf, hXw, _, rfl, (by omega)⟩)
  · refine fz_iload kX11_loudness rfl rfl ?_
    refine fz_iload_n kX11_loudness rfl rfl ?_
    refine fz_icmp_le (tgt := 28) kX11_loudness rfl (by decide) (fun c3 => ?_) (fun c3 => ?_)
    · refine fz_aload_n kX11_loudness rfl rfl ?_
      refine fz_getR (t := 75) kX11_loudness rfl rfl ?_
      refine fz_iconst ⟨by decide, by decide⟩ kX11_loudness rfl ?_
      refine fz_aload_n kX11_loudness rfl rfl ?_
      refine fz_getR (t := 64) kX11_loudness rfl rfl ?_
      refine fz_iload_n kX11_loudness rfl rfl ?_
      refine fz_ialdV (n := 11) (v := h 64 (d.toNat)) kX11_loudness rfl rfl (by omega) (by omega) rfl ?_
      have b4 : 0 ≤ h 64 (d.toNat) ∧ h 64 (d.toNat) ≤ 9 := hI.1 64 _
      refine fz_iast (n := 6) kX11_loudness rfl rfl (by omega) (by omega) ?_
      refine fz_nmu (S := [(74, 99999), (75, 99999)]) (h0 := h) (fz_Iv_up hI (by decide) (show ((-2147483648) : Int) ≤ (h 64 (d.toNat)) by omega) (show ((h 64 (d.toNat)) : Int) ≤ 2147483647 by omega)) (fz_fr_up hf rfl) (fun H5 hI6 hf7 e8 => ?_)
      have hXw9 : fz_Xw H5 := fz_Xw_eq (by rw [e8]; exact fz_up_o (by decide)) (by rw [e8]; exact fz_up_ne (by decide)) (by rw [e8]; exact fz_up_ne (by decide)) (by rw [e8]; exact fz_up_ne (by decide)) (by rw [e8]; exact fz_up_ne (by decide)) hXw
      clear e8
      refine fz_aload_n kX11_loudness rfl rfl ?_
      refine fz_getR (t := 75) kX11_loudness rfl rfl ?_
      refine fz_iconst ⟨by decide, by decide⟩ kX11_loudness rfl ?_
      refine fz_iload_n kX11_loudness rfl rfl ?_
      refine fz_iload kX11_loudness rfl rfl ?_
      refine fz_isub kX11_loudness rfl ?_
      refine fz_nmw (fun z10 e11 => ?_)
      refine fz_iast (n := 6) kX11_loudness rfl rfl (by omega) (by omega) ?_
      refine fz_nmu (S := [(74, 99999), (75, 99999)]) (h0 := h) (fz_Iv_up hI6 (by decide) (show ((-2147483648) : Int) ≤ z10 by omega) (show (z10 : Int) ≤ 2147483647 by omega)) (fz_fr_up hf7 rfl) (fun H12 hI13 hf14 e15 => ?_)
      have hXw16 : fz_Xw H12 := fz_Xw_eq (by rw [e15]; exact fz_up_o (by decide)) (by rw [e15]; exact fz_up_ne (by decide)) (by rw [e15]; exact fz_up_ne (by decide)) (by rw [e15]; exact fz_up_ne (by decide)) (by rw [e15]; exact fz_up_ne (by decide)) hXw9
      clear e15
      refine fz_aload_n kX11_loudness rfl rfl ?_
      refine fz_getR (t := 75) kX11_loudness rfl rfl ?_
      refine fz_iconst ⟨by decide, by decide⟩ kX11_loudness rfl ?_
      refine fz_iload kX11_loudness rfl rfl ?_
      refine fz_aload_n kX11_loudness rfl rfl ?_
      refine fz_getR (t := 62) kX11_loudness rfl rfl ?_
      refine fz_iload_n kX11_loudness rfl rfl ?_
      refine fz_ialdV (n := 11) (v := h 62 (d.toNat)) kX11_loudness rfl rfl (by omega) (by omega) (hf14 62 _ rfl) ?_
      have b17 : 0 ≤ h 62 (d.toNat) ∧ h 62 (d.toNat) ≤ 999 := hI.1 62 _
      refine fz_isub kX11_loudness rfl ?_
      refine fz_nmw (fun z18 e19 => ?_)
      refine fz_iast (n := 6) kX11_loudness rfl rfl (by omega) (by omega) ?_
      refine fz_nmu (S := [(74, 99999), (75, 99999)]) (h0 := h) (fz_Iv_up hI13 (by decide) (show ((-2147483648) : Int) ≤ z18 by omega) (show (z18 : Int) ≤ 2147483647 by omega)) (fz_fr_up hf14 rfl) (fun H20 hI21 hf22 e23 => ?_)
      have hXw24 : fz_Xw H20 := fz_Xw_eq (by rw [e23]; exact fz_up_o (by decide)) (by rw [e23]; exact fz_up_ne (by decide)) (by rw [e23]; exact fz_up_ne (by decide)) (by rw [e23]; exact fz_up_ne (by decide)) (by rw [e23]; exact fz_up_ne (by decide)) hXw16
      clear e23
      refine fz_aload_n kX11_loudness rfl rfl ?_
      refine fz_getR (t := 75) kX11_loudness rfl rfl ?_
      refine fz_iconst ⟨by decide, by decide⟩ kX11_loudness rfl ?_
      refine fz_aload_n kX11_loudness rfl rfl ?_
      refine fz_getR (t := 63) kX11_loudness rfl rfl ?_
      refine fz_iload_n kX11_loudness rfl rfl ?_
      refine fz_ialdV (n := 11) (v := h 63 (d.toNat)) kX11_loudness rfl rfl (by omega) (by omega) (hf22 63 _ rfl) ?_
      have b25 : 0 ≤ h 63 (d.toNat) ∧ h 63 (d.toNat) ≤ 4 := hI.1 63 _
      refine fz_iast (n := 6) kX11_loudness rfl rfl (by omega) (by omega) ?_
      refine fz_nmu (S := [(74, 99999), (75, 99999)]) (h0 := h) (fz_Iv_up hI21 (by decide) (show ((-2147483648) : Int) ≤ (h 63 (d.toNat)) by omega) (show ((h 63 (d.toNat)) : Int) ≤ 2147483647 by omega)) (fz_fr_up hf22 rfl) (fun H26 hI27 hf28 e29 => ?_)
      have hXw30 : fz_Xw H26 := fz_Xw_eq (by rw [e29]; exact fz_up_o (by decide)) (by rw [e29]; exact fz_up_ne (by decide)) (by rw [e29]; exact fz_up_ne (by decide)) (by rw [e29]; exact fz_up_ne (by decide)) (by rw [e29]; exact fz_up_ne (by decide)) hXw24
      clear e29
      refine fz_aload_n kX11_loudness rfl rfl ?_
      refine fz_getR (t := 75) kX11_loudness rfl rfl ?_
      refine fz_iconst ⟨by decide, by decide⟩ kX11_loudness rfl ?_
      refine fz_iload_n kX11_loudness rfl rfl ?_
      refine fz_iast (n := 6) kX11_loudness rfl rfl (by omega) (by omega) ?_
      refine fz_nmu (S := [(74, 99999), (75, 99999)]) (h0 := h) (fz_Iv_up hI27 (by decide) (show ((-2147483648) : Int) ≤ t by omega) (show (t : Int) ≤ 2147483647 by omega)) (fz_fr_up hf28 rfl) (fun H31 hI32 hf33 e34 => ?_)
      have hXw35 : fz_Xw H31 := fz_Xw_eq (by rw [e34]; exact fz_up_o (by decide)) (by rw [e34]; exact fz_up_ne (by decide)) (by rw [e34]; exact fz_up_ne (by decide)) (by rw [e34]; exact fz_up_ne (by decide)) (by rw [e34]; exact fz_up_ne (by decide)) hXw30
      clear e34
      refine fz_aload_n kX11_loudness rfl rfl ?_
      refine fz_getR (t := 75) kX11_loudness rfl rfl ?_
      refine fz_iconst ⟨by decide, by decide⟩ kX11_loudness rfl ?_
      refine fz_iload kX11_loudness rfl rfl ?_
      refine fz_iast (n := 6) kX11_loudness rfl rfl (by omega) (by omega) ?_
      refine fz_nmu (S := [(74, 99999), (75, 99999)]) (h0 := h) (fz_Iv_up hI32 (by decide) (show ((-2147483648) : Int) ≤ pe by omega) (show (pe : Int) ≤ 2147483647 by omega)) (fz_fr_up hf33 rfl) (fun H36 hI37 hf38 e39 => ?_)
      have hXw40 : fz_Xw H36 := fz_Xw_eq (by rw [e39]; exact fz_up_o (by decide)) (by rw [e39]; exact fz_up_ne (by decide)) (by rw [e39]; exact fz_up_ne (by decide)) (by rw [e39]; exact fz_up_ne (by decide)) (by rw [e39]; exact fz_up_ne (by decide)) hXw35
      clear e39
      refine fz_aload_n kX11_loudness rfl rfl ?_
      refine fz_getV (v := h 53 18) kX11_loudness rfl rfl (hf38 53 18 rfl) ?_
      have b41 : 0 ≤ h 53 18 ∧ h 53 18 ≤ 1 := hI.1 53 _
      refine fz_if_ne (tgt := 131) kX11_loudness rfl (by decide) (fun c42 => ?_) (fun c42 => ?_)
      · refine fz_iconst ⟨by decide, by decide⟩ kX11_loudness rfl ?_
        refine fz_istore (ls' := [(6, fz_i 0), (5, fz_i (h 88 (((8 * d) + t).toNat))), (0, fz_r 53), (1, fz_i d), (2, fz_i t), (3, fz_i hr), (4, fz_i pe)]) kX11_loudness rfl (by decide) rfl ?_
        have lp49 : ∀ (n48 : Nat) (x43 : Int) (H45 : fz_H), fz_Iv H45 → fz_fr [(74, 99999), (75, 99999)] h H45 → fz_Xw H45 → (0 ≤ x43 ∧ x43 ≤ 2147483647) → ((h 53 19) - x43).toNat < n48 → fz_R 2 mX11_loudness 134 [(6, fz_i x43), (5, fz_i (h 88 (((8 * d) + t).toNat))), (0, fz_r 53), (1, fz_i d), (2, fz_i t), (3, fz_i hr), (4, fz_i pe)] [] H45 (qX11_loudness h d t hr pe) := by
          intro n48
          induction n48 with
          | zero => intro x43 H45 hI46 hf47 hXw44 hv52 hm51; exact absurd hm51 (by omega)
          | succ n48 ih50 =>
            intro x43 H45 hI46 hf47 hXw44 hv52 hm51
            refine fz_iload kX11_loudness rfl rfl ?_
            refine fz_aload_n kX11_loudness rfl rfl ?_
            refine fz_getV (v := h 53 19) kX11_loudness rfl rfl (hf47 53 19 rfl) ?_
            have b53 : 0 ≤ h 53 19 ∧ h 53 19 ≤ 60 := hI.1 53 _
            refine fz_icmp_ge (tgt := 218) kX11_loudness rfl (by decide) (fun c54 => ?_) (fun c54 => ?_)
            · refine fz_iconst ⟨by decide, by decide⟩ kX11_loudness rfl ?_
              exact fz_iret kX11_loudness rfl rfl (fun _ => ⟨hI46, hf47, hXw44, _, rfl, (by omega)⟩)
            · have k55 := fz_Xw_i (x := x43) hXw (by omega)
              have k57 := k55.1
              refine fz_aload_n kX11_loudness rfl rfl ?_
              refine fz_getR (t := 67) kX11_loudness rfl rfl ?_
              refine fz_iload kX11_loudness rfl rfl ?_
              refine fz_ialdV (n := 60) (v := h 67 (x43.toNat)) kX11_loudness rfl rfl (by omega) (by omega) (hf47 67 _ rfl) ?_
              have b58 : 0 ≤ h 67 (x43.toNat) ∧ h 67 (x43.toNat) ≤ 200 := hI.1 67 _
              refine fz_aload_n kX11_loudness rfl rfl ?_
              refine fz_getR (t := 66) kX11_loudness rfl rfl ?_
              refine fz_iload kX11_loudness rfl rfl ?_
              refine fz_ialdV (n := 60) (v := h 66 (x43.toNat)) kX11_loudness rfl rfl (by omega) (by omega) (hf47 66 _ rfl) ?_
              have b59 : 0 ≤ h 66 (x43.toNat) ∧ h 66 (x43.toNat) ≤ 200 := hI.1 66 _
              refine fz_icmp_le (tgt := 184) kX11_loudness rfl (by decide) (fun c60 => ?_) (fun c60 => ?_)
              · refine fz_iconst ⟨by decide, by decide⟩ kX11_loudness rfl ?_
                refine fz_bipush ⟨by decide, by decide⟩ kX11_loudness rfl ?_
                refine fz_aload_n kX11_loudness rfl rfl ?_
                refine fz_aload_n kX11_loudness rfl rfl ?_
                refine fz_getR (t := 67) kX11_loudness rfl rfl ?_
                refine fz_iload kX11_loudness rfl rfl ?_
                refine fz_ialdV (n := 60) (v := h 67 (x43.toNat)) kX11_loudness rfl rfl (by omega) (by omega) (hf47 67 _ rfl) ?_
                refine fz_aload_n kX11_loudness rfl rfl ?_
                refine fz_getR (t := 68) kX11_loudness rfl rfl ?_
                refine fz_iload kX11_loudness rfl rfl ?_
                refine fz_ialdV (n := 60) (v := h 68 (x43.toNat)) kX11_loudness rfl rfl (by omega) (by omega) (hf47 68 _ rfl) ?_
                have b61 : 0 ≤ h 68 (x43.toNat) ∧ h 68 (x43.toNat) ≤ 200 := hI.1 68 _
                have k62 := fz_Sg_h (funext fun s => hf47 69 s rfl) k55.2.2
                refine fz_callV (d' := 1) (M' := mX11_worked) (As := [fz_i (h 67 (x43.toNat)), fz_i (h 68 (x43.toNat))]) (st := [fz_i 99, fz_i 0]) kX11_loudness rfl rfl vX11_worked rfl rfl rfl rfl (Nat.le_of_ble_eq_true rfl) (Nat.le_of_ble_eq_true rfl) (by decide) (sX11_worked H45 hI46 (h 67 (x43.toNat)) (h 68 (x43.toNat)) (by omega) k62) (fun H64 r65 q66 o67 => ?_)
                obtain ⟨hI68, hf69, y71, rfl, f70⟩ := q66
                clear o67
                have hf72 := fz_fr_tr hf47 hf69 (show fz_su [(74, 99999)] [(74, 99999), (75, 99999)] = true from rfl)
                have hXw73 : fz_Xw H64 := fz_Xw_eq (hf69 53 19 rfl) (funext fun s => hf69 66 s rfl) (funext fun s => hf69 67 s rfl) (funext fun s => hf69 68 s rfl) (funext fun s => hf69 69 s rfl) hXw44
                refine fz_min kX11_loudness rfl rfl fz_sMn fz_iMm fz_cMn (by decide) (Nat.le_of_ble_eq_true rfl) ?_
                refine fz_max kX11_loudness rfl rfl fz_sMx fz_iMm fz_cMx (by decide) (Nat.le_of_ble_eq_true rfl) ?_
                exact fz_iret kX11_loudness rfl rfl (fun _ => ⟨hI68, hf72, hXw73, _, rfl, (by omega)⟩)
              · refine fz_aload_n kX11_loudness rfl rfl ?_
                refine fz_aload_n kX11_loudness rfl rfl ?_
                refine fz_getR (t := 66) kX11_loudness rfl rfl ?_
                refine fz_iload kX11_loudness rfl rfl ?_
                refine fz_ialdV (n := 60) (v := h 66 (x43.toNat)) kX11_loudness rfl rfl (by omega) (by omega) (hf47 66 _ rfl) ?_
                refine fz_aload_n kX11_loudness rfl rfl ?_
                refine fz_getR (t := 67) kX11_loudness rfl rfl ?_
                refine fz_iload kX11_loudness rfl rfl ?_
                refine fz_ialdV (n := 60) (v := h 67 (x43.toNat)) kX11_loudness rfl rfl (by omega) (by omega) (hf47 67 _ rfl) ?_
                have k74 := fz_Sg_h (funext fun s => hf47 69 s rfl) k55.2.1
                refine fz_callV (d' := 1) (M' := mX11_worked) (As := [fz_i (h 66 (x43.toNat)), fz_i (h 67 (x43.toNat))]) (st := []) kX11_loudness rfl rfl vX11_worked rfl rfl rfl rfl (Nat.le_of_ble_eq_true rfl) (Nat.le_of_ble_eq_true rfl) (by decide) (sX11_worked H45 hI46 (h 66 (x43.toNat)) (h 67 (x43.toNat)) (by omega) k74) (fun H76 r77 q78 o79 => ?_)
                obtain ⟨hI80, hf81, y83, rfl, f82⟩ := q78
                clear o79
                have hf84 := fz_fr_tr hf47 hf81 (show fz_su [(74, 99999)] [(74, 99999), (75, 99999)] = true from rfl)
                have hXw85 : fz_Xw H76 := fz_Xw_eq (hf81 53 19 rfl) (funext fun s => hf81 66 s rfl) (funext fun s => hf81 67 s rfl) (funext fun s => hf81 68 s rfl) (funext fun s => hf81 69 s rfl) hXw44
                refine fz_if_ne (tgt := 184) kX11_loudness rfl (by decide) (fun c86 => ?_) (fun c86 => ?_)
                · refine fz_iconst ⟨by decide, by decide⟩ kX11_loudness rfl ?_
                  refine fz_bipush ⟨by decide, by decide⟩ kX11_loudness rfl ?_
                  refine fz_aload_n kX11_loudness rfl rfl ?_
                  refine fz_aload_n kX11_loudness rfl rfl ?_
                  refine fz_getR (t := 67) kX11_loudness rfl rfl ?_
                  refine fz_iload kX11_loudness rfl rfl ?_
                  refine fz_ialdV (n := 60) (v := h 67 (x43.toNat)) kX11_loudness rfl rfl (by omega) (by omega) (hf84 67 _ rfl) ?_
                  refine fz_aload_n kX11_loudness rfl rfl ?_
                  refine fz_getR (t := 68) kX11_loudness rfl rfl ?_
                  refine fz_iload kX11_loudness rfl rfl ?_
                  refine fz_ialdV (n := 60) (v := h 68 (x43.toNat)) kX11_loudness rfl rfl (by omega) (by omega) (hf84 68 _ rfl) ?_
                  have b87 : 0 ≤ h 68 (x43.toNat) ∧ h 68 (x43.toNat) ≤ 200 := hI.1 68 _
                  have k88 := fz_Sg_h (funext fun s => hf84 69 s rfl) k55.2.2
                  refine fz_callV (d' := 1) (M' := mX11_worked) (As := [fz_i (h 67 (x43.toNat)), fz_i (h 68 (x43.toNat))]) (st := [fz_i 99, fz_i 0]) kX11_loudness rfl rfl vX11_worked rfl rfl rfl rfl (Nat.le_of_ble_eq_true rfl) (Nat.le_of_ble_eq_true rfl) (by decide) (sX11_worked H76 hI80 (h 67 (x43.toNat)) (h 68 (x43.toNat)) (by omega) k88) (fun H90 r91 q92 o93 => ?_)
                  obtain ⟨hI94, hf95, y97, rfl, f96⟩ := q92
                  clear o93
                  have hf98 := fz_fr_tr hf84 hf95 (show fz_su [(74, 99999)] [(74, 99999), (75, 99999)] = true from rfl)
                  have hXw99 : fz_Xw H90 := fz_Xw_eq (hf95 53 19 rfl) (funext fun s => hf95 66 s rfl) (funext fun s => hf95 67 s rfl) (funext fun s => hf95 68 s rfl) (funext fun s => hf95 69 s rfl) hXw85
                  refine fz_min kX11_loudness rfl rfl fz_sMn fz_iMm fz_cMn (by decide) (Nat.le_of_ble_eq_true rfl) ?_
                  refine fz_max kX11_loudness rfl rfl fz_sMx fz_iMm fz_cMx (by decide) (Nat.le_of_ble_eq_true rfl) ?_
                  exact fz_iret kX11_loudness rfl rfl (fun _ => ⟨hI94, hf98, hXw99, _, rfl, (by omega)⟩)
                · refine fz_goto (tgt := 212) kX11_loudness rfl (by decide) ?_
                  refine fz_iincN (ls' := [(6, fz_i (x43 + 1)), (5, fz_i (h 88 (((8 * d) + t).toNat))), (0, fz_r 53), (1, fz_i d), (2, fz_i t), (3, fz_i hr), (4, fz_i pe)]) kX11_loudness rfl (by decide) rfl (by omega) rfl ?_
                  refine fz_goto (tgt := 134) kX11_loudness rfl (by decide) ?_
                  exact ih50 (x43 + 1) H76 hI80 hf84 hXw85 (by omega) (by omega)
        exact lp49 _ 0 H36 hI37 hf38 hXw40 (by omega) (Nat.lt_succ_self _)
      · refine fz_iconst ⟨by decide, by decide⟩ kX11_loudness rfl ?_
        refine fz_iconst ⟨by decide, by decide⟩ kX11_loudness rfl ?_
        refine fz_aload_n kX11_loudness rfl rfl ?_
        refine fz_getR (t := 75) kX11_loudness rfl rfl ?_
        refine fz_iconst ⟨by decide, by decide⟩ kX11_loudness rfl ?_
        obtain ⟨v100, e101⟩ : ∃ z, H36 75 (0) = z := ⟨_, rfl⟩
        refine fz_ialdV (n := 6) (v := v100) kX11_loudness rfl rfl (by omega) (by omega) e101 ?_
        have b102 : (-2147483648) ≤ v100 ∧ v100 ≤ 2147483647 := by rw [← e101]; exact hI37.1 75 _
        refine fz_imul kX11_loudness rfl ?_
        refine fz_nmw (fun z103 e104 => ?_)
        refine fz_aload_n kX11_loudness rfl rfl ?_
        refine fz_getR (t := 75) kX11_loudness rfl rfl ?_
        refine fz_iconst ⟨by decide, by decide⟩ kX11_loudness rfl ?_
        obtain ⟨v105, e106⟩ : ∃ z, H36 75 (1) = z := ⟨_, rfl⟩
        refine fz_ialdV (n := 6) (v := v105) kX11_loudness rfl rfl (by omega) (by omega) e106 ?_
        have b107 : (-2147483648) ≤ v105 ∧ v105 ≤ 2147483647 := by rw [← e106]; exact hI37.1 75 _
        refine fz_bipush ⟨by decide, by decide⟩ kX11_loudness rfl ?_
        refine fz_idivT kX11_loudness rfl (by decide) (by omega) (fun z108 r109 e110 e111 e112 e113 e114 e115 e116 => ?_)
        refine fz_isub kX11_loudness rfl ?_
        refine fz_nmw (fun z117 e118 => ?_)
        refine fz_aload_n kX11_loudness rfl rfl ?_
        refine fz_getR (t := 75) kX11_loudness rfl rfl ?_
        refine fz_iconst ⟨by decide, by decide⟩ kX11_loudness rfl ?_
        obtain ⟨v119, e120⟩ : ∃ z, H36 75 (2) = z := ⟨_, rfl⟩
        refine fz_ialdV (n := 6) (v := v119) kX11_loudness rfl rfl (by omega) (by omega) e120 ?_
        have b121 : (-2147483648) ≤ v119 ∧ v119 ≤ 2147483647 := by rw [← e120]; exact hI37.1 75 _
        refine fz_iconst ⟨by decide, by decide⟩ kX11_loudness rfl ?_
        refine fz_idivT kX11_loudness rfl (by decide) (by omega) (fun z122 r123 e124 e125 e126 e127 e128 e129 e130 => ?_)
        refine fz_isub kX11_loudness rfl ?_
        refine fz_nmw (fun z131 e132 => ?_)
        refine fz_max kX11_loudness rfl rfl fz_sMx fz_iMm fz_cMx (by decide) (Nat.le_of_ble_eq_true rfl) ?_
        exact fz_iret kX11_loudness rfl rfl (fun _ => ⟨hI37, hf38, hXw40, _, rfl, (by omega)⟩)
    · refine fz_iconst ⟨by decide, by decide⟩ kX11_loudness rfl ?_
      exact fz_iret kX11_loudness rfl rfl (fun _ => ⟨hI, hf, hXw, _, rfl, (by omega)⟩)

abbrev qX11_loud (h : fz_H) (d th : Int) : fz_H → Option fz_V → Prop := fun h' r0 => fz_Iv h' ∧ fz_fr [(74, 99999), (75, 99999), (86, 99999), (87, 99999), (88, 99999)] h h' ∧ fz_Xw h' ∧ ∃ r : Int, r0 = some (fz_i r) ∧ ((-1) ≤ r ∧ r ≤ 2147483647)
set_option maxHeartbeats 1000000 in
set_option maxRecDepth 100000 in
theorem sX11_loud (h : fz_H) (hI : fz_Iv h) (d th : Int) (hXw : fz_Xw h) : fz_R 3 mX11_loud 0 [(0, fz_r 53), (1, fz_i d), (2, fz_i th)] [] h (qX11_loud h d th) := by
  refine fz_knowl (fun hk => ?_)
  have hr_d : -2147483648 ≤ d ∧ d < 2147483648 := hk _ (List.Mem.tail _ (List.Mem.head _))
  have hr_th : -2147483648 ≤ th ∧ th < 2147483648 := hk _ (List.Mem.tail _ (List.Mem.tail _ (List.Mem.head _)))
  clear hk
  have hf : fz_fr [(74, 99999), (75, 99999), (86, 99999), (87, 99999), (88, 99999)] h h := fz_fr_rf
  refine fz_aload_n kX11_loud rfl rfl ?_
  refine fz_iload_n kX11_loud rfl rfl ?_
  have b1 : 0 ≤ h 53 10 ∧ h 53 10 ≤ 11 := hI.1 53 _
  refine fz_callV (d' := 1) (M' := mX11_isDeed) (As := [fz_i d]) (st := []) kX11_loud rfl rfl vX11_isDeed rfl rfl rfl rfl (Nat.le_of_ble_eq_true rfl) (Nat.le_of_ble_eq_true rfl) (by decide) (sX11_isDeed h hI d ) (fun H2 r3 q4 o5 => ?_)
  obtain ⟨e6, y7, rfl, p8⟩ := q4
  subst H2
  clear o5
  rcases p8 with ⟨rfl, c9⟩ | ⟨rfl, c9⟩
  · refine fz_if_eq (tgt := 16) kX11_loud rfl (by decide) (fun c10 => ?_) (fun c10 => ?_)
    · exfalso; omega
    · refine fz_aload_n kX11_loud rfl rfl ?_
      refine fz_iload_n kX11_loud rfl rfl ?_
      have b11 : 0 ≤ h 53 0 ∧ h 53 0 ≤ 8 := hI.1 53 _
      refine fz_callV (d' := 2) (M' := mX11_isWhen) (As := [fz_i th]) (st := []) kX11_loud rfl rfl vX11_isWhen rfl rfl rfl rfl (Nat.le_of_ble_eq_true rfl) (Nat.le_of_ble_eq_true rfl) (by decide) (sX11_isWhen h hI th ) (fun H12 r13 q14 o15 => ?_)
      obtain ⟨e16, y17, rfl, p18⟩ := q14
      subst H12
      clear o15
      rcases p18 with ⟨rfl, c19⟩ | ⟨rfl, c19⟩
      · refine fz_if_ne (tgt := 18) kX11_loud rfl (by decide) (fun c20 => ?_) (fun c20 => ?_)
        · refine fz_aload_n kX11_loud rfl rfl ?_
          refine fz_iload_n kX11_loud rfl rfl ?_
          refine fz_callV (d' := 2) (M' := mX11_hears) (As := [fz_i d]) (st := []) kX11_loud rfl rfl vX11_hears rfl rfl rfl rfl (Nat.le_of_ble_eq_true rfl) (Nat.le_of_ble_eq_true rfl) (by decide) (sX11_hears h hI d (by omega)) (fun H21 r22 q23 o24 => ?_)
          obtain ⟨hI25, hf26, rfl⟩ := q23
          clear o24
          have hf27 := fz_fr_tr hf hf26 (show fz_su [(86, 99999), (87, 99999), (88, 99999)] [(74, 99999), (75, 99999), (86, 99999), (87, 99999), (88, 99999)] = true from rfl)
          have hXw28 : fz_Xw H21 := fz_Xw_eq (hf26 53 19 rfl) (funext fun s => hf26 66 s rfl) (funext fun s => hf26 67 s rfl) (funext fun s => hf26 68 s rfl) (funext fun s => hf26 69 s rfl) hXw
          refine fz_aload_n kX11_loud rfl rfl ?_
          refine fz_iload_n kX11_loud rfl rfl ?_
          refine fz_iload_n kX11_loud rfl rfl ?_
          refine fz_sipush ⟨by decide, by decide⟩ kX11_loud rfl ?_
          refine fz_idivN kX11_loud rfl (by omega) (by omega) (by omega) ?_
          refine fz_iload_n kX11_loud rfl rfl ?_
          refine fz_sipush ⟨by decide, by decide⟩ kX11_loud rfl ?_
          refine fz_iremN kX11_loud rfl (by omega) (by omega) (by omega) ?_
          refine fz_aload_n kX11_loud rfl rfl ?_
          refine fz_getR (t := 60) kX11_loud rfl rfl ?_
          refine fz_iload_n kX11_loud rfl rfl ?_
          refine fz_ialdV (n := 11) (v := h 60 (d.toNat)) kX11_loud rfl rfl (by omega) (by omega) (hf27 60 _ rfl) ?_
          have b29 : (-2147483648) ≤ h 60 (d.toNat) ∧ h 60 (d.toNat) ≤ 2147483647 := hI.1 60 _
          refine fz_callV (d' := 2) (M' := mX11_loudness) (As := [fz_i d, fz_i (th / 1000), fz_i (th % 1000), fz_i (h 60 (d.toNat))]) (st := []) kX11_loud rfl rfl vX11_loudness rfl rfl rfl rfl (Nat.le_of_ble_eq_true rfl) (Nat.le_of_ble_eq_true rfl) (by decide) (sX11_loudness H21 hI25 d (th / 1000) (th % 1000) (h 60 (d.toNat)) hXw28 (by omega) (by omega)) (fun H30 r31 q32 o33 => ?_)
          obtain ⟨hI34, hf35, hXw36, y38, rfl, f37⟩ := q32
          clear o33
          have hf39 := fz_fr_tr hf27 hf35 (show fz_su [(74, 99999), (75, 99999)] [(74, 99999), (75, 99999), (86, 99999), (87, 99999), (88, 99999)] = true from rfl)
          exact fz_iret kX11_loud rfl rfl (fun _ => ⟨hI34, hf39, hXw36, _, rfl, (by omega)⟩)
        · exfalso; omega
      · refine fz_if_ne (tgt := 18) kX11_loud rfl (by decide) (fun c40 => ?_) (fun c40 => ?_)
        · exfalso; omega
        · refine fz_iconst ⟨by decide, by decide⟩ kX11_loud rfl ?_
          exact fz_iret kX11_loud rfl rfl (fun _ => ⟨hI, hf, hXw, _, rfl, (by omega)⟩)
  · refine fz_if_eq (tgt := 16) kX11_loud rfl (by decide) (fun c41 => ?_) (fun c41 => ?_)
    · refine fz_iconst ⟨by decide, by decide⟩ kX11_loud rfl ?_
      exact fz_iret kX11_loud rfl rfl (fun _ => ⟨hI, hf, hXw, _, rfl, (by omega)⟩)
    · exfalso; omega

abbrev qX11_saidOf (h : fz_H) (pe mk t hr : Int) : fz_H → Option fz_V → Prop := fun h' r0 => fz_Iv h' ∧ fz_fr [(74, 99999), (75, 99999)] h h' ∧ fz_Xw h' ∧ ∃ r : Int, r0 = some (fz_i r) ∧ ((-2147483648) ≤ r ∧ r ≤ 2147483647)
set_option maxHeartbeats 1000000 in
set_option maxRecDepth 100000 in
theorem sX11_saidOf (h : fz_H) (hI : fz_Iv h) (pe mk t hr : Int) (hXw : fz_Xw h) (hp0 : 0 ≤ t ∧ t ≤ 7) : fz_R 3 mX11_saidOf 0 [(0, fz_r 53), (1, fz_i pe), (2, fz_i mk), (3, fz_i t), (4, fz_i hr)] [] h (qX11_saidOf h pe mk t hr) := by
  refine fz_knowl (fun hk => ?_)
  have hr_pe : -2147483648 ≤ pe ∧ pe < 2147483648 := hk _ (List.Mem.tail _ (List.Mem.head _))
  have hr_mk : -2147483648 ≤ mk ∧ mk < 2147483648 := hk _ (List.Mem.tail _ (List.Mem.tail _ (List.Mem.head _)))
  have hr_t : -2147483648 ≤ t ∧ t < 2147483648 := hk _ (List.Mem.tail _ (List.Mem.tail _ (List.Mem.tail _ (List.Mem.head _))))
  have hr_hr : -2147483648 ≤ hr ∧ hr < 2147483648 := hk _ (List.Mem.tail _ (List.Mem.tail _ (List.Mem.tail _ (List.Mem.tail _ (List.Mem.head _)))))
  clear hk
  have hf : fz_fr [(74, 99999), (75, 99999)] h h := fz_fr_rf
  refine fz_iconst ⟨by decide, by decide⟩ kX11_saidOf rfl ?_
  refine fz_istore (ls' := [(5, fz_i 0), (0, fz_r 53), (1, fz_i pe), (2, fz_i mk), (3, fz_i t), (4, fz_i hr)]) kX11_saidOf rfl (by decide) rfl ?_
  refine fz_iconst ⟨by decide, by decide⟩ kX11_saidOf rfl ?_
  refine fz_istore (ls' := [(6, fz_i 0), (5, fz_i 0), (0, fz_r 53), (1, fz_i pe), (2, fz_i mk), (3, fz_i t), (4, fz_i hr)]) kX11_saidOf rfl (by decide) rfl ?_
  have lp8 : ∀ (n7 : Nat) (x1 : Int) (x2 : Int) (H4 : fz_H), fz_Iv H4 → fz_fr [(74, 99999), (75, 99999)] h H4 → fz_Xw H4 → (0 ≤ x1 ∧ x1 ≤ 2147483647) → ((-2147483648) ≤ x2 ∧ x2 ≤ 2147483647) → ((h 53 10) - x1).toNat < n7 → fz_R 3 mX11_saidOf 6 [(6, fz_i x1), (5, fz_i x2), (0, fz_r 53), (1, fz_i pe), (2, fz_i mk), (3, fz_i t), (4, fz_i hr)] [] H4 (qX11_saidOf h pe mk t hr) := by
    intro n7
    induction n7 with
    | zero => intro x1 x2 H4 hI5 hf6 hXw3 hv11 hv12 hm10; exact absurd hm10 (by omega)
    | succ n7 ih9 =>
      intro x1 x2 H4 hI5 hf6 hXw3 hv11 hv12 hm10
      refine fz_iload kX11_saidOf rfl rfl ?_
      refine fz_aload_n kX11_saidOf rfl rfl ?_
      refine fz_getV (v := h 53 10) kX11_saidOf rfl rfl (hf6 53 10 rfl) ?_
      have b13 : 0 ≤ h 53 10 ∧ h 53 10 ≤ 11 := hI.1 53 _
      refine fz_icmp_ge (tgt := 60) kX11_saidOf rfl (by decide) (fun c14 => ?_) (fun c14 => ?_)
      · refine fz_iload kX11_saidOf rfl rfl ?_
        exact fz_iret kX11_saidOf rfl rfl (fun _ => ⟨hI5, hf6, hXw3, _, rfl, (by omega)⟩)
      · refine fz_aload_n kX11_saidOf rfl rfl ?_
        refine fz_getR (t := 60) kX11_saidOf rfl rfl ?_
        refine fz_iload kX11_saidOf rfl rfl ?_
        refine fz_ialdV (n := 11) (v := h 60 (x1.toNat)) kX11_saidOf rfl rfl (by omega) (by omega) (hf6 60 _ rfl) ?_
        have b15 : (-2147483648) ≤ h 60 (x1.toNat) ∧ h 60 (x1.toNat) ≤ 2147483647 := hI.1 60 _
        refine fz_iload_n kX11_saidOf rfl rfl ?_
        refine fz_icmp_ne (tgt := 54) kX11_saidOf rfl (by decide) (fun c16 => ?_) (fun c16 => ?_)
        · refine fz_iincN (ls' := [(6, fz_i (x1 + 1)), (5, fz_i x2), (0, fz_r 53), (1, fz_i pe), (2, fz_i mk), (3, fz_i t), (4, fz_i hr)]) kX11_saidOf rfl (by decide) rfl (by omega) rfl ?_
          refine fz_goto (tgt := 6) kX11_saidOf rfl (by decide) ?_
          exact ih9 (x1 + 1) x2 H4 hI5 hf6 hXw3 (by omega) (by omega) (by omega)
        · refine fz_aload_n kX11_saidOf rfl rfl ?_
          refine fz_getR (t := 63) kX11_saidOf rfl rfl ?_
          refine fz_iload kX11_saidOf rfl rfl ?_
          refine fz_ialdV (n := 11) (v := h 63 (x1.toNat)) kX11_saidOf rfl rfl (by omega) (by omega) (hf6 63 _ rfl) ?_
          have b17 : 0 ≤ h 63 (x1.toNat) ∧ h 63 (x1.toNat) ≤ 4 := hI.1 63 _
          refine fz_iload_n kX11_saidOf rfl rfl ?_
          refine fz_icmp_ne (tgt := 54) kX11_saidOf rfl (by decide) (fun c18 => ?_) (fun c18 => ?_)
          · refine fz_iincN (ls' := [(6, fz_i (x1 + 1)), (5, fz_i x2), (0, fz_r 53), (1, fz_i pe), (2, fz_i mk), (3, fz_i t), (4, fz_i hr)]) kX11_saidOf rfl (by decide) rfl (by omega) rfl ?_
            refine fz_goto (tgt := 6) kX11_saidOf rfl (by decide) ?_
            exact ih9 (x1 + 1) x2 H4 hI5 hf6 hXw3 (by omega) (by omega) (by omega)
          · refine fz_iload kX11_saidOf rfl rfl ?_
            refine fz_aload_n kX11_saidOf rfl rfl ?_
            refine fz_iload kX11_saidOf rfl rfl ?_
            refine fz_iload_n kX11_saidOf rfl rfl ?_
            refine fz_iload kX11_saidOf rfl rfl ?_
            refine fz_iload_n kX11_saidOf rfl rfl ?_
            refine fz_callV (d' := 2) (M' := mX11_loudness) (As := [fz_i x1, fz_i t, fz_i hr, fz_i pe]) (st := [fz_i x2]) kX11_saidOf rfl rfl vX11_loudness rfl rfl rfl rfl (Nat.le_of_ble_eq_true rfl) (Nat.le_of_ble_eq_true rfl) (by decide) (sX11_loudness H4 hI5 x1 t hr pe hXw3 (by omega) (by omega)) (fun H19 r20 q21 o22 => ?_)
            obtain ⟨hI23, hf24, hXw25, y27, rfl, f26⟩ := q21
            clear o22
            have hf28 := fz_fr_tr hf6 hf24 (show fz_su [(74, 99999), (75, 99999)] [(74, 99999), (75, 99999)] = true from rfl)
            refine fz_max kX11_saidOf rfl rfl fz_sMx fz_iMm fz_cMx (by decide) (Nat.le_of_ble_eq_true rfl) ?_
            refine fz_istore (ls' := [(5, fz_i (max x2 y27)), (6, fz_i x1), (0, fz_r 53), (1, fz_i pe), (2, fz_i mk), (3, fz_i t), (4, fz_i hr)]) kX11_saidOf rfl (by decide) rfl ?_
            refine fz_iincN (ls' := [(6, fz_i (x1 + 1)), (5, fz_i (max x2 y27)), (0, fz_r 53), (1, fz_i pe), (2, fz_i mk), (3, fz_i t), (4, fz_i hr)]) kX11_saidOf rfl (by decide) rfl (by omega) rfl ?_
            refine fz_goto (tgt := 6) kX11_saidOf rfl (by decide) ?_
            exact ih9 (x1 + 1) (max x2 y27) H19 hI23 hf28 hXw25 (by omega) (by omega) (by omega)
  exact lp8 _ 0 0 h hI hf hXw (by omega) (by omega) (Nat.lt_succ_self _)

abbrev qX11_said (h : fz_H) (pm th : Int) : fz_H → Option fz_V → Prop := fun h' r0 => fz_Iv h' ∧ fz_fr [(74, 99999), (75, 99999), (86, 99999), (87, 99999), (88, 99999)] h h' ∧ fz_Xw h' ∧ ∃ r : Int, r0 = some (fz_i r) ∧ ((-2147483648) ≤ r ∧ r ≤ 2147483647)
set_option maxHeartbeats 1000000 in
set_option maxRecDepth 100000 in
theorem sX11_said (h : fz_H) (hI : fz_Iv h) (pm th : Int) (hXw : fz_Xw h) : fz_R 4 mX11_said 0 [(0, fz_r 53), (1, fz_i pm), (2, fz_i th)] [] h (qX11_said h pm th) := by
  refine fz_knowl (fun hk => ?_)
  have hr_pm : -2147483648 ≤ pm ∧ pm < 2147483648 := hk _ (List.Mem.tail _ (List.Mem.head _))
  have hr_th : -2147483648 ≤ th ∧ th < 2147483648 := hk _ (List.Mem.tail _ (List.Mem.tail _ (List.Mem.head _)))
  clear hk
  have hf : fz_fr [(74, 99999), (75, 99999), (86, 99999), (87, 99999), (88, 99999)] h h := fz_fr_rf
  refine fz_iload_n kX11_said rfl rfl ?_
  refine fz_callS (d' := 2) (M' := mX11_isMarked) (As := [fz_i pm]) (st := []) kX11_said rfl rfl vX11_isMarked rfl rfl (Nat.le_of_ble_eq_true rfl) (Nat.le_of_ble_eq_true rfl) (by decide) (sX11_isMarked h hI pm ) (fun H1 r2 q3 o4 => ?_)
  obtain ⟨e5, y6, rfl, p7⟩ := q3
  subst H1
  clear o4
  rcases p7 with ⟨rfl, c8⟩ | ⟨rfl, c8⟩
  · refine fz_if_eq (tgt := 15) kX11_said rfl (by decide) (fun c9 => ?_) (fun c9 => ?_)
    · exfalso; omega
    · refine fz_aload_n kX11_said rfl rfl ?_
      refine fz_iload_n kX11_said rfl rfl ?_
      have b10 : 0 ≤ h 53 0 ∧ h 53 0 ≤ 8 := hI.1 53 _
      refine fz_callV (d' := 2) (M' := mX11_isWhen) (As := [fz_i th]) (st := []) kX11_said rfl rfl vX11_isWhen rfl rfl rfl rfl (Nat.le_of_ble_eq_true rfl) (Nat.le_of_ble_eq_true rfl) (by decide) (sX11_isWhen h hI th ) (fun H11 r12 q13 o14 => ?_)
      obtain ⟨e15, y16, rfl, p17⟩ := q13
      subst H11
      clear o14
      rcases p17 with ⟨rfl, c18⟩ | ⟨rfl, c18⟩
      · refine fz_if_ne (tgt := 17) kX11_said rfl (by decide) (fun c19 => ?_) (fun c19 => ?_)
        · refine fz_aload_n kX11_said rfl rfl ?_
          refine fz_callV (d' := 3) (M' := mX11_allHear) (As := []) (st := []) kX11_said rfl rfl vX11_allHear rfl rfl rfl rfl (Nat.le_of_ble_eq_true rfl) (Nat.le_of_ble_eq_true rfl) (by decide) (sX11_allHear h hI  ) (fun H20 r21 q22 o23 => ?_)
          obtain ⟨hI24, hf25, rfl⟩ := q22
          clear o23
          have hf26 := fz_fr_tr hf hf25 (show fz_su [(86, 99999), (87, 99999), (88, 99999)] [(74, 99999), (75, 99999), (86, 99999), (87, 99999), (88, 99999)] = true from rfl)
          have hXw27 : fz_Xw H20 := fz_Xw_eq (hf25 53 19 rfl) (funext fun s => hf25 66 s rfl) (funext fun s => hf25 67 s rfl) (funext fun s => hf25 68 s rfl) (funext fun s => hf25 69 s rfl) hXw
          refine fz_aload_n kX11_said rfl rfl ?_
          refine fz_iload_n kX11_said rfl rfl ?_
          refine fz_bipush ⟨by decide, by decide⟩ kX11_said rfl ?_
          refine fz_idivN kX11_said rfl (by omega) (by omega) (by omega) ?_
          refine fz_iload_n kX11_said rfl rfl ?_
          refine fz_bipush ⟨by decide, by decide⟩ kX11_said rfl ?_
          refine fz_iremN kX11_said rfl (by omega) (by omega) (by omega) ?_
          refine fz_iload_n kX11_said rfl rfl ?_
          refine fz_sipush ⟨by decide, by decide⟩ kX11_said rfl ?_
          refine fz_idivN kX11_said rfl (by omega) (by omega) (by omega) ?_
          refine fz_iload_n kX11_said rfl rfl ?_
          refine fz_sipush ⟨by decide, by decide⟩ kX11_said rfl ?_
          refine fz_iremN kX11_said rfl (by omega) (by omega) (by omega) ?_
          refine fz_callV (d' := 3) (M' := mX11_saidOf) (As := [fz_i (pm / 10), fz_i (pm % 10), fz_i (th / 1000), fz_i (th % 1000)]) (st := []) kX11_said rfl rfl vX11_saidOf rfl rfl rfl rfl (Nat.le_of_ble_eq_true rfl) (Nat.le_of_ble_eq_true rfl) (by decide) (sX11_saidOf H20 hI24 (pm / 10) (pm % 10) (th / 1000) (th % 1000) hXw27 (by omega)) (fun H28 r29 q30 o31 => ?_)
          obtain ⟨hI32, hf33, hXw34, y36, rfl, f35⟩ := q30
          clear o31
          have hf37 := fz_fr_tr hf26 hf33 (show fz_su [(74, 99999), (75, 99999)] [(74, 99999), (75, 99999), (86, 99999), (87, 99999), (88, 99999)] = true from rfl)
          exact fz_iret kX11_said rfl rfl (fun _ => ⟨hI32, hf37, hXw34, _, rfl, (by omega)⟩)
        · exfalso; omega
      · refine fz_if_ne (tgt := 17) kX11_said rfl (by decide) (fun c38 => ?_) (fun c38 => ?_)
        · exfalso; omega
        · refine fz_iconst ⟨by decide, by decide⟩ kX11_said rfl ?_
          exact fz_iret kX11_said rfl rfl (fun _ => ⟨hI, hf, hXw, _, rfl, (by omega)⟩)
  · refine fz_if_eq (tgt := 15) kX11_said rfl (by decide) (fun c39 => ?_) (fun c39 => ?_)
    · refine fz_iconst ⟨by decide, by decide⟩ kX11_said rfl ?_
      exact fz_iret kX11_said rfl rfl (fun _ => ⟨hI, hf, hXw, _, rfl, (by omega)⟩)
    · exfalso; omega

abbrev qX11_receivedIn (h : fz_H) (pe t hr : Int) : fz_H → Option fz_V → Prop := fun h' r0 => fz_Iv h' ∧ fz_fr [(74, 99999), (75, 99999)] h h' ∧ fz_Xw h' ∧ ∃ r : Int, r0 = some (fz_i r) ∧ ((-2147483648) ≤ r ∧ r ≤ 2147483647)
set_option maxHeartbeats 1000000 in
set_option maxRecDepth 100000 in
theorem sX11_receivedIn (h : fz_H) (hI : fz_Iv h) (pe t hr : Int) (hXw : fz_Xw h) (hp0 : 0 ≤ t ∧ t ≤ 7) : fz_R 4 mX11_receivedIn 0 [(0, fz_r 53), (1, fz_i pe), (2, fz_i t), (3, fz_i hr)] [] h (qX11_receivedIn h pe t hr) := by
  refine fz_knowl (fun hk => ?_)
  have hr_pe : -2147483648 ≤ pe ∧ pe < 2147483648 := hk _ (List.Mem.tail _ (List.Mem.head _))
  have hr_t : -2147483648 ≤ t ∧ t < 2147483648 := hk _ (List.Mem.tail _ (List.Mem.tail _ (List.Mem.head _)))
  have hr_hr : -2147483648 ≤ hr ∧ hr < 2147483648 := hk _ (List.Mem.tail _ (List.Mem.tail _ (List.Mem.tail _ (List.Mem.head _))))
  clear hk
  have hf : fz_fr [(74, 99999), (75, 99999)] h h := fz_fr_rf
  refine fz_iconst ⟨by decide, by decide⟩ kX11_receivedIn rfl ?_
  refine fz_istore (ls' := [(4, fz_i 0), (0, fz_r 53), (1, fz_i pe), (2, fz_i t), (3, fz_i hr)]) kX11_receivedIn rfl (by decide) rfl ?_
  refine fz_iconst ⟨by decide, by decide⟩ kX11_receivedIn rfl ?_
  refine fz_istore (ls' := [(5, fz_i 0), (4, fz_i 0), (0, fz_r 53), (1, fz_i pe), (2, fz_i t), (3, fz_i hr)]) kX11_receivedIn rfl (by decide) rfl ?_
  have lp8 : ∀ (n7 : Nat) (x1 : Int) (x2 : Int) (H4 : fz_H), fz_Iv H4 → fz_fr [(74, 99999), (75, 99999)] h H4 → fz_Xw H4 → (0 ≤ x1 ∧ x1 ≤ 2147483647) → ((-2147483648) ≤ x2 ∧ x2 ≤ 2147483647) → (5 - x1).toNat < n7 → fz_R 4 mX11_receivedIn 6 [(5, fz_i x1), (4, fz_i x2), (0, fz_r 53), (1, fz_i pe), (2, fz_i t), (3, fz_i hr)] [] H4 (qX11_receivedIn h pe t hr) := by
    intro n7
    induction n7 with
    | zero => intro x1 x2 H4 hI5 hf6 hXw3 hv11 hv12 hm10; exact absurd hm10 (by omega)
    | succ n7 ih9 =>
      intro x1 x2 H4 hI5 hf6 hXw3 hv11 hv12 hm10
      refine fz_iload kX11_receivedIn rfl rfl ?_
      refine fz_iconst ⟨by decide, by decide⟩ kX11_receivedIn rfl ?_
      refine fz_icmp_ge (tgt := 40) kX11_receivedIn rfl (by decide) (fun c13 => ?_) (fun c13 => ?_)
      · refine fz_iload kX11_receivedIn rfl rfl ?_
        exact fz_iret kX11_receivedIn rfl rfl (fun _ => ⟨hI5, hf6, hXw3, _, rfl, (by omega)⟩)
      · refine fz_iload kX11_receivedIn rfl rfl ?_
        refine fz_aload_n kX11_receivedIn rfl rfl ?_
        refine fz_iload_n kX11_receivedIn rfl rfl ?_
        refine fz_iload kX11_receivedIn rfl rfl ?_
        refine fz_iload_n kX11_receivedIn rfl rfl ?_
        refine fz_iload_n kX11_receivedIn rfl rfl ?_
        refine fz_callV (d' := 3) (M' := mX11_saidOf) (As := [fz_i pe, fz_i x1, fz_i t, fz_i hr]) (st := [fz_i x2]) kX11_receivedIn rfl rfl vX11_saidOf rfl rfl rfl rfl (Nat.le_of_ble_eq_true rfl) (Nat.le_of_ble_eq_true rfl) (by decide) (sX11_saidOf H4 hI5 pe x1 t hr hXw3 (by omega)) (fun H14 r15 q16 o17 => ?_)
        obtain ⟨hI18, hf19, hXw20, y22, rfl, f21⟩ := q16
        clear o17
        have hf23 := fz_fr_tr hf6 hf19 (show fz_su [(74, 99999), (75, 99999)] [(74, 99999), (75, 99999)] = true from rfl)
        refine fz_aload_n kX11_receivedIn rfl rfl ?_
        refine fz_getR (t := 59) kX11_receivedIn rfl rfl ?_
        refine fz_iload kX11_receivedIn rfl rfl ?_
        refine fz_ialdV (n := 5) (v := h 59 (x1.toNat)) kX11_receivedIn rfl rfl (by omega) (by omega) (hf23 59 _ rfl) ?_
        have b24 : (-9) ≤ h 59 (x1.toNat) ∧ h 59 (x1.toNat) ≤ 9 := hI.1 59 _
        refine fz_imul kX11_receivedIn rfl ?_
        refine fz_nmw (fun z25 e26 => ?_)
        refine fz_iadd kX11_receivedIn rfl ?_
        refine fz_nmw (fun z27 e28 => ?_)
        refine fz_istore (ls' := [(4, fz_i z27), (5, fz_i x1), (0, fz_r 53), (1, fz_i pe), (2, fz_i t), (3, fz_i hr)]) kX11_receivedIn rfl (by decide) rfl ?_
        refine fz_iincN (ls' := [(5, fz_i (x1 + 1)), (4, fz_i z27), (0, fz_r 53), (1, fz_i pe), (2, fz_i t), (3, fz_i hr)]) kX11_receivedIn rfl (by decide) rfl (by omega) rfl ?_
        refine fz_goto (tgt := 6) kX11_receivedIn rfl (by decide) ?_
        exact ih9 (x1 + 1) z27 H14 hI18 hf23 hXw20 (by omega) (by omega) (by omega)
  exact lp8 _ 0 0 h hI hf hXw (by omega) (by omega) (Nat.lt_succ_self _)

abbrev qX11_isArrested (h : fz_H) (pe t hr : Int) : fz_H → Option fz_V → Prop := fun h' r0 => fz_Iv h' ∧ fz_fr [(74, 99999), (75, 99999)] h h' ∧ fz_Xw h' ∧ ∃ r : Int, r0 = some (fz_i r) ∧ (r = 0 ∨ r = 1)
set_option maxHeartbeats 1000000 in
set_option maxRecDepth 100000 in
theorem sX11_isArrested (h : fz_H) (hI : fz_Iv h) (pe t hr : Int) (hXw : fz_Xw h) (hp0 : 0 ≤ t ∧ t ≤ 7) : fz_R 4 mX11_isArrested 0 [(0, fz_r 53), (1, fz_i pe), (2, fz_i t), (3, fz_i hr)] [] h (qX11_isArrested h pe t hr) := by
  refine fz_knowl (fun hk => ?_)
  have hr_pe : -2147483648 ≤ pe ∧ pe < 2147483648 := hk _ (List.Mem.tail _ (List.Mem.head _))
  have hr_t : -2147483648 ≤ t ∧ t < 2147483648 := hk _ (List.Mem.tail _ (List.Mem.tail _ (List.Mem.head _)))
  have hr_hr : -2147483648 ≤ hr ∧ hr < 2147483648 := hk _ (List.Mem.tail _ (List.Mem.tail _ (List.Mem.tail _ (List.Mem.head _))))
  clear hk
  have hf : fz_fr [(74, 99999), (75, 99999)] h h := fz_fr_rf
  refine fz_aload_n kX11_isArrested rfl rfl ?_
  refine fz_iload_n kX11_isArrested rfl rfl ?_
  refine fz_iconst ⟨by decide, by decide⟩ kX11_isArrested rfl ?_
  refine fz_iload_n kX11_isArrested rfl rfl ?_
  refine fz_iload_n kX11_isArrested rfl rfl ?_
  refine fz_callV (d' := 3) (M' := mX11_saidOf) (As := [fz_i pe, fz_i 1, fz_i t, fz_i hr]) (st := []) kX11_isArrested rfl rfl vX11_saidOf rfl rfl rfl rfl (Nat.le_of_ble_eq_true rfl) (Nat.le_of_ble_eq_true rfl) (by decide) (sX11_saidOf h hI pe 1 t hr hXw (by omega)) (fun H1 r2 q3 o4 => ?_)
  obtain ⟨hI5, hf6, hXw7, y9, rfl, f8⟩ := q3
  clear o4
  have hf10 := fz_fr_tr hf hf6 (show fz_su [(74, 99999), (75, 99999)] [(74, 99999), (75, 99999)] = true from rfl)
  refine fz_istore (ls' := [(4, fz_i y9), (0, fz_r 53), (1, fz_i pe), (2, fz_i t), (3, fz_i hr)]) kX11_isArrested rfl (by decide) rfl ?_
  refine fz_iload kX11_isArrested rfl rfl ?_
  refine fz_if_le (tgt := 28) kX11_isArrested rfl (by decide) (fun c11 => ?_) (fun c11 => ?_)
  · refine fz_iconst ⟨by decide, by decide⟩ kX11_isArrested rfl ?_
    exact fz_zret kX11_isArrested rfl rfl (by omega) ⟨hI5, hf10, hXw7, _, rfl, (by omega)⟩
  · refine fz_iload kX11_isArrested rfl rfl ?_
    refine fz_aload_n kX11_isArrested rfl rfl ?_
    refine fz_getV (v := h 53 8) kX11_isArrested rfl rfl (hf10 53 8 rfl) ?_
    have b12 : 0 ≤ h 53 8 ∧ h 53 8 ≤ 99 := hI.1 53 _
    refine fz_icmp_lt (tgt := 28) kX11_isArrested rfl (by decide) (fun c13 => ?_) (fun c13 => ?_)
    · refine fz_iconst ⟨by decide, by decide⟩ kX11_isArrested rfl ?_
      exact fz_zret kX11_isArrested rfl rfl (by omega) ⟨hI5, hf10, hXw7, _, rfl, (by omega)⟩
    · refine fz_iconst ⟨by decide, by decide⟩ kX11_isArrested rfl ?_
      refine fz_goto (tgt := 29) kX11_isArrested rfl (by decide) ?_
      exact fz_zret kX11_isArrested rfl rfl (by omega) ⟨hI5, hf10, hXw7, _, rfl, (by omega)⟩

abbrev qX11_marksIn (h : fz_H) (pe t hr : Int) : fz_H → Option fz_V → Prop := fun h' r0 => fz_Iv h' ∧ fz_fr [(74, 99999), (75, 99999)] h h' ∧ fz_Xw h' ∧ ∃ r : Int, r0 = some (fz_i r) ∧ (0 ≤ r ∧ r ≤ 5)
set_option maxHeartbeats 1000000 in
set_option maxRecDepth 100000 in
theorem sX11_marksIn (h : fz_H) (hI : fz_Iv h) (pe t hr : Int) (hXw : fz_Xw h) (hp0 : 0 ≤ t ∧ t ≤ 7) : fz_R 4 mX11_marksIn 0 [(0, fz_r 53), (1, fz_i pe), (2, fz_i t), (3, fz_i hr)] [] h (qX11_marksIn h pe t hr) := by
  refine fz_knowl (fun hk => ?_)
  have hr_pe : -2147483648 ≤ pe ∧ pe < 2147483648 := hk _ (List.Mem.tail _ (List.Mem.head _))
  have hr_t : -2147483648 ≤ t ∧ t < 2147483648 := hk _ (List.Mem.tail _ (List.Mem.tail _ (List.Mem.head _)))
  have hr_hr : -2147483648 ≤ hr ∧ hr < 2147483648 := hk _ (List.Mem.tail _ (List.Mem.tail _ (List.Mem.tail _ (List.Mem.head _))))
  clear hk
  have hf : fz_fr [(74, 99999), (75, 99999)] h h := fz_fr_rf
  refine fz_iconst ⟨by decide, by decide⟩ kX11_marksIn rfl ?_
  refine fz_istore (ls' := [(4, fz_i 0), (0, fz_r 53), (1, fz_i pe), (2, fz_i t), (3, fz_i hr)]) kX11_marksIn rfl (by decide) rfl ?_
  refine fz_iconst ⟨by decide, by decide⟩ kX11_marksIn rfl ?_
  refine fz_istore (ls' := [(5, fz_i 0), (4, fz_i 0), (0, fz_r 53), (1, fz_i pe), (2, fz_i t), (3, fz_i hr)]) kX11_marksIn rfl (by decide) rfl ?_
  have lp8 : ∀ (n7 : Nat) (x1 : Int) (x2 : Int) (H4 : fz_H), fz_Iv H4 → fz_fr [(74, 99999), (75, 99999)] h H4 → fz_Xw H4 → (0 ≤ x1 ∧ x1 ≤ 2147483647) → (0 ≤ x2 ∧ x2 ≤ 5) → (x2 ≤ x1) → (5 - x1).toNat < n7 → fz_R 4 mX11_marksIn 6 [(5, fz_i x1), (4, fz_i x2), (0, fz_r 53), (1, fz_i pe), (2, fz_i t), (3, fz_i hr)] [] H4 (qX11_marksIn h pe t hr) := by
    intro n7
    induction n7 with
    | zero => intro x1 x2 H4 hI5 hf6 hXw3 hv11 hv12 hv13 hm10; exact absurd hm10 (by omega)
    | succ n7 ih9 =>
      intro x1 x2 H4 hI5 hf6 hXw3 hv11 hv12 hv13 hm10
      refine fz_iload kX11_marksIn rfl rfl ?_
      refine fz_iconst ⟨by decide, by decide⟩ kX11_marksIn rfl ?_
      refine fz_icmp_ge (tgt := 33) kX11_marksIn rfl (by decide) (fun c14 => ?_) (fun c14 => ?_)
      · refine fz_iload kX11_marksIn rfl rfl ?_
        exact fz_iret kX11_marksIn rfl rfl (fun _ => ⟨hI5, hf6, hXw3, _, rfl, (by omega)⟩)
      · refine fz_aload_n kX11_marksIn rfl rfl ?_
        refine fz_iload_n kX11_marksIn rfl rfl ?_
        refine fz_iload kX11_marksIn rfl rfl ?_
        refine fz_iload_n kX11_marksIn rfl rfl ?_
        refine fz_iload_n kX11_marksIn rfl rfl ?_
        refine fz_callV (d' := 3) (M' := mX11_saidOf) (As := [fz_i pe, fz_i x1, fz_i t, fz_i hr]) (st := []) kX11_marksIn rfl rfl vX11_saidOf rfl rfl rfl rfl (Nat.le_of_ble_eq_true rfl) (Nat.le_of_ble_eq_true rfl) (by decide) (sX11_saidOf H4 hI5 pe x1 t hr hXw3 (by omega)) (fun H15 r16 q17 o18 => ?_)
        obtain ⟨hI19, hf20, hXw21, y23, rfl, f22⟩ := q17
        clear o18
        have hf24 := fz_fr_tr hf6 hf20 (show fz_su [(74, 99999), (75, 99999)] [(74, 99999), (75, 99999)] = true from rfl)
        refine fz_if_le (tgt := 27) kX11_marksIn rfl (by decide) (fun c25 => ?_) (fun c25 => ?_)
        · refine fz_iincN (ls' := [(5, fz_i (x1 + 1)), (4, fz_i x2), (0, fz_r 53), (1, fz_i pe), (2, fz_i t), (3, fz_i hr)]) kX11_marksIn rfl (by decide) rfl (by omega) rfl ?_
          refine fz_goto (tgt := 6) kX11_marksIn rfl (by decide) ?_
          exact ih9 (x1 + 1) x2 H15 hI19 hf24 hXw21 (by omega) (by omega) (by omega) (by omega)
        · refine fz_iincN (ls' := [(4, fz_i (x2 + 1)), (5, fz_i x1), (0, fz_r 53), (1, fz_i pe), (2, fz_i t), (3, fz_i hr)]) kX11_marksIn rfl (by decide) rfl (by omega) rfl ?_
          refine fz_iincN (ls' := [(5, fz_i (x1 + 1)), (4, fz_i (x2 + 1)), (0, fz_r 53), (1, fz_i pe), (2, fz_i t), (3, fz_i hr)]) kX11_marksIn rfl (by decide) rfl (by omega) rfl ?_
          refine fz_goto (tgt := 6) kX11_marksIn rfl (by decide) ?_
          exact ih9 (x1 + 1) (x2 + 1) H15 hI19 hf24 hXw21 (by omega) (by omega) (by omega) (by omega)
  exact lp8 _ 0 0 h hI hf hXw (by omega) (by omega) (by omega) (Nat.lt_succ_self _)

abbrev qX11_loudestIn (h : fz_H) (pe t hr : Int) : fz_H → Option fz_V → Prop := fun h' r0 => fz_Iv h' ∧ fz_fr [(74, 99999), (75, 99999)] h h' ∧ fz_Xw h' ∧ ∃ r : Int, r0 = some (fz_i r) ∧ ((-2147483648) ≤ r ∧ r ≤ 2147483647)
set_option maxHeartbeats 1000000 in
set_option maxRecDepth 100000 in
theorem sX11_loudestIn (h : fz_H) (hI : fz_Iv h) (pe t hr : Int) (hXw : fz_Xw h) (hp0 : 0 ≤ t ∧ t ≤ 7) : fz_R 4 mX11_loudestIn 0 [(0, fz_r 53), (1, fz_i pe), (2, fz_i t), (3, fz_i hr)] [] h (qX11_loudestIn h pe t hr) := by
  refine fz_knowl (fun hk => ?_)
  have hr_pe : -2147483648 ≤ pe ∧ pe < 2147483648 := hk _ (List.Mem.tail _ (List.Mem.head _))
  have hr_t : -2147483648 ≤ t ∧ t < 2147483648 := hk _ (List.Mem.tail _ (List.Mem.tail _ (List.Mem.head _)))
  have hr_hr : -2147483648 ≤ hr ∧ hr < 2147483648 := hk _ (List.Mem.tail _ (List.Mem.tail _ (List.Mem.tail _ (List.Mem.head _))))
  clear hk
  have hf : fz_fr [(74, 99999), (75, 99999)] h h := fz_fr_rf
  refine fz_bipush ⟨by decide, by decide⟩ kX11_loudestIn rfl ?_
  refine fz_istore (ls' := [(4, fz_i (-2)), (0, fz_r 53), (1, fz_i pe), (2, fz_i t), (3, fz_i hr)]) kX11_loudestIn rfl (by decide) rfl ?_
  refine fz_iconst ⟨by decide, by decide⟩ kX11_loudestIn rfl ?_
  refine fz_istore (ls' := [(5, fz_i 0), (4, fz_i (-2)), (0, fz_r 53), (1, fz_i pe), (2, fz_i t), (3, fz_i hr)]) kX11_loudestIn rfl (by decide) rfl ?_
  refine fz_iconst ⟨by decide, by decide⟩ kX11_loudestIn rfl ?_
  refine fz_istore (ls' := [(6, fz_i 0), (5, fz_i 0), (4, fz_i (-2)), (0, fz_r 53), (1, fz_i pe), (2, fz_i t), (3, fz_i hr)]) kX11_loudestIn rfl (by decide) rfl ?_
  have lp9 : ∀ (n8 : Nat) (x1 : Int) (x2 : Int) (x3 : Int) (H5 : fz_H), fz_Iv H5 → fz_fr [(74, 99999), (75, 99999)] h H5 → fz_Xw H5 → (0 ≤ x1 ∧ x1 ≤ 2147483647) → ((-2147483648) ≤ x2 ∧ x2 ≤ 2147483647) → ((-2147483648) ≤ x3 ∧ x3 ≤ 2147483647) → (5 - x1).toNat < n8 → fz_R 4 mX11_loudestIn 10 [(6, fz_i x1), (5, fz_i x2), (4, fz_i x3), (0, fz_r 53), (1, fz_i pe), (2, fz_i t), (3, fz_i hr)] [] H5 (qX11_loudestIn h pe t hr) := by
    intro n8
    induction n8 with
    | zero => intro x1 x2 x3 H5 hI6 hf7 hXw4 hv12 hv13 hv14 hm11; exact absurd hm11 (by omega)
    | succ n8 ih10 =>
      intro x1 x2 x3 H5 hI6 hf7 hXw4 hv12 hv13 hv14 hm11
      refine fz_iload kX11_loudestIn rfl rfl ?_
      refine fz_iconst ⟨by decide, by decide⟩ kX11_loudestIn rfl ?_
      refine fz_icmp_ge (tgt := 51) kX11_loudestIn rfl (by decide) (fun c15 => ?_) (fun c15 => ?_)
      · refine fz_iload kX11_loudestIn rfl rfl ?_
        exact fz_iret kX11_loudestIn rfl rfl (fun _ => ⟨hI6, hf7, hXw4, _, rfl, (by omega)⟩)
      · refine fz_aload_n kX11_loudestIn rfl rfl ?_
        refine fz_iload_n kX11_loudestIn rfl rfl ?_
        refine fz_iload kX11_loudestIn rfl rfl ?_
        refine fz_iload_n kX11_loudestIn rfl rfl ?_
        refine fz_iload_n kX11_loudestIn rfl rfl ?_
        refine fz_callV (d' := 3) (M' := mX11_saidOf) (As := [fz_i pe, fz_i x1, fz_i t, fz_i hr]) (st := []) kX11_loudestIn rfl rfl vX11_saidOf rfl rfl rfl rfl (Nat.le_of_ble_eq_true rfl) (Nat.le_of_ble_eq_true rfl) (by decide) (sX11_saidOf H5 hI6 pe x1 t hr hXw4 (by omega)) (fun H16 r17 q18 o19 => ?_)
        obtain ⟨hI20, hf21, hXw22, y24, rfl, f23⟩ := q18
        clear o19
        have hf25 := fz_fr_tr hf7 hf21 (show fz_su [(74, 99999), (75, 99999)] [(74, 99999), (75, 99999)] = true from rfl)
        refine fz_istore (ls' := [(7, fz_i y24), (6, fz_i x1), (5, fz_i x2), (4, fz_i x3), (0, fz_r 53), (1, fz_i pe), (2, fz_i t), (3, fz_i hr)]) kX11_loudestIn rfl (by decide) rfl ?_
        refine fz_iload kX11_loudestIn rfl rfl ?_
        refine fz_iload kX11_loudestIn rfl rfl ?_
        refine fz_icmp_gt (tgt := 37) kX11_loudestIn rfl (by decide) (fun c26 => ?_) (fun c26 => ?_)
        · refine fz_iload kX11_loudestIn rfl rfl ?_
          refine fz_istore (ls' := [(5, fz_i y24), (7, fz_i y24), (6, fz_i x1), (4, fz_i x3), (0, fz_r 53), (1, fz_i pe), (2, fz_i t), (3, fz_i hr)]) kX11_loudestIn rfl (by decide) rfl ?_
          refine fz_iload kX11_loudestIn rfl rfl ?_
          refine fz_istore (ls' := [(4, fz_i x1), (5, fz_i y24), (7, fz_i y24), (6, fz_i x1), (0, fz_r 53), (1, fz_i pe), (2, fz_i t), (3, fz_i hr)]) kX11_loudestIn rfl (by decide) rfl ?_
          refine fz_iincN (ls' := [(6, fz_i (x1 + 1)), (4, fz_i x1), (5, fz_i y24), (7, fz_i y24), (0, fz_r 53), (1, fz_i pe), (2, fz_i t), (3, fz_i hr)]) kX11_loudestIn rfl (by decide) rfl (by omega) rfl ?_
          refine fz_goto (tgt := 10) kX11_loudestIn rfl (by decide) ?_
          refine fz_sub (fz_pk_sub (ls' := [(6, fz_i (x1 + 1)), (5, fz_i y24), (4, fz_i x1), (0, fz_r 53), (1, fz_i pe), (2, fz_i t), (3, fz_i hr)]) [0, 2, 1, 4, 5, 6, 7] rfl) ?_
          exact ih10 (x1 + 1) y24 x1 H16 hI20 hf25 hXw22 (by omega) (by omega) (by omega) (by omega)
        · refine fz_goto (tgt := 45) kX11_loudestIn rfl (by decide) ?_
          refine fz_iincN (ls' := [(6, fz_i (x1 + 1)), (7, fz_i y24), (5, fz_i x2), (4, fz_i x3), (0, fz_r 53), (1, fz_i pe), (2, fz_i t), (3, fz_i hr)]) kX11_loudestIn rfl (by decide) rfl (by omega) rfl ?_
          refine fz_goto (tgt := 10) kX11_loudestIn rfl (by decide) ?_
          refine fz_sub (fz_pk_sub (ls' := [(6, fz_i (x1 + 1)), (5, fz_i x2), (4, fz_i x3), (0, fz_r 53), (1, fz_i pe), (2, fz_i t), (3, fz_i hr)]) [0, 2, 3, 4, 5, 6, 7] rfl) ?_
          exact ih10 (x1 + 1) x2 x3 H16 hI20 hf25 hXw22 (by omega) (by omega) (by omega) (by omega)
  exact lp9 _ 0 0 (-2) h hI hf hXw (by omega) (by omega) (by omega) (Nat.lt_succ_self _)

abbrev qX11_received (h : fz_H) (on th wh : Int) : fz_H → Option fz_V → Prop := fun h' r0 => fz_Iv h' ∧ fz_fr [(74, 99999), (75, 99999), (86, 99999), (87, 99999), (88, 99999)] h h' ∧ fz_Xw h' ∧ ∃ r : Int, r0 = some (fz_i r) ∧ ((-2147483648) ≤ r ∧ r ≤ 2147483647)
set_option maxHeartbeats 1000000 in
set_option maxRecDepth 100000 in
theorem sX11_received (h : fz_H) (hI : fz_Iv h) (on th wh : Int) (hXw : fz_Xw h) : fz_R 5 mX11_received 0 [(0, fz_r 53), (1, fz_i on), (2, fz_i th), (3, fz_i wh)] [] h (qX11_received h on th wh) := by
  refine fz_knowl (fun hk => ?_)
  have hr_on : -2147483648 ≤ on ∧ on < 2147483648 := hk _ (List.Mem.tail _ (List.Mem.head _))
  have hr_th : -2147483648 ≤ th ∧ th < 2147483648 := hk _ (List.Mem.tail _ (List.Mem.tail _ (List.Mem.head _)))
  have hr_wh : -2147483648 ≤ wh ∧ wh < 2147483648 := hk _ (List.Mem.tail _ (List.Mem.tail _ (List.Mem.tail _ (List.Mem.head _))))
  clear hk
  have hf : fz_fr [(74, 99999), (75, 99999), (86, 99999), (87, 99999), (88, 99999)] h h := fz_fr_rf
  refine fz_iload_n kX11_received rfl rfl ?_
  refine fz_callS (d' := 1) (M' := mX11_isPerson) (As := [fz_i on]) (st := []) kX11_received rfl rfl vX11_isPerson rfl rfl (Nat.le_of_ble_eq_true rfl) (Nat.le_of_ble_eq_true rfl) (by decide) (sX11_isPerson h hI on ) (fun H1 r2 q3 o4 => ?_)
  obtain ⟨e5, y6, rfl, p7⟩ := q3
  subst H1
  clear o4
  rcases p7 with ⟨rfl, c8⟩ | ⟨rfl, c8⟩
  · refine fz_if_eq (tgt := 15) kX11_received rfl (by decide) (fun c9 => ?_) (fun c9 => ?_)
    · exfalso; omega
    · refine fz_aload_n kX11_received rfl rfl ?_
      refine fz_iload_n kX11_received rfl rfl ?_
      have b10 : 0 ≤ h 53 0 ∧ h 53 0 ≤ 8 := hI.1 53 _
      refine fz_callV (d' := 2) (M' := mX11_isWhen) (As := [fz_i th]) (st := []) kX11_received rfl rfl vX11_isWhen rfl rfl rfl rfl (Nat.le_of_ble_eq_true rfl) (Nat.le_of_ble_eq_true rfl) (by decide) (sX11_isWhen h hI th ) (fun H11 r12 q13 o14 => ?_)
      obtain ⟨e15, y16, rfl, p17⟩ := q13
      subst H11
      clear o14
      rcases p17 with ⟨rfl, c18⟩ | ⟨rfl, c18⟩
      · refine fz_if_ne (tgt := 18) kX11_received rfl (by decide) (fun c19 => ?_) (fun c19 => ?_)
        · refine fz_aload_n kX11_received rfl rfl ?_
          refine fz_callV (d' := 3) (M' := mX11_allHear) (As := []) (st := []) kX11_received rfl rfl vX11_allHear rfl rfl rfl rfl (Nat.le_of_ble_eq_true rfl) (Nat.le_of_ble_eq_true rfl) (by decide) (sX11_allHear h hI  ) (fun H20 r21 q22 o23 => ?_)
          obtain ⟨hI24, hf25, rfl⟩ := q22
          clear o23
          have hf26 := fz_fr_tr hf hf25 (show fz_su [(86, 99999), (87, 99999), (88, 99999)] [(74, 99999), (75, 99999), (86, 99999), (87, 99999), (88, 99999)] = true from rfl)
          have hXw27 : fz_Xw H20 := fz_Xw_eq (hf25 53 19 rfl) (funext fun s => hf25 66 s rfl) (funext fun s => hf25 67 s rfl) (funext fun s => hf25 68 s rfl) (funext fun s => hf25 69 s rfl) hXw
          refine fz_iload_n kX11_received rfl rfl ?_
          rcases (show wh = 0 ∨ wh = 1 ∨ wh = 2 ∨ wh = 3 ∨ (wh < 0 ∨ 3 < wh) by omega) with c28 | c28 | c28 | c28 | c28
          · refine fz_tswC (j := 0) (tgt := 52) kX11_received rfl c28 (by decide) (by decide) rfl (by decide) ?_
            refine fz_aload_n kX11_received rfl rfl ?_
            refine fz_iload_n kX11_received rfl rfl ?_
            refine fz_iload_n kX11_received rfl rfl ?_
            refine fz_sipush ⟨by decide, by decide⟩ kX11_received rfl ?_
            refine fz_idivN kX11_received rfl (by omega) (by omega) (by omega) ?_
            refine fz_iload_n kX11_received rfl rfl ?_
            refine fz_sipush ⟨by decide, by decide⟩ kX11_received rfl ?_
            refine fz_iremN kX11_received rfl (by omega) (by omega) (by omega) ?_
            refine fz_callV (d' := 4) (M' := mX11_receivedIn) (As := [fz_i on, fz_i (th / 1000), fz_i (th % 1000)]) (st := []) kX11_received rfl rfl vX11_receivedIn rfl rfl rfl rfl (Nat.le_of_ble_eq_true rfl) (Nat.le_of_ble_eq_true rfl) (by decide) (sX11_receivedIn H20 hI24 on (th / 1000) (th % 1000) hXw27 (by omega)) (fun H29 r30 q31 o32 => ?_)
            obtain ⟨hI33, hf34, hXw35, y37, rfl, f36⟩ := q31
            clear o32
            have hf38 := fz_fr_tr hf26 hf34 (show fz_su [(74, 99999), (75, 99999)] [(74, 99999), (75, 99999), (86, 99999), (87, 99999), (88, 99999)] = true from rfl)
            exact fz_iret kX11_received rfl rfl (fun _ => ⟨hI33, hf38, hXw35, _, rfl, (by omega)⟩)
          · refine fz_tswC (j := 1) (tgt := 68) kX11_received rfl c28 (by decide) (by decide) rfl (by decide) ?_
            refine fz_aload_n kX11_received rfl rfl ?_
            refine fz_iload_n kX11_received rfl rfl ?_
            refine fz_iload_n kX11_received rfl rfl ?_
            refine fz_sipush ⟨by decide, by decide⟩ kX11_received rfl ?_
            refine fz_idivN kX11_received rfl (by omega) (by omega) (by omega) ?_
            refine fz_iload_n kX11_received rfl rfl ?_
            refine fz_sipush ⟨by decide, by decide⟩ kX11_received rfl ?_
            refine fz_iremN kX11_received rfl (by omega) (by omega) (by omega) ?_
            refine fz_callV (d' := 4) (M' := mX11_isArrested) (As := [fz_i on, fz_i (th / 1000), fz_i (th % 1000)]) (st := []) kX11_received rfl rfl vX11_isArrested rfl rfl rfl rfl (Nat.le_of_ble_eq_true rfl) (Nat.le_of_ble_eq_true rfl) (by decide) (sX11_isArrested H20 hI24 on (th / 1000) (th % 1000) hXw27 (by omega)) (fun H39 r40 q41 o42 => ?_)
            obtain ⟨hI43, hf44, hXw45, y46, rfl, p47⟩ := q41
            clear o42
            have hf48 := fz_fr_tr hf26 hf44 (show fz_su [(74, 99999), (75, 99999)] [(74, 99999), (75, 99999), (86, 99999), (87, 99999), (88, 99999)] = true from rfl)
            refine fz_if_eq (tgt := 90) kX11_received rfl (by decide) (fun c49 => ?_) (fun c49 => ?_)
            · refine fz_iconst ⟨by decide, by decide⟩ kX11_received rfl ?_
              exact fz_iret kX11_received rfl rfl (fun _ => ⟨hI43, hf48, hXw45, _, rfl, (by omega)⟩)
            · refine fz_iconst ⟨by decide, by decide⟩ kX11_received rfl ?_
              refine fz_goto (tgt := 91) kX11_received rfl (by decide) ?_
              exact fz_iret kX11_received rfl rfl (fun _ => ⟨hI43, hf48, hXw45, _, rfl, (by omega)⟩)
          · refine fz_tswC (j := 2) (tgt := 92) kX11_received rfl c28 (by decide) (by decide) rfl (by decide) ?_
            refine fz_aload_n kX11_received rfl rfl ?_
            refine fz_iload_n kX11_received rfl rfl ?_
            refine fz_iload_n kX11_received rfl rfl ?_
            refine fz_sipush ⟨by decide, by decide⟩ kX11_received rfl ?_
            refine fz_idivN kX11_received rfl (by omega) (by omega) (by omega) ?_
            refine fz_iload_n kX11_received rfl rfl ?_
            refine fz_sipush ⟨by decide, by decide⟩ kX11_received rfl ?_
            refine fz_iremN kX11_received rfl (by omega) (by omega) (by omega) ?_
            refine fz_callV (d' := 4) (M' := mX11_marksIn) (As := [fz_i on, fz_i (th / 1000), fz_i (th % 1000)]) (st := []) kX11_received rfl rfl vX11_marksIn rfl rfl rfl rfl (Nat.le_of_ble_eq_true rfl) (Nat.le_of_ble_eq_true rfl) (by decide) (sX11_marksIn H20 hI24 on (th / 1000) (th % 1000) hXw27 (by omega)) (fun H50 r51 q52 o53 => ?_)
            obtain ⟨hI54, hf55, hXw56, y58, rfl, f57⟩ := q52
            clear o53
            have hf59 := fz_fr_tr hf26 hf55 (show fz_su [(74, 99999), (75, 99999)] [(74, 99999), (75, 99999), (86, 99999), (87, 99999), (88, 99999)] = true from rfl)
            exact fz_iret kX11_received rfl rfl (fun _ => ⟨hI54, hf59, hXw56, _, rfl, (by omega)⟩)
          · refine fz_tswC (j := 3) (tgt := 108) kX11_received rfl c28 (by decide) (by decide) rfl (by decide) ?_
            refine fz_aload_n kX11_received rfl rfl ?_
            refine fz_iload_n kX11_received rfl rfl ?_
            refine fz_iload_n kX11_received rfl rfl ?_
            refine fz_sipush ⟨by decide, by decide⟩ kX11_received rfl ?_
            refine fz_idivN kX11_received rfl (by omega) (by omega) (by omega) ?_
            refine fz_iload_n kX11_received rfl rfl ?_
            refine fz_sipush ⟨by decide, by decide⟩ kX11_received rfl ?_
            refine fz_iremN kX11_received rfl (by omega) (by omega) (by omega) ?_
            refine fz_callV (d' := 4) (M' := mX11_loudestIn) (As := [fz_i on, fz_i (th / 1000), fz_i (th % 1000)]) (st := []) kX11_received rfl rfl vX11_loudestIn rfl rfl rfl rfl (Nat.le_of_ble_eq_true rfl) (Nat.le_of_ble_eq_true rfl) (by decide) (sX11_loudestIn H20 hI24 on (th / 1000) (th % 1000) hXw27 (by omega)) (fun H60 r61 q62 o63 => ?_)
            obtain ⟨hI64, hf65, hXw66, y68, rfl, f67⟩ := q62
            clear o63
            have hf69 := fz_fr_tr hf26 hf65 (show fz_su [(74, 99999), (75, 99999)] [(74, 99999), (75, 99999), (86, 99999), (87, 99999), (88, 99999)] = true from rfl)
            exact fz_iret kX11_received rfl rfl (fun _ => ⟨hI64, hf69, hXw66, _, rfl, (by omega)⟩)
          · refine fz_tswO (tgt := 124) kX11_received rfl c28 (by decide) ?_
            refine fz_ldc (x := (-2000000000)) kX11_received rfl rfl rfl ?_
            exact fz_iret kX11_received rfl rfl (fun _ => ⟨hI24, hf26, hXw27, _, rfl, (by omega)⟩)
        · exfalso; omega
      · refine fz_if_ne (tgt := 18) kX11_received rfl (by decide) (fun c70 => ?_) (fun c70 => ?_)
        · exfalso; omega
        · refine fz_ldc (x := (-2000000000)) kX11_received rfl rfl rfl ?_
          exact fz_iret kX11_received rfl rfl (fun _ => ⟨hI, hf, hXw, _, rfl, (by omega)⟩)
  · refine fz_if_eq (tgt := 15) kX11_received rfl (by decide) (fun c71 => ?_) (fun c71 => ?_)
    · refine fz_ldc (x := (-2000000000)) kX11_received rfl rfl rfl ?_
      exact fz_iret kX11_received rfl rfl (fun _ => ⟨hI, hf, hXw, _, rfl, (by omega)⟩)
    · exfalso; omega

abbrev qX11_atHour (h : fz_H) (on hr wh : Int) : fz_H → Option fz_V → Prop := fun h' r0 => fz_Iv h' ∧ fz_fr [(74, 99999), (75, 99999), (86, 99999), (87, 99999), (88, 99999)] h h' ∧ fz_Xw h' ∧ ∃ r : Int, r0 = some (fz_i r) ∧ ((-2147483648) ≤ r ∧ r ≤ 2147483647)
set_option maxHeartbeats 1000000 in
set_option maxRecDepth 100000 in
theorem sX11_atHour (h : fz_H) (hI : fz_Iv h) (on hr wh : Int) (hXw : fz_Xw h) : fz_R 5 mX11_atHour 0 [(0, fz_r 53), (1, fz_i on), (2, fz_i hr), (3, fz_i wh)] [] h (qX11_atHour h on hr wh) := by
  refine fz_knowl (fun hk => ?_)
  have hr_on : -2147483648 ≤ on ∧ on < 2147483648 := hk _ (List.Mem.tail _ (List.Mem.head _))
  have hr_hr : -2147483648 ≤ hr ∧ hr < 2147483648 := hk _ (List.Mem.tail _ (List.Mem.tail _ (List.Mem.head _)))
  have hr_wh : -2147483648 ≤ wh ∧ wh < 2147483648 := hk _ (List.Mem.tail _ (List.Mem.tail _ (List.Mem.tail _ (List.Mem.head _))))
  clear hk
  have hf : fz_fr [(74, 99999), (75, 99999), (86, 99999), (87, 99999), (88, 99999)] h h := fz_fr_rf
  refine fz_iload_n kX11_atHour rfl rfl ?_
  refine fz_callS (d' := 1) (M' := mX11_isPerson) (As := [fz_i on]) (st := []) kX11_atHour rfl rfl vX11_isPerson rfl rfl (Nat.le_of_ble_eq_true rfl) (Nat.le_of_ble_eq_true rfl) (by decide) (sX11_isPerson h hI on ) (fun H1 r2 q3 o4 => ?_)
  obtain ⟨e5, y6, rfl, p7⟩ := q3
  subst H1
  clear o4
  rcases p7 with ⟨rfl, c8⟩ | ⟨rfl, c8⟩
  · refine fz_if_eq (tgt := 23) kX11_atHour rfl (by decide) (fun c9 => ?_) (fun c9 => ?_)
    · exfalso; omega
    · refine fz_iload_n kX11_atHour rfl rfl ?_
      refine fz_callS (d' := 1) (M' := mX11_isHour) (As := [fz_i hr]) (st := []) kX11_atHour rfl rfl vX11_isHour rfl rfl (Nat.le_of_ble_eq_true rfl) (Nat.le_of_ble_eq_true rfl) (by decide) (sX11_isHour h hI hr ) (fun H10 r11 q12 o13 => ?_)
      obtain ⟨e14, y15, rfl, p16⟩ := q12
      subst H10
      clear o13
      rcases p16 with ⟨rfl, c17⟩ | ⟨rfl, c17⟩
      · refine fz_if_eq (tgt := 23) kX11_atHour rfl (by decide) (fun c18 => ?_) (fun c18 => ?_)
        · exfalso; omega
        · refine fz_iload_n kX11_atHour rfl rfl ?_
          refine fz_iconst ⟨by decide, by decide⟩ kX11_atHour rfl ?_
          refine fz_iconst ⟨by decide, by decide⟩ kX11_atHour rfl ?_
          refine fz_callS (d' := 0) (M' := mX11_within) (As := [fz_i wh, fz_i 0, fz_i 2]) (st := []) kX11_atHour rfl rfl vX11_within rfl rfl (Nat.le_of_ble_eq_true rfl) (Nat.le_of_ble_eq_true rfl) (by decide) (sX11_within h hI wh 0 2 ) (fun H19 r20 q21 o22 => ?_)
          obtain ⟨e23, y24, rfl, p25⟩ := q21
          subst H19
          clear o22
          rcases p25 with ⟨rfl, c26⟩ | ⟨rfl, c26⟩
          · refine fz_if_ne (tgt := 25) kX11_atHour rfl (by decide) (fun c27 => ?_) (fun c27 => ?_)
            · refine fz_aload_n kX11_atHour rfl rfl ?_
              refine fz_callV (d' := 3) (M' := mX11_allHear) (As := []) (st := []) kX11_atHour rfl rfl vX11_allHear rfl rfl rfl rfl (Nat.le_of_ble_eq_true rfl) (Nat.le_of_ble_eq_true rfl) (by decide) (sX11_allHear h hI  ) (fun H28 r29 q30 o31 => ?_)
              obtain ⟨hI32, hf33, rfl⟩ := q30
              clear o31
              have hf34 := fz_fr_tr hf hf33 (show fz_su [(86, 99999), (87, 99999), (88, 99999)] [(74, 99999), (75, 99999), (86, 99999), (87, 99999), (88, 99999)] = true from rfl)
              have hXw35 : fz_Xw H28 := fz_Xw_eq (hf33 53 19 rfl) (funext fun s => hf33 66 s rfl) (funext fun s => hf33 67 s rfl) (funext fun s => hf33 68 s rfl) (funext fun s => hf33 69 s rfl) hXw
              refine fz_iconst ⟨by decide, by decide⟩ kX11_atHour rfl ?_
              refine fz_istore (ls' := [(4, fz_i 0), (0, fz_r 53), (1, fz_i on), (2, fz_i hr), (3, fz_i wh)]) kX11_atHour rfl (by decide) rfl ?_
              refine fz_bipush ⟨by decide, by decide⟩ kX11_atHour rfl ?_
              refine fz_istore (ls' := [(5, fz_i (-2)), (4, fz_i 0), (0, fz_r 53), (1, fz_i on), (2, fz_i hr), (3, fz_i wh)]) kX11_atHour rfl (by decide) rfl ?_
              refine fz_iconst ⟨by decide, by decide⟩ kX11_atHour rfl ?_
              refine fz_istore (ls' := [(6, fz_i 0), (5, fz_i (-2)), (4, fz_i 0), (0, fz_r 53), (1, fz_i on), (2, fz_i hr), (3, fz_i wh)]) kX11_atHour rfl (by decide) rfl ?_
              have lp44 : ∀ (n43 : Nat) (x36 : Int) (x37 : Int) (x38 : Int) (H40 : fz_H), fz_Iv H40 → fz_fr [(74, 99999), (75, 99999), (86, 99999), (87, 99999), (88, 99999)] h H40 → fz_Xw H40 → (0 ≤ x36 ∧ x36 ≤ 2147483647) → ((-2) ≤ x37 ∧ x37 ≤ 7) → ((-2147483648) ≤ x38 ∧ x38 ≤ 2147483647) → (x37 ≠ -1) → ((h 53 0) - x36).toNat < n43 → fz_R 5 mX11_atHour 39 [(6, fz_i x36), (5, fz_i x37), (4, fz_i x38), (0, fz_r 53), (1, fz_i on), (2, fz_i hr), (3, fz_i wh)] [] H40 (qX11_atHour h on hr wh) := by
                intro n43
                induction n43 with
                | zero => intro x36 x37 x38 H40 hI41 hf42 hXw39 hv47 hv48 hv49 hv50 hm46; exact absurd hm46 (by omega)
                | succ n43 ih45 =>
                  intro x36 x37 x38 H40 hI41 hf42 hXw39 hv47 hv48 hv49 hv50 hm46
                  refine fz_iload kX11_atHour rfl rfl ?_
                  refine fz_aload_n kX11_atHour rfl rfl ?_
                  refine fz_getV (v := h 53 0) kX11_atHour rfl rfl (hf42 53 0 rfl) ?_
                  have b51 : 0 ≤ h 53 0 ∧ h 53 0 ≤ 8 := hI.1 53 _
                  refine fz_icmp_ge (tgt := 122) kX11_atHour rfl (by decide) (fun c52 => ?_) (fun c52 => ?_)
                  · refine fz_iload_n kX11_atHour rfl rfl ?_
                    refine fz_iconst ⟨by decide, by decide⟩ kX11_atHour rfl ?_
                    refine fz_icmp_ne (tgt := 132) kX11_atHour rfl (by decide) (fun c53 => ?_) (fun c53 => ?_)
                    · refine fz_iload kX11_atHour rfl rfl ?_
                      exact fz_iret kX11_atHour rfl rfl (fun _ => ⟨hI41, hf42, hXw39, _, rfl, (by omega)⟩)
                    · refine fz_iload kX11_atHour rfl rfl ?_
                      refine fz_goto (tgt := 134) kX11_atHour rfl (by decide) ?_
                      exact fz_iret kX11_atHour rfl rfl (fun _ => ⟨hI41, hf42, hXw39, _, rfl, (by omega)⟩)
                  · refine fz_iload_n kX11_atHour rfl rfl ?_
                    refine fz_if_ne (tgt := 66) kX11_atHour rfl (by decide) (fun c54 => ?_) (fun c54 => ?_)
                    · refine fz_aload_n kX11_atHour rfl rfl ?_
                      refine fz_iload_n kX11_atHour rfl rfl ?_
                      refine fz_iload kX11_atHour rfl rfl ?_
                      refine fz_iload_n kX11_atHour rfl rfl ?_
                      refine fz_callV (d' := 4) (M' := mX11_isArrested) (As := [fz_i on, fz_i x36, fz_i hr]) (st := []) kX11_atHour rfl rfl vX11_isArrested rfl rfl rfl rfl (Nat.le_of_ble_eq_true rfl) (Nat.le_of_ble_eq_true rfl) (by decide) (sX11_isArrested H40 hI41 on x36 hr hXw39 (by omega)) (fun H55 r56 q57 o58 => ?_)
                      obtain ⟨hI59, hf60, hXw61, y62, rfl, p63⟩ := q57
                      clear o58
                      have hf64 := fz_fr_tr hf42 hf60 (show fz_su [(74, 99999), (75, 99999)] [(74, 99999), (75, 99999), (86, 99999), (87, 99999), (88, 99999)] = true from rfl)
                      refine fz_if_eq (tgt := 86) kX11_atHour rfl (by decide) (fun c65 => ?_) (fun c65 => ?_)
                      · refine fz_iload kX11_atHour rfl rfl ?_
                        refine fz_bipush ⟨by decide, by decide⟩ kX11_atHour rfl ?_
                        refine fz_icmp_eq (tgt := 112) kX11_atHour rfl (by decide) (fun c66 => ?_) (fun c66 => ?_)
                        · refine fz_iload kX11_atHour rfl rfl ?_
                          refine fz_istore (ls' := [(5, fz_i x36), (6, fz_i x36), (4, fz_i x38), (0, fz_r 53), (1, fz_i on), (2, fz_i hr), (3, fz_i wh)]) kX11_atHour rfl (by decide) rfl ?_
                          refine fz_iincN (ls' := [(6, fz_i (x36 + 1)), (5, fz_i x36), (4, fz_i x38), (0, fz_r 53), (1, fz_i on), (2, fz_i hr), (3, fz_i wh)]) kX11_atHour rfl (by decide) rfl (by omega) rfl ?_
                          refine fz_goto (tgt := 39) kX11_atHour rfl (by decide) ?_
                          exact ih45 (x36 + 1) x36 x38 H55 hI59 hf64 hXw61 (by omega) (by omega) (by omega) (by omega) (by omega)
                        · refine fz_aload_n kX11_atHour rfl rfl ?_
                          refine fz_iload_n kX11_atHour rfl rfl ?_
                          refine fz_iload kX11_atHour rfl rfl ?_
                          refine fz_iload_n kX11_atHour rfl rfl ?_
                          refine fz_callV (d' := 4) (M' := mX11_receivedIn) (As := [fz_i on, fz_i x36, fz_i hr]) (st := []) kX11_atHour rfl rfl vX11_receivedIn rfl rfl rfl rfl (Nat.le_of_ble_eq_true rfl) (Nat.le_of_ble_eq_true rfl) (by decide) (sX11_receivedIn H55 hI59 on x36 hr hXw61 (by omega)) (fun H67 r68 q69 o70 => ?_)
                          obtain ⟨hI71, hf72, hXw73, y75, rfl, f74⟩ := q69
                          clear o70
                          have hf76 := fz_fr_tr hf64 hf72 (show fz_su [(74, 99999), (75, 99999)] [(74, 99999), (75, 99999), (86, 99999), (87, 99999), (88, 99999)] = true from rfl)
                          refine fz_aload_n kX11_atHour rfl rfl ?_
                          refine fz_iload_n kX11_atHour rfl rfl ?_
                          refine fz_iload kX11_atHour rfl rfl ?_
                          refine fz_iload_n kX11_atHour rfl rfl ?_
                          refine fz_callV (d' := 4) (M' := mX11_receivedIn) (As := [fz_i on, fz_i x37, fz_i hr]) (st := [fz_i y75]) kX11_atHour rfl rfl vX11_receivedIn rfl rfl rfl rfl (Nat.le_of_ble_eq_true rfl) (Nat.le_of_ble_eq_true rfl) (by decide) (sX11_receivedIn H67 hI71 on x37 hr hXw73 (by omega)) (fun H77 r78 q79 o80 => ?_)
                          obtain ⟨hI81, hf82, hXw83, y85, rfl, f84⟩ := q79
                          clear o80
                          have hf86 := fz_fr_tr hf76 hf82 (show fz_su [(74, 99999), (75, 99999)] [(74, 99999), (75, 99999), (86, 99999), (87, 99999), (88, 99999)] = true from rfl)
                          refine fz_icmp_le (tgt := 116) kX11_atHour rfl (by decide) (fun c87 => ?_) (fun c87 => ?_)
                          · refine fz_iincN (ls' := [(6, fz_i (x36 + 1)), (5, fz_i x37), (4, fz_i x38), (0, fz_r 53), (1, fz_i on), (2, fz_i hr), (3, fz_i wh)]) kX11_atHour rfl (by decide) rfl (by omega) rfl ?_
                            refine fz_goto (tgt := 39) kX11_atHour rfl (by decide) ?_
                            exact ih45 (x36 + 1) x37 x38 H77 hI81 hf86 hXw83 (by omega) (by omega) (by omega) (by omega) (by omega)
                          · refine fz_iload kX11_atHour rfl rfl ?_
                            refine fz_istore (ls' := [(5, fz_i x36), (6, fz_i x36), (4, fz_i x38), (0, fz_r 53), (1, fz_i on), (2, fz_i hr), (3, fz_i wh)]) kX11_atHour rfl (by decide) rfl ?_
                            refine fz_iincN (ls' := [(6, fz_i (x36 + 1)), (5, fz_i x36), (4, fz_i x38), (0, fz_r 53), (1, fz_i on), (2, fz_i hr), (3, fz_i wh)]) kX11_atHour rfl (by decide) rfl (by omega) rfl ?_
                            refine fz_goto (tgt := 39) kX11_atHour rfl (by decide) ?_
                            exact ih45 (x36 + 1) x36 x38 H77 hI81 hf86 hXw83 (by omega) (by omega) (by omega) (by omega) (by omega)
                      · refine fz_iload kX11_atHour rfl rfl ?_
                        refine fz_iconst ⟨by decide, by decide⟩ kX11_atHour rfl ?_
                        refine fz_iload kX11_atHour rfl rfl ?_
                        refine fz_ishl kX11_atHour rfl ?_
                        have b88 : -2147483648 ≤ (fz_shl 1 x36) ∧ (fz_shl 1 x36) < 2147483648 := fz_b32 _
                        refine fz_ior kX11_atHour rfl ?_
                        have b89 : -2147483648 ≤ (fz_or x38 (fz_shl 1 x36)) ∧ (fz_or x38 (fz_shl 1 x36)) < 2147483648 := fz_b32 _
                        refine fz_istore (ls' := [(4, fz_i (fz_or x38 (fz_shl 1 x36))), (6, fz_i x36), (5, fz_i x37), (0, fz_r 53), (1, fz_i on), (2, fz_i hr), (3, fz_i wh)]) kX11_atHour rfl (by decide) rfl ?_
                        refine fz_iload kX11_atHour rfl rfl ?_
                        refine fz_bipush ⟨by decide, by decide⟩ kX11_atHour rfl ?_
                        refine fz_icmp_eq (tgt := 112) kX11_atHour rfl (by decide) (fun c90 => ?_) (fun c90 => ?_)
                        · refine fz_iload kX11_atHour rfl rfl ?_
                          refine fz_istore (ls' := [(5, fz_i x36), (4, fz_i (fz_or x38 (fz_shl 1 x36))), (6, fz_i x36), (0, fz_r 53), (1, fz_i on), (2, fz_i hr), (3, fz_i wh)]) kX11_atHour rfl (by decide) rfl ?_
                          refine fz_iincN (ls' := [(6, fz_i (x36 + 1)), (5, fz_i x36), (4, fz_i (fz_or x38 (fz_shl 1 x36))), (0, fz_r 53), (1, fz_i on), (2, fz_i hr), (3, fz_i wh)]) kX11_atHour rfl (by decide) rfl (by omega) rfl ?_
                          refine fz_goto (tgt := 39) kX11_atHour rfl (by decide) ?_
                          exact ih45 (x36 + 1) x36 (fz_or x38 (fz_shl 1 x36)) H55 hI59 hf64 hXw61 (by omega) (by omega) (by omega) (by omega) (by omega)
                        · refine fz_aload_n kX11_atHour rfl rfl ?_
                          refine fz_iload_n kX11_atHour rfl rfl ?_
                          refine fz_iload kX11_atHour rfl rfl ?_
                          refine fz_iload_n kX11_atHour rfl rfl ?_
                          refine fz_callV (d' := 4) (M' := mX11_receivedIn) (As := [fz_i on, fz_i x36, fz_i hr]) (st := []) kX11_atHour rfl rfl vX11_receivedIn rfl rfl rfl rfl (Nat.le_of_ble_eq_true rfl) (Nat.le_of_ble_eq_true rfl) (by decide) (sX11_receivedIn H55 hI59 on x36 hr hXw61 (by omega)) (fun H91 r92 q93 o94 => ?_)
                          obtain ⟨hI95, hf96, hXw97, y99, rfl, f98⟩ := q93
                          clear o94
                          have hf100 := fz_fr_tr hf64 hf96 (show fz_su [(74, 99999), (75, 99999)] [(74, 99999), (75, 99999), (86, 99999), (87, 99999), (88, 99999)] = true from rfl)
                          refine fz_aload_n kX11_atHour rfl rfl ?_
                          refine fz_iload_n kX11_atHour rfl rfl ?_
                          refine fz_iload kX11_atHour rfl rfl ?_
                          refine fz_iload_n kX11_atHour rfl rfl ?_
                          refine fz_callV (d' := 4) (M' := mX11_receivedIn) (As := [fz_i on, fz_i x37, fz_i hr]) (st := [fz_i y99]) kX11_atHour rfl rfl vX11_receivedIn rfl rfl rfl rfl (Nat.le_of_ble_eq_true rfl) (Nat.le_of_ble_eq_true rfl) (by decide) (sX11_receivedIn H91 hI95 on x37 hr hXw97 (by omega)) (fun H101 r102 q103 o104 => ?_)
                          obtain ⟨hI105, hf106, hXw107, y109, rfl, f108⟩ := q103
                          clear o104
                          have hf110 := fz_fr_tr hf100 hf106 (show fz_su [(74, 99999), (75, 99999)] [(74, 99999), (75, 99999), (86, 99999), (87, 99999), (88, 99999)] = true from rfl)
                          refine fz_icmp_le (tgt := 116) kX11_atHour rfl (by decide) (fun c111 => ?_) (fun c111 => ?_)
                          · refine fz_iincN (ls' := [(6, fz_i (x36 + 1)), (4, fz_i (fz_or x38 (fz_shl 1 x36))), (5, fz_i x37), (0, fz_r 53), (1, fz_i on), (2, fz_i hr), (3, fz_i wh)]) kX11_atHour rfl (by decide) rfl (by omega) rfl ?_
                            refine fz_goto (tgt := 39) kX11_atHour rfl (by decide) ?_
                            refine fz_sub (fz_pk_sub (ls' := [(6, fz_i (x36 + 1)), (5, fz_i x37), (4, fz_i (fz_or x38 (fz_shl 1 x36))), (0, fz_r 53), (1, fz_i on), (2, fz_i hr), (3, fz_i wh)]) [0, 2, 1, 3, 4, 5, 6] rfl) ?_
                            exact ih45 (x36 + 1) x37 (fz_or x38 (fz_shl 1 x36)) H101 hI105 hf110 hXw107 (by omega) (by omega) (by omega) (by omega) (by omega)
                          · refine fz_iload kX11_atHour rfl rfl ?_
                            refine fz_istore (ls' := [(5, fz_i x36), (4, fz_i (fz_or x38 (fz_shl 1 x36))), (6, fz_i x36), (0, fz_r 53), (1, fz_i on), (2, fz_i hr), (3, fz_i wh)]) kX11_atHour rfl (by decide) rfl ?_
                            refine fz_iincN (ls' := [(6, fz_i (x36 + 1)), (5, fz_i x36), (4, fz_i (fz_or x38 (fz_shl 1 x36))), (0, fz_r 53), (1, fz_i on), (2, fz_i hr), (3, fz_i wh)]) kX11_atHour rfl (by decide) rfl (by omega) rfl ?_
                            refine fz_goto (tgt := 39) kX11_atHour rfl (by decide) ?_
                            exact ih45 (x36 + 1) x36 (fz_or x38 (fz_shl 1 x36)) H101 hI105 hf110 hXw107 (by omega) (by omega) (by omega) (by omega) (by omega)
                    · refine fz_aload_n kX11_atHour rfl rfl ?_
                      refine fz_iload_n kX11_atHour rfl rfl ?_
                      refine fz_iload kX11_atHour rfl rfl ?_
                      refine fz_iload_n kX11_atHour rfl rfl ?_
                      refine fz_callV (d' := 4) (M' := mX11_marksIn) (As := [fz_i on, fz_i x36, fz_i hr]) (st := []) kX11_atHour rfl rfl vX11_marksIn rfl rfl rfl rfl (Nat.le_of_ble_eq_true rfl) (Nat.le_of_ble_eq_true rfl) (by decide) (sX11_marksIn H40 hI41 on x36 hr hXw39 (by omega)) (fun H112 r113 q114 o115 => ?_)
                      obtain ⟨hI116, hf117, hXw118, y120, rfl, f119⟩ := q114
                      clear o115
                      have hf121 := fz_fr_tr hf42 hf117 (show fz_su [(74, 99999), (75, 99999)] [(74, 99999), (75, 99999), (86, 99999), (87, 99999), (88, 99999)] = true from rfl)
                      refine fz_if_ne (tgt := 86) kX11_atHour rfl (by decide) (fun c122 => ?_) (fun c122 => ?_)
                      · refine fz_iload kX11_atHour rfl rfl ?_
                        refine fz_bipush ⟨by decide, by decide⟩ kX11_atHour rfl ?_
                        refine fz_icmp_eq (tgt := 112) kX11_atHour rfl (by decide) (fun c123 => ?_) (fun c123 => ?_)
                        · refine fz_iload kX11_atHour rfl rfl ?_
                          refine fz_istore (ls' := [(5, fz_i x36), (6, fz_i x36), (4, fz_i x38), (0, fz_r 53), (1, fz_i on), (2, fz_i hr), (3, fz_i wh)]) kX11_atHour rfl (by decide) rfl ?_
                          refine fz_iincN (ls' := [(6, fz_i (x36 + 1)), (5, fz_i x36), (4, fz_i x38), (0, fz_r 53), (1, fz_i on), (2, fz_i hr), (3, fz_i wh)]) kX11_atHour rfl (by decide) rfl (by omega) rfl ?_
                          refine fz_goto (tgt := 39) kX11_atHour rfl (by decide) ?_
                          exact ih45 (x36 + 1) x36 x38 H112 hI116 hf121 hXw118 (by omega) (by omega) (by omega) (by omega) (by omega)
                        · refine fz_aload_n kX11_atHour rfl rfl ?_
                          refine fz_iload_n kX11_atHour rfl rfl ?_
                          refine fz_iload kX11_atHour rfl rfl ?_
                          refine fz_iload_n kX11_atHour rfl rfl ?_
                          refine fz_callV (d' := 4) (M' := mX11_receivedIn) (As := [fz_i on, fz_i x36, fz_i hr]) (st := []) kX11_atHour rfl rfl vX11_receivedIn rfl rfl rfl rfl (Nat.le_of_ble_eq_true rfl) (Nat.le_of_ble_eq_true rfl) (by decide) (sX11_receivedIn H112 hI116 on x36 hr hXw118 (by omega)) (fun H124 r125 q126 o127 => ?_)
                          obtain ⟨hI128, hf129, hXw130, y132, rfl, f131⟩ := q126
                          clear o127
                          have hf133 := fz_fr_tr hf121 hf129 (show fz_su [(74, 99999), (75, 99999)] [(74, 99999), (75, 99999), (86, 99999), (87, 99999), (88, 99999)] = true from rfl)
                          refine fz_aload_n kX11_atHour rfl rfl ?_
                          refine fz_iload_n kX11_atHour rfl rfl ?_
                          refine fz_iload kX11_atHour rfl rfl ?_
                          refine fz_iload_n kX11_atHour rfl rfl ?_
                          refine fz_callV (d' := 4) (M' := mX11_receivedIn) (As := [fz_i on, fz_i x37, fz_i hr]) (st := [fz_i y132]) kX11_atHour rfl rfl vX11_receivedIn rfl rfl rfl rfl (Nat.le_of_ble_eq_true rfl) (Nat.le_of_ble_eq_true rfl) (by decide) (sX11_receivedIn H124 hI128 on x37 hr hXw130 (by omega)) (fun H134 r135 q136 o137 => ?_)
                          obtain ⟨hI138, hf139, hXw140, y142, rfl, f141⟩ := q136
                          clear o137
                          have hf143 := fz_fr_tr hf133 hf139 (show fz_su [(74, 99999), (75, 99999)] [(74, 99999), (75, 99999), (86, 99999), (87, 99999), (88, 99999)] = true from rfl)
                          refine fz_icmp_le (tgt := 116) kX11_atHour rfl (by decide) (fun c144 => ?_) (fun c144 => ?_)
                          · refine fz_iincN (ls' := [(6, fz_i (x36 + 1)), (5, fz_i x37), (4, fz_i x38), (0, fz_r 53), (1, fz_i on), (2, fz_i hr), (3, fz_i wh)]) kX11_atHour rfl (by decide) rfl (by omega) rfl ?_
                            refine fz_goto (tgt := 39) kX11_atHour rfl (by decide) ?_
                            exact ih45 (x36 + 1) x37 x38 H134 hI138 hf143 hXw140 (by omega) (by omega) (by omega) (by omega) (by omega)
                          · refine fz_iload kX11_atHour rfl rfl ?_
                            refine fz_istore (ls' := [(5, fz_i x36), (6, fz_i x36), (4, fz_i x38), (0, fz_r 53), (1, fz_i on), (2, fz_i hr), (3, fz_i wh)]) kX11_atHour rfl (by decide) rfl ?_
                            refine fz_iincN (ls' := [(6, fz_i (x36 + 1)), (5, fz_i x36), (4, fz_i x38), (0, fz_r 53), (1, fz_i on), (2, fz_i hr), (3, fz_i wh)]) kX11_atHour rfl (by decide) rfl (by omega) rfl ?_
                            refine fz_goto (tgt := 39) kX11_atHour rfl (by decide) ?_
                            exact ih45 (x36 + 1) x36 x38 H134 hI138 hf143 hXw140 (by omega) (by omega) (by omega) (by omega) (by omega)
                      · refine fz_goto (tgt := 77) kX11_atHour rfl (by decide) ?_
                        refine fz_iload kX11_atHour rfl rfl ?_
                        refine fz_iconst ⟨by decide, by decide⟩ kX11_atHour rfl ?_
                        refine fz_iload kX11_atHour rfl rfl ?_
                        refine fz_ishl kX11_atHour rfl ?_
                        have b145 : -2147483648 ≤ (fz_shl 1 x36) ∧ (fz_shl 1 x36) < 2147483648 := fz_b32 _
                        refine fz_ior kX11_atHour rfl ?_
                        have b146 : -2147483648 ≤ (fz_or x38 (fz_shl 1 x36)) ∧ (fz_or x38 (fz_shl 1 x36)) < 2147483648 := fz_b32 _
                        refine fz_istore (ls' := [(4, fz_i (fz_or x38 (fz_shl 1 x36))), (6, fz_i x36), (5, fz_i x37), (0, fz_r 53), (1, fz_i on), (2, fz_i hr), (3, fz_i wh)]) kX11_atHour rfl (by decide) rfl ?_
                        refine fz_iload kX11_atHour rfl rfl ?_
                        refine fz_bipush ⟨by decide, by decide⟩ kX11_atHour rfl ?_
                        refine fz_icmp_eq (tgt := 112) kX11_atHour rfl (by decide) (fun c147 => ?_) (fun c147 => ?_)
                        · refine fz_iload kX11_atHour rfl rfl ?_
                          refine fz_istore (ls' := [(5, fz_i x36), (4, fz_i (fz_or x38 (fz_shl 1 x36))), (6, fz_i x36), (0, fz_r 53), (1, fz_i on), (2, fz_i hr), (3, fz_i wh)]) kX11_atHour rfl (by decide) rfl ?_
                          refine fz_iincN (ls' := [(6, fz_i (x36 + 1)), (5, fz_i x36), (4, fz_i (fz_or x38 (fz_shl 1 x36))), (0, fz_r 53), (1, fz_i on), (2, fz_i hr), (3, fz_i wh)]) kX11_atHour rfl (by decide) rfl (by omega) rfl ?_
                          refine fz_goto (tgt := 39) kX11_atHour rfl (by decide) ?_
                          exact ih45 (x36 + 1) x36 (fz_or x38 (fz_shl 1 x36)) H112 hI116 hf121 hXw118 (by omega) (by omega) (by omega) (by omega) (by omega)
                        · refine fz_aload_n kX11_atHour rfl rfl ?_
                          refine fz_iload_n kX11_atHour rfl rfl ?_
                          refine fz_iload kX11_atHour rfl rfl ?_
                          refine fz_iload_n kX11_atHour rfl rfl ?_
                          refine fz_callV (d' := 4) (M' := mX11_receivedIn) (As := [fz_i on, fz_i x36, fz_i hr]) (st := []) kX11_atHour rfl rfl vX11_receivedIn rfl rfl rfl rfl (Nat.le_of_ble_eq_true rfl) (Nat.le_of_ble_eq_true rfl) (by decide) (sX11_receivedIn H112 hI116 on x36 hr hXw118 (by omega)) (fun H148 r149 q150 o151 => ?_)
                          obtain ⟨hI152, hf153, hXw154, y156, rfl, f155⟩ := q150
                          clear o151
                          have hf157 := fz_fr_tr hf121 hf153 (show fz_su [(74, 99999), (75, 99999)] [(74, 99999), (75, 99999), (86, 99999), (87, 99999), (88, 99999)] = true from rfl)
                          refine fz_aload_n kX11_atHour rfl rfl ?_
                          refine fz_iload_n kX11_atHour rfl rfl ?_
                          refine fz_iload kX11_atHour rfl rfl ?_
                          refine fz_iload_n kX11_atHour rfl rfl ?_
                          refine fz_callV (d' := 4) (M' := mX11_receivedIn) (As := [fz_i on, fz_i x37, fz_i hr]) (st := [fz_i y156]) kX11_atHour rfl rfl vX11_receivedIn rfl rfl rfl rfl (Nat.le_of_ble_eq_true rfl) (Nat.le_of_ble_eq_true rfl) (by decide) (sX11_receivedIn H148 hI152 on x37 hr hXw154 (by omega)) (fun H158 r159 q160 o161 => ?_)
                          obtain ⟨hI162, hf163, hXw164, y166, rfl, f165⟩ := q160
                          clear o161
                          have hf167 := fz_fr_tr hf157 hf163 (show fz_su [(74, 99999), (75, 99999)] [(74, 99999), (75, 99999), (86, 99999), (87, 99999), (88, 99999)] = true from rfl)
                          refine fz_icmp_le (tgt := 116) kX11_atHour rfl (by decide) (fun c168 => ?_) (fun c168 => ?_)
                          · refine fz_iincN (ls' := [(6, fz_i (x36 + 1)), (4, fz_i (fz_or x38 (fz_shl 1 x36))), (5, fz_i x37), (0, fz_r 53), (1, fz_i on), (2, fz_i hr), (3, fz_i wh)]) kX11_atHour rfl (by decide) rfl (by omega) rfl ?_
                            refine fz_goto (tgt := 39) kX11_atHour rfl (by decide) ?_
                            refine fz_sub (fz_pk_sub (ls' := [(6, fz_i (x36 + 1)), (5, fz_i x37), (4, fz_i (fz_or x38 (fz_shl 1 x36))), (0, fz_r 53), (1, fz_i on), (2, fz_i hr), (3, fz_i wh)]) [0, 2, 1, 3, 4, 5, 6] rfl) ?_
                            exact ih45 (x36 + 1) x37 (fz_or x38 (fz_shl 1 x36)) H158 hI162 hf167 hXw164 (by omega) (by omega) (by omega) (by omega) (by omega)
                          · refine fz_iload kX11_atHour rfl rfl ?_
                            refine fz_istore (ls' := [(5, fz_i x36), (4, fz_i (fz_or x38 (fz_shl 1 x36))), (6, fz_i x36), (0, fz_r 53), (1, fz_i on), (2, fz_i hr), (3, fz_i wh)]) kX11_atHour rfl (by decide) rfl ?_
                            refine fz_iincN (ls' := [(6, fz_i (x36 + 1)), (5, fz_i x36), (4, fz_i (fz_or x38 (fz_shl 1 x36))), (0, fz_r 53), (1, fz_i on), (2, fz_i hr), (3, fz_i wh)]) kX11_atHour rfl (by decide) rfl (by omega) rfl ?_
                            refine fz_goto (tgt := 39) kX11_atHour rfl (by decide) ?_
                            exact ih45 (x36 + 1) x36 (fz_or x38 (fz_shl 1 x36)) H158 hI162 hf167 hXw164 (by omega) (by omega) (by omega) (by omega) (by omega)
              exact lp44 _ 0 (-2) 0 H28 hI32 hf34 hXw35 (by omega) (by omega) (by omega) (by omega) (Nat.lt_succ_self _)
            · exfalso; omega
          · refine fz_if_ne (tgt := 25) kX11_atHour rfl (by decide) (fun c169 => ?_) (fun c169 => ?_)
            · exfalso; omega
            · refine fz_iconst ⟨by decide, by decide⟩ kX11_atHour rfl ?_
              exact fz_iret kX11_atHour rfl rfl (fun _ => ⟨hI, hf, hXw, _, rfl, (by omega)⟩)
      · refine fz_if_eq (tgt := 23) kX11_atHour rfl (by decide) (fun c170 => ?_) (fun c170 => ?_)
        · refine fz_iconst ⟨by decide, by decide⟩ kX11_atHour rfl ?_
          exact fz_iret kX11_atHour rfl rfl (fun _ => ⟨hI, hf, hXw, _, rfl, (by omega)⟩)
        · exfalso; omega
  · refine fz_if_eq (tgt := 23) kX11_atHour rfl (by decide) (fun c171 => ?_) (fun c171 => ?_)
    · refine fz_iconst ⟨by decide, by decide⟩ kX11_atHour rfl ?_
      exact fz_iret kX11_atHour rfl rfl (fun _ => ⟨hI, hf, hXw, _, rfl, (by omega)⟩)
    · exfalso; omega

abbrev qX11_feet (h : fz_H) (a b : Int) : fz_H → Option fz_V → Prop := fun h' r0 => fz_Iv h' ∧ fz_fr [(86, 99999), (87, 99999)] h h' ∧ ∃ r : Int, r0 = some (fz_i r) ∧ ((-2147483648) ≤ r ∧ r ≤ 2147483647)
set_option maxHeartbeats 1000000 in
set_option maxRecDepth 100000 in
theorem sX11_feet (h : fz_H) (hI : fz_Iv h) (a b : Int) (hp0 : 0 ≤ a ∧ a ≤ 7) (hp1 : 0 ≤ b ∧ b ≤ 7) : fz_R 2 mX11_feet 0 [(0, fz_r 53), (1, fz_i a), (2, fz_i b)] [] h (qX11_feet h a b) := by
  refine fz_knowl (fun hk => ?_)
  have hr_a : -2147483648 ≤ a ∧ a < 2147483648 := hk _ (List.Mem.tail _ (List.Mem.head _))
  have hr_b : -2147483648 ≤ b ∧ b < 2147483648 := hk _ (List.Mem.tail _ (List.Mem.tail _ (List.Mem.head _)))
  clear hk
  have hf : fz_fr [(86, 99999), (87, 99999)] h h := fz_fr_rf
  refine fz_aload_n kX11_feet rfl rfl ?_
  refine fz_iload_n kX11_feet rfl rfl ?_
  refine fz_iconst ⟨by decide, by decide⟩ kX11_feet rfl ?_
  refine fz_callV (d' := 1) (M' := mX11_goesFrom) (As := [fz_i a, fz_i 0]) (st := []) kX11_feet rfl rfl vX11_goesFrom rfl rfl rfl rfl (Nat.le_of_ble_eq_true rfl) (Nat.le_of_ble_eq_true rfl) (by decide) (sX11_goesFrom h hI a 0 (by omega) (by omega)) (fun H1 r2 q3 o4 => ?_)
  obtain ⟨hI5, hf6, rfl⟩ := q3
  clear o4
  have hf7 := fz_fr_tr hf hf6 (show fz_su [(86, 99999), (87, 99999)] [(86, 99999), (87, 99999)] = true from rfl)
  refine fz_aload_n kX11_feet rfl rfl ?_
  refine fz_getR (t := 86) kX11_feet rfl rfl ?_
  refine fz_iload_n kX11_feet rfl rfl ?_
  obtain ⟨v8, e9⟩ : ∃ z, H1 86 (b.toNat) = z := ⟨_, rfl⟩
  refine fz_ialdV (n := 8) (v := v8) kX11_feet rfl rfl (by omega) (by omega) e9 ?_
  have b10 : (-2147483648) ≤ v8 ∧ v8 ≤ 2147483647 := by rw [← e9]; exact hI5.1 86 _
  exact fz_iret kX11_feet rfl rfl (fun _ => ⟨hI5, hf7, _, rfl, (by omega)⟩)

abbrev qX11_home (h : fz_H) (on th wh : Int) : fz_H → Option fz_V → Prop := fun h' r0 => fz_Iv h' ∧ fz_fr [(74, 99999), (75, 99999), (86, 99999), (87, 99999), (88, 99999)] h h' ∧ fz_Xw h' ∧ ∃ r : Int, r0 = some (fz_i r) ∧ ((-2147483648) ≤ r ∧ r ≤ 2147483647)
set_option maxHeartbeats 1000000 in
set_option maxRecDepth 100000 in
theorem sX11_home (h : fz_H) (hI : fz_Iv h) (on th wh : Int) (hXw : fz_Xw h) : fz_R 5 mX11_home 0 [(0, fz_r 53), (1, fz_i on), (2, fz_i th), (3, fz_i wh)] [] h (qX11_home h on th wh) := by
  refine fz_knowl (fun hk => ?_)
  have hr_on : -2147483648 ≤ on ∧ on < 2147483648 := hk _ (List.Mem.tail _ (List.Mem.head _))
  have hr_th : -2147483648 ≤ th ∧ th < 2147483648 := hk _ (List.Mem.tail _ (List.Mem.tail _ (List.Mem.head _)))
  have hr_wh : -2147483648 ≤ wh ∧ wh < 2147483648 := hk _ (List.Mem.tail _ (List.Mem.tail _ (List.Mem.tail _ (List.Mem.head _))))
  clear hk
  have hf : fz_fr [(74, 99999), (75, 99999), (86, 99999), (87, 99999), (88, 99999)] h h := fz_fr_rf
  refine fz_iload_n kX11_home rfl rfl ?_
  refine fz_callS (d' := 1) (M' := mX11_isPerson) (As := [fz_i on]) (st := []) kX11_home rfl rfl vX11_isPerson rfl rfl (Nat.le_of_ble_eq_true rfl) (Nat.le_of_ble_eq_true rfl) (by decide) (sX11_isPerson h hI on ) (fun H1 r2 q3 o4 => ?_)
  obtain ⟨e5, y6, rfl, p7⟩ := q3
  subst H1
  clear o4
  rcases p7 with ⟨rfl, c8⟩ | ⟨rfl, c8⟩
  · refine fz_if_eq (tgt := 24) kX11_home rfl (by decide) (fun c9 => ?_) (fun c9 => ?_)
    · exfalso; omega
    · refine fz_aload_n kX11_home rfl rfl ?_
      refine fz_iload_n kX11_home rfl rfl ?_
      have b10 : 0 ≤ h 53 0 ∧ h 53 0 ≤ 8 := hI.1 53 _
      refine fz_callV (d' := 2) (M' := mX11_isWhen) (As := [fz_i th]) (st := []) kX11_home rfl rfl vX11_isWhen rfl rfl rfl rfl (Nat.le_of_ble_eq_true rfl) (Nat.le_of_ble_eq_true rfl) (by decide) (sX11_isWhen h hI th ) (fun H11 r12 q13 o14 => ?_)
      obtain ⟨e15, y16, rfl, p17⟩ := q13
      subst H11
      clear o14
      rcases p17 with ⟨rfl, c18⟩ | ⟨rfl, c18⟩
      · refine fz_if_eq (tgt := 24) kX11_home rfl (by decide) (fun c19 => ?_) (fun c19 => ?_)
        · exfalso; omega
        · refine fz_iload_n kX11_home rfl rfl ?_
          refine fz_iconst ⟨by decide, by decide⟩ kX11_home rfl ?_
          refine fz_iconst ⟨by decide, by decide⟩ kX11_home rfl ?_
          refine fz_callS (d' := 0) (M' := mX11_within) (As := [fz_i wh, fz_i 0, fz_i 1]) (st := []) kX11_home rfl rfl vX11_within rfl rfl (Nat.le_of_ble_eq_true rfl) (Nat.le_of_ble_eq_true rfl) (by decide) (sX11_within h hI wh 0 1 ) (fun H20 r21 q22 o23 => ?_)
          obtain ⟨e24, y25, rfl, p26⟩ := q22
          subst H20
          clear o23
          rcases p26 with ⟨rfl, c27⟩ | ⟨rfl, c27⟩
          · refine fz_if_ne (tgt := 26) kX11_home rfl (by decide) (fun c28 => ?_) (fun c28 => ?_)
            · refine fz_aload_n kX11_home rfl rfl ?_
              refine fz_callV (d' := 3) (M' := mX11_allHear) (As := []) (st := []) kX11_home rfl rfl vX11_allHear rfl rfl rfl rfl (Nat.le_of_ble_eq_true rfl) (Nat.le_of_ble_eq_true rfl) (by decide) (sX11_allHear h hI  ) (fun H29 r30 q31 o32 => ?_)
              obtain ⟨hI33, hf34, rfl⟩ := q31
              clear o32
              have hf35 := fz_fr_tr hf hf34 (show fz_su [(86, 99999), (87, 99999), (88, 99999)] [(74, 99999), (75, 99999), (86, 99999), (87, 99999), (88, 99999)] = true from rfl)
              have hXw36 : fz_Xw H29 := fz_Xw_eq (hf34 53 19 rfl) (funext fun s => hf34 66 s rfl) (funext fun s => hf34 67 s rfl) (funext fun s => hf34 68 s rfl) (funext fun s => hf34 69 s rfl) hXw
              refine fz_bipush ⟨by decide, by decide⟩ kX11_home rfl ?_
              refine fz_istore (ls' := [(4, fz_i (-2)), (0, fz_r 53), (1, fz_i on), (2, fz_i th), (3, fz_i wh)]) kX11_home rfl (by decide) rfl ?_
              refine fz_iconst ⟨by decide, by decide⟩ kX11_home rfl ?_
              refine fz_istore (ls' := [(5, fz_i 0), (4, fz_i (-2)), (0, fz_r 53), (1, fz_i on), (2, fz_i th), (3, fz_i wh)]) kX11_home rfl (by decide) rfl ?_
              refine fz_iconst ⟨by decide, by decide⟩ kX11_home rfl ?_
              refine fz_istore (ls' := [(6, fz_i 0), (5, fz_i 0), (4, fz_i (-2)), (0, fz_r 53), (1, fz_i on), (2, fz_i th), (3, fz_i wh)]) kX11_home rfl (by decide) rfl ?_
              have lp45 : ∀ (n44 : Nat) (x37 : Int) (x38 : Int) (x39 : Int) (H41 : fz_H), fz_Iv H41 → fz_fr [(74, 99999), (75, 99999), (86, 99999), (87, 99999), (88, 99999)] h H41 → fz_Xw H41 → (0 ≤ x37 ∧ x37 ≤ 2147483647) → ((-2147483648) ≤ x38 ∧ x38 ≤ 2147483647) → ((-2147483648) ≤ x39 ∧ x39 ≤ 2147483647) → ((h 53 0) - x37).toNat < n44 → fz_R 5 mX11_home 40 [(6, fz_i x37), (5, fz_i x38), (4, fz_i x39), (0, fz_r 53), (1, fz_i on), (2, fz_i th), (3, fz_i wh)] [] H41 (qX11_home h on th wh) := by
                intro n44
                induction n44 with
                | zero => intro x37 x38 x39 H41 hI42 hf43 hXw40 hv48 hv49 hv50 hm47; exact absurd hm47 (by omega)
                | succ n44 ih46 =>
                  intro x37 x38 x39 H41 hI42 hf43 hXw40 hv48 hv49 hv50 hm47
                  refine fz_iload kX11_home rfl rfl ?_
                  refine fz_aload_n kX11_home rfl rfl ?_
                  refine fz_getV (v := h 53 0) kX11_home rfl rfl (hf43 53 0 rfl) ?_
                  have b51 : 0 ≤ h 53 0 ∧ h 53 0 ≤ 8 := hI.1 53 _
                  refine fz_icmp_ge (tgt := 130) kX11_home rfl (by decide) (fun c52 => ?_) (fun c52 => ?_)
                  · refine fz_iload kX11_home rfl rfl ?_
                    refine fz_bipush ⟨by decide, by decide⟩ kX11_home rfl ?_
                    refine fz_icmp_eq (tgt := 142) kX11_home rfl (by decide) (fun c53 => ?_) (fun c53 => ?_)
                    · refine fz_iload kX11_home rfl rfl ?_
                      refine fz_goto (tgt := 149) kX11_home rfl (by decide) ?_
                      exact fz_iret kX11_home rfl rfl (fun _ => ⟨hI42, hf43, hXw40, _, rfl, (by omega)⟩)
                    · refine fz_iload_n kX11_home rfl rfl ?_
                      refine fz_iconst ⟨by decide, by decide⟩ kX11_home rfl ?_
                      refine fz_icmp_ne (tgt := 147) kX11_home rfl (by decide) (fun c54 => ?_) (fun c54 => ?_)
                      · refine fz_iload kX11_home rfl rfl ?_
                        exact fz_iret kX11_home rfl rfl (fun _ => ⟨hI42, hf43, hXw40, _, rfl, (by omega)⟩)
                      · refine fz_iload kX11_home rfl rfl ?_
                        refine fz_goto (tgt := 149) kX11_home rfl (by decide) ?_
                        exact fz_iret kX11_home rfl rfl (fun _ => ⟨hI42, hf43, hXw40, _, rfl, (by omega)⟩)
                  · refine fz_aload_n kX11_home rfl rfl ?_
                    refine fz_iload_n kX11_home rfl rfl ?_
                    refine fz_sipush ⟨by decide, by decide⟩ kX11_home rfl ?_
                    refine fz_idivN kX11_home rfl (by omega) (by omega) (by omega) ?_
                    refine fz_iload kX11_home rfl rfl ?_
                    refine fz_callV (d' := 2) (M' := mX11_feet) (As := [fz_i (th / 1000), fz_i x37]) (st := []) kX11_home rfl rfl vX11_feet rfl rfl rfl rfl (Nat.le_of_ble_eq_true rfl) (Nat.le_of_ble_eq_true rfl) (by decide) (sX11_feet H41 hI42 (th / 1000) x37 (by omega) (by omega)) (fun H55 r56 q57 o58 => ?_)
                    obtain ⟨hI59, hf60, y62, rfl, f61⟩ := q57
                    clear o58
                    have hf63 := fz_fr_tr hf43 hf60 (show fz_su [(86, 99999), (87, 99999)] [(74, 99999), (75, 99999), (86, 99999), (87, 99999), (88, 99999)] = true from rfl)
                    have hXw64 : fz_Xw H55 := fz_Xw_eq (hf60 53 19 rfl) (funext fun s => hf60 66 s rfl) (funext fun s => hf60 67 s rfl) (funext fun s => hf60 68 s rfl) (funext fun s => hf60 69 s rfl) hXw40
                    refine fz_istore (ls' := [(7, fz_i y62), (6, fz_i x37), (5, fz_i x38), (4, fz_i x39), (0, fz_r 53), (1, fz_i on), (2, fz_i th), (3, fz_i wh)]) kX11_home rfl (by decide) rfl ?_
                    refine fz_iload_n kX11_home rfl rfl ?_
                    refine fz_sipush ⟨by decide, by decide⟩ kX11_home rfl ?_
                    refine fz_iremN kX11_home rfl (by omega) (by omega) (by omega) ?_
                    refine fz_iload kX11_home rfl rfl ?_
                    refine fz_iadd kX11_home rfl ?_
                    refine fz_nmw (fun z65 e66 => ?_)
                    refine fz_istore (ls' := [(8, fz_i z65), (7, fz_i y62), (6, fz_i x37), (5, fz_i x38), (4, fz_i x39), (0, fz_r 53), (1, fz_i on), (2, fz_i th), (3, fz_i wh)]) kX11_home rfl (by decide) rfl ?_
                    refine fz_iload kX11_home rfl rfl ?_
                    refine fz_bipush ⟨by decide, by decide⟩ kX11_home rfl ?_
                    refine fz_icmp_eq (tgt := 124) kX11_home rfl (by decide) (fun c67 => ?_) (fun c67 => ?_)
                    · refine fz_iincN (ls' := [(6, fz_i (x37 + 1)), (8, fz_i z65), (7, fz_i y62), (5, fz_i x38), (4, fz_i x39), (0, fz_r 53), (1, fz_i on), (2, fz_i th), (3, fz_i wh)]) kX11_home rfl (by decide) rfl (by omega) rfl ?_
                      refine fz_goto (tgt := 40) kX11_home rfl (by decide) ?_
                      refine fz_sub (fz_pk_sub (ls' := [(6, fz_i (x37 + 1)), (5, fz_i x38), (4, fz_i x39), (0, fz_r 53), (1, fz_i on), (2, fz_i th), (3, fz_i wh)]) [0, 3, 4, 5, 6, 7, 8] rfl) ?_
                      exact ih46 (x37 + 1) x38 x39 H55 hI59 hf63 hXw64 (by omega) (by omega) (by omega) (by omega)
                    · refine fz_iload kX11_home rfl rfl ?_
                      refine fz_sipush ⟨by decide, by decide⟩ kX11_home rfl ?_
                      refine fz_icmp_gt (tgt := 124) kX11_home rfl (by decide) (fun c68 => ?_) (fun c68 => ?_)
                      · refine fz_iincN (ls' := [(6, fz_i (x37 + 1)), (8, fz_i z65), (7, fz_i y62), (5, fz_i x38), (4, fz_i x39), (0, fz_r 53), (1, fz_i on), (2, fz_i th), (3, fz_i wh)]) kX11_home rfl (by decide) rfl (by omega) rfl ?_
                        refine fz_goto (tgt := 40) kX11_home rfl (by decide) ?_
                        refine fz_sub (fz_pk_sub (ls' := [(6, fz_i (x37 + 1)), (5, fz_i x38), (4, fz_i x39), (0, fz_r 53), (1, fz_i on), (2, fz_i th), (3, fz_i wh)]) [0, 3, 4, 5, 6, 7, 8] rfl) ?_
                        exact ih46 (x37 + 1) x38 x39 H55 hI59 hf63 hXw64 (by omega) (by omega) (by omega) (by omega)
                      · refine fz_iload kX11_home rfl rfl ?_
                        refine fz_bipush ⟨by decide, by decide⟩ kX11_home rfl ?_
                        refine fz_icmp_eq (tgt := 101) kX11_home rfl (by decide) (fun c69 => ?_) (fun c69 => ?_)
                        · refine fz_aload_n kX11_home rfl rfl ?_
                          refine fz_iload_n kX11_home rfl rfl ?_
                          refine fz_iload kX11_home rfl rfl ?_
                          refine fz_iload kX11_home rfl rfl ?_
                          refine fz_callV (d' := 4) (M' := mX11_marksIn) (As := [fz_i on, fz_i x37, fz_i z65]) (st := []) kX11_home rfl rfl vX11_marksIn rfl rfl rfl rfl (Nat.le_of_ble_eq_true rfl) (Nat.le_of_ble_eq_true rfl) (by decide) (sX11_marksIn H55 hI59 on x37 z65 hXw64 (by omega)) (fun H70 r71 q72 o73 => ?_)
                          obtain ⟨hI74, hf75, hXw76, y78, rfl, f77⟩ := q72
                          clear o73
                          have hf79 := fz_fr_tr hf63 hf75 (show fz_su [(74, 99999), (75, 99999)] [(74, 99999), (75, 99999), (86, 99999), (87, 99999), (88, 99999)] = true from rfl)
                          refine fz_if_le (tgt := 116) kX11_home rfl (by decide) (fun c80 => ?_) (fun c80 => ?_)
                          · refine fz_iload kX11_home rfl rfl ?_
                            refine fz_istore (ls' := [(5, fz_i z65), (8, fz_i z65), (7, fz_i y62), (6, fz_i x37), (4, fz_i x39), (0, fz_r 53), (1, fz_i on), (2, fz_i th), (3, fz_i wh)]) kX11_home rfl (by decide) rfl ?_
                            refine fz_iload kX11_home rfl rfl ?_
                            refine fz_istore (ls' := [(4, fz_i x37), (5, fz_i z65), (8, fz_i z65), (7, fz_i y62), (6, fz_i x37), (0, fz_r 53), (1, fz_i on), (2, fz_i th), (3, fz_i wh)]) kX11_home rfl (by decide) rfl ?_
                            refine fz_iincN (ls' := [(6, fz_i (x37 + 1)), (4, fz_i x37), (5, fz_i z65), (8, fz_i z65), (7, fz_i y62), (0, fz_r 53), (1, fz_i on), (2, fz_i th), (3, fz_i wh)]) kX11_home rfl (by decide) rfl (by omega) rfl ?_
                            refine fz_goto (tgt := 40) kX11_home rfl (by decide) ?_
                            refine fz_sub (fz_pk_sub (ls' := [(6, fz_i (x37 + 1)), (5, fz_i z65), (4, fz_i x37), (0, fz_r 53), (1, fz_i on), (2, fz_i th), (3, fz_i wh)]) [0, 2, 1, 5, 6, 7, 8] rfl) ?_
                            exact ih46 (x37 + 1) z65 x37 H70 hI74 hf79 hXw76 (by omega) (by omega) (by omega) (by omega)
                          · refine fz_goto (tgt := 124) kX11_home rfl (by decide) ?_
                            refine fz_iincN (ls' := [(6, fz_i (x37 + 1)), (8, fz_i z65), (7, fz_i y62), (5, fz_i x38), (4, fz_i x39), (0, fz_r 53), (1, fz_i on), (2, fz_i th), (3, fz_i wh)]) kX11_home rfl (by decide) rfl (by omega) rfl ?_
                            refine fz_goto (tgt := 40) kX11_home rfl (by decide) ?_
                            refine fz_sub (fz_pk_sub (ls' := [(6, fz_i (x37 + 1)), (5, fz_i x38), (4, fz_i x39), (0, fz_r 53), (1, fz_i on), (2, fz_i th), (3, fz_i wh)]) [0, 3, 4, 5, 6, 7, 8] rfl) ?_
                            exact ih46 (x37 + 1) x38 x39 H70 hI74 hf79 hXw76 (by omega) (by omega) (by omega) (by omega)
                        · refine fz_iload kX11_home rfl rfl ?_
                          refine fz_iload kX11_home rfl rfl ?_
                          refine fz_icmp_ge (tgt := 124) kX11_home rfl (by decide) (fun c81 => ?_) (fun c81 => ?_)
                          · refine fz_iincN (ls' := [(6, fz_i (x37 + 1)), (8, fz_i z65), (7, fz_i y62), (5, fz_i x38), (4, fz_i x39), (0, fz_r 53), (1, fz_i on), (2, fz_i th), (3, fz_i wh)]) kX11_home rfl (by decide) rfl (by omega) rfl ?_
                            refine fz_goto (tgt := 40) kX11_home rfl (by decide) ?_
                            refine fz_sub (fz_pk_sub (ls' := [(6, fz_i (x37 + 1)), (5, fz_i x38), (4, fz_i x39), (0, fz_r 53), (1, fz_i on), (2, fz_i th), (3, fz_i wh)]) [0, 3, 4, 5, 6, 7, 8] rfl) ?_
                            exact ih46 (x37 + 1) x38 x39 H55 hI59 hf63 hXw64 (by omega) (by omega) (by omega) (by omega)
                          · refine fz_aload_n kX11_home rfl rfl ?_
                            refine fz_iload_n kX11_home rfl rfl ?_
                            refine fz_iload kX11_home rfl rfl ?_
                            refine fz_iload kX11_home rfl rfl ?_
                            refine fz_callV (d' := 4) (M' := mX11_marksIn) (As := [fz_i on, fz_i x37, fz_i z65]) (st := []) kX11_home rfl rfl vX11_marksIn rfl rfl rfl rfl (Nat.le_of_ble_eq_true rfl) (Nat.le_of_ble_eq_true rfl) (by decide) (sX11_marksIn H55 hI59 on x37 z65 hXw64 (by omega)) (fun H82 r83 q84 o85 => ?_)
                            obtain ⟨hI86, hf87, hXw88, y90, rfl, f89⟩ := q84
                            clear o85
                            have hf91 := fz_fr_tr hf63 hf87 (show fz_su [(74, 99999), (75, 99999)] [(74, 99999), (75, 99999), (86, 99999), (87, 99999), (88, 99999)] = true from rfl)
                            refine fz_if_le (tgt := 116) kX11_home rfl (by decide) (fun c92 => ?_) (fun c92 => ?_)
                            · refine fz_iload kX11_home rfl rfl ?_
                              refine fz_istore (ls' := [(5, fz_i z65), (8, fz_i z65), (7, fz_i y62), (6, fz_i x37), (4, fz_i x39), (0, fz_r 53), (1, fz_i on), (2, fz_i th), (3, fz_i wh)]) kX11_home rfl (by decide) rfl ?_
                              refine fz_iload kX11_home rfl rfl ?_
                              refine fz_istore (ls' := [(4, fz_i x37), (5, fz_i z65), (8, fz_i z65), (7, fz_i y62), (6, fz_i x37), (0, fz_r 53), (1, fz_i on), (2, fz_i th), (3, fz_i wh)]) kX11_home rfl (by decide) rfl ?_
                              refine fz_iincN (ls' := [(6, fz_i (x37 + 1)), (4, fz_i x37), (5, fz_i z65), (8, fz_i z65), (7, fz_i y62), (0, fz_r 53), (1, fz_i on), (2, fz_i th), (3, fz_i wh)]) kX11_home rfl (by decide) rfl (by omega) rfl ?_
                              refine fz_goto (tgt := 40) kX11_home rfl (by decide) ?_
                              refine fz_sub (fz_pk_sub (ls' := [(6, fz_i (x37 + 1)), (5, fz_i z65), (4, fz_i x37), (0, fz_r 53), (1, fz_i on), (2, fz_i th), (3, fz_i wh)]) [0, 2, 1, 5, 6, 7, 8] rfl) ?_
                              exact ih46 (x37 + 1) z65 x37 H82 hI86 hf91 hXw88 (by omega) (by omega) (by omega) (by omega)
                            · refine fz_goto (tgt := 124) kX11_home rfl (by decide) ?_
                              refine fz_iincN (ls' := [(6, fz_i (x37 + 1)), (8, fz_i z65), (7, fz_i y62), (5, fz_i x38), (4, fz_i x39), (0, fz_r 53), (1, fz_i on), (2, fz_i th), (3, fz_i wh)]) kX11_home rfl (by decide) rfl (by omega) rfl ?_
                              refine fz_goto (tgt := 40) kX11_home rfl (by decide) ?_
                              refine fz_sub (fz_pk_sub (ls' := [(6, fz_i (x37 + 1)), (5, fz_i x38), (4, fz_i x39), (0, fz_r 53), (1, fz_i on), (2, fz_i th), (3, fz_i wh)]) [0, 3, 4, 5, 6, 7, 8] rfl) ?_
                              exact ih46 (x37 + 1) x38 x39 H82 hI86 hf91 hXw88 (by omega) (by omega) (by omega) (by omega)
              exact lp45 _ 0 0 (-2) H29 hI33 hf35 hXw36 (by omega) (by omega) (by omega) (Nat.lt_succ_self _)
            · exfalso; omega
          · refine fz_if_ne (tgt := 26) kX11_home rfl (by decide) (fun c93 => ?_) (fun c93 => ?_)
            · exfalso; omega
            · refine fz_iconst ⟨by decide, by decide⟩ kX11_home rfl ?_
              exact fz_iret kX11_home rfl rfl (fun _ => ⟨hI, hf, hXw, _, rfl, (by omega)⟩)
      · refine fz_if_eq (tgt := 24) kX11_home rfl (by decide) (fun c94 => ?_) (fun c94 => ?_)
        · refine fz_iconst ⟨by decide, by decide⟩ kX11_home rfl ?_
          exact fz_iret kX11_home rfl rfl (fun _ => ⟨hI, hf, hXw, _, rfl, (by omega)⟩)
        · exfalso; omega
  · refine fz_if_eq (tgt := 24) kX11_home rfl (by decide) (fun c95 => ?_) (fun c95 => ?_)
    · refine fz_iconst ⟨by decide, by decide⟩ kX11_home rfl ?_
      exact fz_iret kX11_home rfl rfl (fun _ => ⟨hI, hf, hXw, _, rfl, (by omega)⟩)
    · exfalso; omega

abbrev qX11_isAhead (h : fz_H) (n : Int) : fz_H → Option fz_V → Prop := fun h' r0 => h' = h ∧ ∃ r : Int, r0 = some (fz_i r) ∧ (r = 0 ∨ r = 1)
set_option maxHeartbeats 1000000 in
set_option maxRecDepth 100000 in
theorem sX11_isAhead (h : fz_H) (hI : fz_Iv h) (n : Int) (hp0 : 0 ≤ n ∧ n ≤ 4) : fz_R 0 mX11_isAhead 0 [(0, fz_r 53), (1, fz_i n)] [] h (qX11_isAhead h n) := by
  refine fz_knowl (fun hk => ?_)
  have hr_n : -2147483648 ≤ n ∧ n < 2147483648 := hk _ (List.Mem.tail _ (List.Mem.head _))
  clear hk
  refine fz_iload_n kX11_isAhead rfl rfl ?_
  refine fz_aload_n kX11_isAhead rfl rfl ?_
  refine fz_getV (v := h 53 55) kX11_isAhead rfl rfl rfl ?_
  have b1 : 0 ≤ h 53 55 ∧ h 53 55 ≤ 4 := hI.1 53 _
  refine fz_icmp_eq (tgt := 22) kX11_isAhead rfl (by decide) (fun c2 => ?_) (fun c2 => ?_)
  · refine fz_iconst ⟨by decide, by decide⟩ kX11_isAhead rfl ?_
    refine fz_istore_n (ls' := [(2, fz_i 0), (0, fz_r 53), (1, fz_i n)]) kX11_isAhead rfl (by decide) rfl ?_
    have lp5 : ∀ (n4 : Nat) (x3 : Int), (0 ≤ x3 ∧ x3 ≤ 2147483647) → (n - x3).toNat < n4 → fz_R 0 mX11_isAhead 24 [(2, fz_i x3), (0, fz_r 53), (1, fz_i n)] [] h (qX11_isAhead h n) := by
      intro n4
      induction n4 with
      | zero => intro x3 hv8 hm7; exact absurd hm7 (by omega)
      | succ n4 ih6 =>
        intro x3 hv8 hm7
        refine fz_iload_n kX11_isAhead rfl rfl ?_
        refine fz_iload_n kX11_isAhead rfl rfl ?_
        refine fz_icmp_ge (tgt := 71) kX11_isAhead rfl (by decide) (fun c9 => ?_) (fun c9 => ?_)
        · refine fz_iconst ⟨by decide, by decide⟩ kX11_isAhead rfl ?_
          exact fz_zret kX11_isAhead rfl rfl (by omega) ⟨rfl, _, rfl, (by omega)⟩
        · refine fz_aload_n kX11_isAhead rfl rfl ?_
          refine fz_getR (t := 90) kX11_isAhead rfl rfl ?_
          refine fz_iload_n kX11_isAhead rfl rfl ?_
          refine fz_ialdV (n := 4) (v := h 90 (x3.toNat)) kX11_isAhead rfl rfl (by omega) (by omega) rfl ?_
          have b10 : 0 ≤ h 90 (x3.toNat) ∧ h 90 (x3.toNat) ≤ 7 := hI.1 90 _
          refine fz_aload_n kX11_isAhead rfl rfl ?_
          refine fz_getR (t := 89) kX11_isAhead rfl rfl ?_
          refine fz_iload_n kX11_isAhead rfl rfl ?_
          refine fz_ialdV (n := 4) (v := h 89 (x3.toNat)) kX11_isAhead rfl rfl (by omega) (by omega) rfl ?_
          have b11 : 0 ≤ h 89 (x3.toNat) ∧ h 89 (x3.toNat) ≤ 7 := hI.1 89 _
          refine fz_icmp_eq (tgt := 65) kX11_isAhead rfl (by decide) (fun c12 => ?_) (fun c12 => ?_)
          · refine fz_iincN (ls' := [(2, fz_i (x3 + 1)), (0, fz_r 53), (1, fz_i n)]) kX11_isAhead rfl (by decide) rfl (by omega) rfl ?_
            refine fz_goto (tgt := 24) kX11_isAhead rfl (by decide) ?_
            exact ih6 (x3 + 1) (by omega) (by omega)
          · refine fz_aload_n kX11_isAhead rfl rfl ?_
            refine fz_getR (t := 90) kX11_isAhead rfl rfl ?_
            refine fz_iload_n kX11_isAhead rfl rfl ?_
            refine fz_ialdV (n := 4) (v := h 90 (x3.toNat)) kX11_isAhead rfl rfl (by omega) (by omega) rfl ?_
            refine fz_aload_n kX11_isAhead rfl rfl ?_
            refine fz_getR (t := 89) kX11_isAhead rfl rfl ?_
            refine fz_iload_n kX11_isAhead rfl rfl ?_
            refine fz_ialdV (n := 4) (v := h 89 (x3.toNat)) kX11_isAhead rfl rfl (by omega) (by omega) rfl ?_
            refine fz_icmp_ge (tgt := 63) kX11_isAhead rfl (by decide) (fun c13 => ?_) (fun c13 => ?_)
            · refine fz_iconst ⟨by decide, by decide⟩ kX11_isAhead rfl ?_
              exact fz_zret kX11_isAhead rfl rfl (by omega) ⟨rfl, _, rfl, (by omega)⟩
            · refine fz_iconst ⟨by decide, by decide⟩ kX11_isAhead rfl ?_
              refine fz_goto (tgt := 64) kX11_isAhead rfl (by decide) ?_
              exact fz_zret kX11_isAhead rfl rfl (by omega) ⟨rfl, _, rfl, (by omega)⟩
    exact lp5 _ 0 (by omega) (Nat.lt_succ_self _)
  · refine fz_iload_n kX11_isAhead rfl rfl ?_
    refine fz_aload_n kX11_isAhead rfl rfl ?_
    refine fz_getV (v := h 53 55) kX11_isAhead rfl rfl rfl ?_
    refine fz_icmp_ge (tgt := 20) kX11_isAhead rfl (by decide) (fun c14 => ?_) (fun c14 => ?_)
    · refine fz_iconst ⟨by decide, by decide⟩ kX11_isAhead rfl ?_
      exact fz_zret kX11_isAhead rfl rfl (by omega) ⟨rfl, _, rfl, (by omega)⟩
    · refine fz_iconst ⟨by decide, by decide⟩ kX11_isAhead rfl ?_
      refine fz_goto (tgt := 21) kX11_isAhead rfl (by decide) ?_
      exact fz_zret kX11_isAhead rfl rfl (by omega) ⟨rfl, _, rfl, (by omega)⟩

abbrev qX11_tries_4 (h : fz_H) (pe t hr su : Int) : fz_H → Option fz_V → Prop := fun h' r0 => fz_Iv h' ∧ fz_fr [(53, 54), (53, 55), (74, 99999), (75, 99999), (89, 99999), (90, 99999)] h h' ∧ fz_Xw h' ∧ r0 = none
set_option maxHeartbeats 1000000 in
set_option maxRecDepth 100000 in
theorem sX11_tries_4 (h : fz_H) (hI : fz_Iv h) (pe t hr su : Int) (hXw : fz_Xw h) (hp0 : 0 ≤ t ∧ t ≤ 7) : fz_R 1 mX11_tries 0 [(0, fz_r 53), (1, fz_i pe), (2, fz_i t), (3, fz_i hr), (4, fz_i 4), (5, fz_i su)] [] h (qX11_tries_4 h pe t hr su) := by
  refine fz_knowl (fun hk => ?_)
  have hr_pe : -2147483648 ≤ pe ∧ pe < 2147483648 := hk _ (List.Mem.tail _ (List.Mem.head _))
  have hr_t : -2147483648 ≤ t ∧ t < 2147483648 := hk _ (List.Mem.tail _ (List.Mem.tail _ (List.Mem.head _)))
  have hr_hr : -2147483648 ≤ hr ∧ hr < 2147483648 := hk _ (List.Mem.tail _ (List.Mem.tail _ (List.Mem.tail _ (List.Mem.head _))))
  have hr_su : -2147483648 ≤ su ∧ su < 2147483648 := hk _ (List.Mem.tail _ (List.Mem.tail _ (List.Mem.tail _ (List.Mem.tail _ (List.Mem.tail _ (List.Mem.head _))))))
  clear hk
  have hf : fz_fr [(53, 54), (53, 55), (74, 99999), (75, 99999), (89, 99999), (90, 99999)] h h := fz_fr_rf
  refine fz_iload kX11_tries rfl rfl ?_
  refine fz_aload_n kX11_tries rfl rfl ?_
  refine fz_getV (v := h 53 54) kX11_tries rfl rfl rfl ?_
  have b1 : (-2147483648) ≤ h 53 54 ∧ h 53 54 ≤ 2147483647 := hI.1 53 _
  refine fz_icmp_gt (tgt := 27) kX11_tries rfl (by decide) (fun c2 => ?_) (fun c2 => ?_)
  · refine fz_aload_n kX11_tries rfl rfl ?_
    refine fz_iload kX11_tries rfl rfl ?_
    refine fz_putI kX11_tries rfl rfl rfl ?_
    refine fz_nmu (S := [(53, 54), (53, 55), (74, 99999), (75, 99999), (89, 99999), (90, 99999)]) (h0 := h) (fz_Iv_up hI (by decide) (show ((-2147483648) : Int) ≤ su by omega) (show (su : Int) ≤ 2147483647 by omega)) (fz_fr_up hf rfl) (fun H3 hI4 hf5 e6 => ?_)
    have k7 : H3 53 54 = su := by rw [e6]; exact fz_up_e
    have hXw8 : fz_Xw H3 := fz_Xw_eq (by rw [e6]; exact fz_up_s (by decide)) (by rw [e6]; exact fz_up_ne (by decide)) (by rw [e6]; exact fz_up_ne (by decide)) (by rw [e6]; exact fz_up_ne (by decide)) (by rw [e6]; exact fz_up_ne (by decide)) hXw
    clear e6
    refine fz_aload_n kX11_tries rfl rfl ?_
    refine fz_iload kX11_tries rfl rfl ?_
    refine fz_putI kX11_tries rfl rfl rfl ?_
    refine fz_nmu (S := [(53, 54), (53, 55), (74, 99999), (75, 99999), (89, 99999), (90, 99999)]) (h0 := h) (fz_Iv_up hI4 (by decide) (show (0 : Int) ≤ 4 by decide) (show (4 : Int) ≤ 4 by decide)) (fz_fr_up hf5 rfl) (fun H9 hI10 hf11 e12 => ?_)
    have k13 : H9 53 54 = su := by rw [e12]; exact (fz_up_s (by decide)).trans k7
    have k14 : H9 53 55 = 4 := by rw [e12]; exact fz_up_e
    have hXw15 : fz_Xw H9 := fz_Xw_eq (by rw [e12]; exact fz_up_s (by decide)) (by rw [e12]; exact fz_up_ne (by decide)) (by rw [e12]; exact fz_up_ne (by decide)) (by rw [e12]; exact fz_up_ne (by decide)) (by rw [e12]; exact fz_up_ne (by decide)) hXw8
    clear e12
    refine fz_iconst ⟨by decide, by decide⟩ kX11_tries rfl ?_
    refine fz_istore (ls' := [(6, fz_i 0), (0, fz_r 53), (1, fz_i pe), (2, fz_i t), (3, fz_i hr), (4, fz_i 4), (5, fz_i su)]) kX11_tries rfl (by decide) rfl ?_
    have lp22 : ∀ (n21 : Nat) (x16 : Int) (H18 : fz_H), fz_Iv H18 → fz_fr [(53, 54), (53, 55), (74, 99999), (75, 99999), (89, 99999), (90, 99999)] h H18 → fz_Xw H18 → (0 ≤ x16 ∧ x16 ≤ 2147483647) → (4 - x16).toNat < n21 → fz_R 1 mX11_tries 42 [(6, fz_i x16), (0, fz_r 53), (1, fz_i pe), (2, fz_i t), (3, fz_i hr), (4, fz_i 4), (5, fz_i su)] [] H18 (qX11_tries_4 h pe t hr su) := by
      intro n21
      induction n21 with
      | zero => intro x16 H18 hI19 hf20 hXw17 hv25 hm24; exact absurd hm24 (by omega)
      | succ n21 ih23 =>
        intro x16 H18 hI19 hf20 hXw17 hv25 hm24
        refine fz_iload kX11_tries rfl rfl ?_
        refine fz_iload kX11_tries rfl rfl ?_
        refine fz_icmp_ge (tgt := 69) kX11_tries rfl (by decide) (fun c26 => ?_) (fun c26 => ?_)
        · refine fz_iload kX11_tries rfl rfl ?_
          refine fz_iconst ⟨by decide, by decide⟩ kX11_tries rfl ?_
          refine fz_icmp_ne (tgt := 76) kX11_tries rfl (by decide) (fun c27 => ?_) (fun c27 => ?_)
          · exfalso; omega
          · exact fz_vret kX11_tries rfl rfl ⟨hI19, hf20, hXw17, rfl⟩
        · refine fz_aload_n kX11_tries rfl rfl ?_
          refine fz_getR (t := 89) kX11_tries rfl rfl ?_
          refine fz_iload kX11_tries rfl rfl ?_
          refine fz_aload_n kX11_tries rfl rfl ?_
          refine fz_getR (t := 90) kX11_tries rfl rfl ?_
          refine fz_iload kX11_tries rfl rfl ?_
          obtain ⟨v28, e29⟩ : ∃ z, H18 90 (x16.toNat) = z := ⟨_, rfl⟩
          refine fz_ialdV (n := 4) (v := v28) kX11_tries rfl rfl (by omega) (by omega) e29 ?_
          have b30 : 0 ≤ v28 ∧ v28 ≤ 7 := by rw [← e29]; exact hI19.1 90 _
          refine fz_iast (n := 4) kX11_tries rfl rfl (by omega) (by omega) ?_
          refine fz_nmu (S := [(53, 54), (53, 55), (74, 99999), (75, 99999), (89, 99999), (90, 99999)]) (h0 := h) (fz_Iv_up hI19 (by decide) (show (0 : Int) ≤ v28 by omega) (show (v28 : Int) ≤ 7 by omega)) (fz_fr_up hf20 rfl) (fun H31 hI32 hf33 e34 => ?_)
          have hXw35 : fz_Xw H31 := fz_Xw_eq (by rw [e34]; exact fz_up_o (by decide)) (by rw [e34]; exact fz_up_ne (by decide)) (by rw [e34]; exact fz_up_ne (by decide)) (by rw [e34]; exact fz_up_ne (by decide)) (by rw [e34]; exact fz_up_ne (by decide)) hXw17
          clear e34
          refine fz_iincN (ls' := [(6, fz_i (x16 + 1)), (0, fz_r 53), (1, fz_i pe), (2, fz_i t), (3, fz_i hr), (4, fz_i 4), (5, fz_i su)]) kX11_tries rfl (by decide) rfl (by omega) rfl ?_
          refine fz_goto (tgt := 42) kX11_tries rfl (by decide) ?_
          exact ih23 (x16 + 1) H31 hI32 hf33 hXw35 (by omega) (by omega)
    exact lp22 _ 0 H9 hI10 hf11 hXw15 (by omega) (Nat.lt_succ_self _)
  · refine fz_iload kX11_tries rfl rfl ?_
    refine fz_aload_n kX11_tries rfl rfl ?_
    refine fz_getV (v := h 53 54) kX11_tries rfl rfl rfl ?_
    refine fz_icmp_ne (tgt := 69) kX11_tries rfl (by decide) (fun c36 => ?_) (fun c36 => ?_)
    · refine fz_iload kX11_tries rfl rfl ?_
      refine fz_iconst ⟨by decide, by decide⟩ kX11_tries rfl ?_
      refine fz_icmp_ne (tgt := 76) kX11_tries rfl (by decide) (fun c37 => ?_) (fun c37 => ?_)
      · exfalso; omega
      · exact fz_vret kX11_tries rfl rfl ⟨hI, hf, hXw, rfl⟩
    · refine fz_aload_n kX11_tries rfl rfl ?_
      refine fz_iload kX11_tries rfl rfl ?_
      refine fz_callV (d' := 0) (M' := mX11_isAhead) (As := [fz_i 4]) (st := []) kX11_tries rfl rfl vX11_isAhead rfl rfl rfl rfl (Nat.le_of_ble_eq_true rfl) (Nat.le_of_ble_eq_true rfl) (by decide) (sX11_isAhead h hI 4 (by omega)) (fun H38 r39 q40 o41 => ?_)
      obtain ⟨e42, y43, rfl, p44⟩ := q40
      subst H38
      clear o41
      refine fz_if_eq (tgt := 69) kX11_tries rfl (by decide) (fun c45 => ?_) (fun c45 => ?_)
      · refine fz_iload kX11_tries rfl rfl ?_
        refine fz_iconst ⟨by decide, by decide⟩ kX11_tries rfl ?_
        refine fz_icmp_ne (tgt := 76) kX11_tries rfl (by decide) (fun c46 => ?_) (fun c46 => ?_)
        · exfalso; omega
        · exact fz_vret kX11_tries rfl rfl ⟨hI, hf, hXw, rfl⟩
      · refine fz_aload_n kX11_tries rfl rfl ?_
        refine fz_iload kX11_tries rfl rfl ?_
        refine fz_putI kX11_tries rfl rfl rfl ?_
        refine fz_nmu (S := [(53, 54), (53, 55), (74, 99999), (75, 99999), (89, 99999), (90, 99999)]) (h0 := h) (fz_Iv_up hI (by decide) (show ((-2147483648) : Int) ≤ su by omega) (show (su : Int) ≤ 2147483647 by omega)) (fz_fr_up hf rfl) (fun H47 hI48 hf49 e50 => ?_)
        have k51 : H47 53 54 = su := by rw [e50]; exact fz_up_e
        have hXw52 : fz_Xw H47 := fz_Xw_eq (by rw [e50]; exact fz_up_s (by decide)) (by rw [e50]; exact fz_up_ne (by decide)) (by rw [e50]; exact fz_up_ne (by decide)) (by rw [e50]; exact fz_up_ne (by decide)) (by rw [e50]; exact fz_up_ne (by decide)) hXw
        clear e50
        refine fz_aload_n kX11_tries rfl rfl ?_
        refine fz_iload kX11_tries rfl rfl ?_
        refine fz_putI kX11_tries rfl rfl rfl ?_
        refine fz_nmu (S := [(53, 54), (53, 55), (74, 99999), (75, 99999), (89, 99999), (90, 99999)]) (h0 := h) (fz_Iv_up hI48 (by decide) (show (0 : Int) ≤ 4 by decide) (show (4 : Int) ≤ 4 by decide)) (fz_fr_up hf49 rfl) (fun H53 hI54 hf55 e56 => ?_)
        have k57 : H53 53 54 = su := by rw [e56]; exact (fz_up_s (by decide)).trans k51
        have k58 : H53 53 55 = 4 := by rw [e56]; exact fz_up_e
        have hXw59 : fz_Xw H53 := fz_Xw_eq (by rw [e56]; exact fz_up_s (by decide)) (by rw [e56]; exact fz_up_ne (by decide)) (by rw [e56]; exact fz_up_ne (by decide)) (by rw [e56]; exact fz_up_ne (by decide)) (by rw [e56]; exact fz_up_ne (by decide)) hXw52
        clear e56
        refine fz_iconst ⟨by decide, by decide⟩ kX11_tries rfl ?_
        refine fz_istore (ls' := [(6, fz_i 0), (0, fz_r 53), (1, fz_i pe), (2, fz_i t), (3, fz_i hr), (4, fz_i 4), (5, fz_i su)]) kX11_tries rfl (by decide) rfl ?_
        have lp66 : ∀ (n65 : Nat) (x60 : Int) (H62 : fz_H), fz_Iv H62 → fz_fr [(53, 54), (53, 55), (74, 99999), (75, 99999), (89, 99999), (90, 99999)] h H62 → fz_Xw H62 → (0 ≤ x60 ∧ x60 ≤ 2147483647) → (4 - x60).toNat < n65 → fz_R 1 mX11_tries 42 [(6, fz_i x60), (0, fz_r 53), (1, fz_i pe), (2, fz_i t), (3, fz_i hr), (4, fz_i 4), (5, fz_i su)] [] H62 (qX11_tries_4 h pe t hr su) := by
          intro n65
          induction n65 with
          | zero => intro x60 H62 hI63 hf64 hXw61 hv69 hm68; exact absurd hm68 (by omega)
          | succ n65 ih67 =>
            intro x60 H62 hI63 hf64 hXw61 hv69 hm68
            refine fz_iload kX11_tries rfl rfl ?_
            refine fz_iload kX11_tries rfl rfl ?_
            refine fz_icmp_ge (tgt := 69) kX11_tries rfl (by decide) (fun c70 => ?_) (fun c70 => ?_)
            · refine fz_iload kX11_tries rfl rfl ?_
              refine fz_iconst ⟨by decide, by decide⟩ kX11_tries rfl ?_
              refine fz_icmp_ne (tgt := 76) kX11_tries rfl (by decide) (fun c71 => ?_) (fun c71 => ?_)
              · exfalso; omega
              · exact fz_vret kX11_tries rfl rfl ⟨hI63, hf64, hXw61, rfl⟩
            · refine fz_aload_n kX11_tries rfl rfl ?_
              refine fz_getR (t := 89) kX11_tries rfl rfl ?_
              refine fz_iload kX11_tries rfl rfl ?_
              refine fz_aload_n kX11_tries rfl rfl ?_
              refine fz_getR (t := 90) kX11_tries rfl rfl ?_
              refine fz_iload kX11_tries rfl rfl ?_
              obtain ⟨v72, e73⟩ : ∃ z, H62 90 (x60.toNat) = z := ⟨_, rfl⟩
              refine fz_ialdV (n := 4) (v := v72) kX11_tries rfl rfl (by omega) (by omega) e73 ?_
              have b74 : 0 ≤ v72 ∧ v72 ≤ 7 := by rw [← e73]; exact hI63.1 90 _
              refine fz_iast (n := 4) kX11_tries rfl rfl (by omega) (by omega) ?_
              refine fz_nmu (S := [(53, 54), (53, 55), (74, 99999), (75, 99999), (89, 99999), (90, 99999)]) (h0 := h) (fz_Iv_up hI63 (by decide) (show (0 : Int) ≤ v72 by omega) (show (v72 : Int) ≤ 7 by omega)) (fz_fr_up hf64 rfl) (fun H75 hI76 hf77 e78 => ?_)
              have hXw79 : fz_Xw H75 := fz_Xw_eq (by rw [e78]; exact fz_up_o (by decide)) (by rw [e78]; exact fz_up_ne (by decide)) (by rw [e78]; exact fz_up_ne (by decide)) (by rw [e78]; exact fz_up_ne (by decide)) (by rw [e78]; exact fz_up_ne (by decide)) hXw61
              clear e78
              refine fz_iincN (ls' := [(6, fz_i (x60 + 1)), (0, fz_r 53), (1, fz_i pe), (2, fz_i t), (3, fz_i hr), (4, fz_i 4), (5, fz_i su)]) kX11_tries rfl (by decide) rfl (by omega) rfl ?_
              refine fz_goto (tgt := 42) kX11_tries rfl (by decide) ?_
              exact ih67 (x60 + 1) H75 hI76 hf77 hXw79 (by omega) (by omega)
        exact lp66 _ 0 H53 hI54 hf55 hXw59 (by omega) (Nat.lt_succ_self _)

abbrev qX11_tries_g (h : fz_H) (pe t hr su : Int) : fz_H → Option fz_V → Prop := fun h' r0 => fz_Iv h' ∧ fz_fr [(53, 54), (53, 55), (74, 99999), (75, 99999), (89, 99999), (90, 99999)] h h' ∧ fz_Xw h' ∧ r0 = none
set_option maxHeartbeats 1000000 in
set_option maxRecDepth 100000 in
theorem sX11_tries_g (L : Int) (D De : Nat) (hL : 1 ≤ L ∧ L ≤ 3) (hD : De < D ∧ 5 ≤ D) (ih : ∀ (h : fz_H) (hI : fz_Iv h) (pe t hr su : Int) (hXw : fz_Xw h) (hp0 : 0 ≤ t ∧ t ≤ 7), fz_R De mX11_tries 0 [(0, fz_r 53), (1, fz_i pe), (2, fz_i t), (3, fz_i hr), (4, fz_i (L + 1)), (5, fz_i su)] [] h (qX11_tries_g h pe t hr su)) (h : fz_H) (hI : fz_Iv h) (pe t hr su : Int) (hXw : fz_Xw h) (hp0 : 0 ≤ t ∧ t ≤ 7) : fz_R D mX11_tries 0 [(0, fz_r 53), (1, fz_i pe), (2, fz_i t), (3, fz_i hr), (4, fz_i L), (5, fz_i su)] [] h (qX11_tries_g h pe t hr su) := by
  refine fz_knowl (fun hk => ?_)
  have hr_pe : -2147483648 ≤ pe ∧ pe < 2147483648 := hk _ (List.Mem.tail _ (List.Mem.head _))
  have hr_t : -2147483648 ≤ t ∧ t < 2147483648 := hk _ (List.Mem.tail _ (List.Mem.tail _ (List.Mem.head _)))
  have hr_hr : -2147483648 ≤ hr ∧ hr < 2147483648 := hk _ (List.Mem.tail _ (List.Mem.tail _ (List.Mem.tail _ (List.Mem.head _))))
  have hr_su : -2147483648 ≤ su ∧ su < 2147483648 := hk _ (List.Mem.tail _ (List.Mem.tail _ (List.Mem.tail _ (List.Mem.tail _ (List.Mem.tail _ (List.Mem.head _))))))
  clear hk
  have hf : fz_fr [(53, 54), (53, 55), (74, 99999), (75, 99999), (89, 99999), (90, 99999)] h h := fz_fr_rf
  refine fz_iload kX11_tries rfl rfl ?_
  refine fz_aload_n kX11_tries rfl rfl ?_
  refine fz_getV (v := h 53 54) kX11_tries rfl rfl rfl ?_
  have b1 : (-2147483648) ≤ h 53 54 ∧ h 53 54 ≤ 2147483647 := hI.1 53 _
  refine fz_icmp_gt (tgt := 27) kX11_tries rfl (by decide) (fun c2 => ?_) (fun c2 => ?_)
  · refine fz_aload_n kX11_tries rfl rfl ?_
    refine fz_iload kX11_tries rfl rfl ?_
    refine fz_putI kX11_tries rfl rfl rfl ?_
    refine fz_nmu (S := [(53, 54), (53, 55), (74, 99999), (75, 99999), (89, 99999), (90, 99999)]) (h0 := h) (fz_Iv_up hI (by decide) (show ((-2147483648) : Int) ≤ su by omega) (show (su : Int) ≤ 2147483647 by omega)) (fz_fr_up hf rfl) (fun H3 hI4 hf5 e6 => ?_)
    have k7 : H3 53 54 = su := by rw [e6]; exact fz_up_e
    have hXw8 : fz_Xw H3 := fz_Xw_eq (by rw [e6]; exact fz_up_s (by decide)) (by rw [e6]; exact fz_up_ne (by decide)) (by rw [e6]; exact fz_up_ne (by decide)) (by rw [e6]; exact fz_up_ne (by decide)) (by rw [e6]; exact fz_up_ne (by decide)) hXw
    clear e6
    refine fz_aload_n kX11_tries rfl rfl ?_
    refine fz_iload kX11_tries rfl rfl ?_
    refine fz_putI kX11_tries rfl rfl rfl ?_
    refine fz_nmu (S := [(53, 54), (53, 55), (74, 99999), (75, 99999), (89, 99999), (90, 99999)]) (h0 := h) (fz_Iv_up hI4 (by decide) (show (0 : Int) ≤ L by omega) (show (L : Int) ≤ 4 by omega)) (fz_fr_up hf5 rfl) (fun H9 hI10 hf11 e12 => ?_)
    have k13 : H9 53 54 = su := by rw [e12]; exact (fz_up_s (by decide)).trans k7
    have k14 : H9 53 55 = L := by rw [e12]; exact fz_up_e
    have hXw15 : fz_Xw H9 := fz_Xw_eq (by rw [e12]; exact fz_up_s (by decide)) (by rw [e12]; exact fz_up_ne (by decide)) (by rw [e12]; exact fz_up_ne (by decide)) (by rw [e12]; exact fz_up_ne (by decide)) (by rw [e12]; exact fz_up_ne (by decide)) hXw8
    clear e12
    refine fz_iconst ⟨by decide, by decide⟩ kX11_tries rfl ?_
    refine fz_istore (ls' := [(6, fz_i 0), (0, fz_r 53), (1, fz_i pe), (2, fz_i t), (3, fz_i hr), (4, fz_i L), (5, fz_i su)]) kX11_tries rfl (by decide) rfl ?_
    have lp22 : ∀ (n21 : Nat) (x16 : Int) (H18 : fz_H), fz_Iv H18 → fz_fr [(53, 54), (53, 55), (74, 99999), (75, 99999), (89, 99999), (90, 99999)] h H18 → fz_Xw H18 → (0 ≤ x16 ∧ x16 ≤ 2147483647) → (L - x16).toNat < n21 → fz_R D mX11_tries 42 [(6, fz_i x16), (0, fz_r 53), (1, fz_i pe), (2, fz_i t), (3, fz_i hr), (4, fz_i L), (5, fz_i su)] [] H18 (qX11_tries_g h pe t hr su) := by
      intro n21
      induction n21 with
      | zero => intro x16 H18 hI19 hf20 hXw17 hv25 hm24; exact absurd hm24 (by omega)
      | succ n21 ih23 =>
        intro x16 H18 hI19 hf20 hXw17 hv25 hm24
        refine fz_iload kX11_tries rfl rfl ?_
        refine fz_iload kX11_tries rfl rfl ?_
        refine fz_icmp_ge (tgt := 69) kX11_tries rfl (by decide) (fun c26 => ?_) (fun c26 => ?_)
        · refine fz_iload kX11_tries rfl rfl ?_
          refine fz_iconst ⟨by decide, by decide⟩ kX11_tries rfl ?_
          refine fz_icmp_ne (tgt := 76) kX11_tries rfl (by decide) (fun c27 => ?_) (fun c27 => ?_)
          · refine fz_iconst ⟨by decide, by decide⟩ kX11_tries rfl ?_
            refine fz_istore (ls' := [(6, fz_i 0), (0, fz_r 53), (1, fz_i pe), (2, fz_i t), (3, fz_i hr), (4, fz_i L), (5, fz_i su)]) kX11_tries rfl (by decide) rfl ?_
            have lp34 : ∀ (n33 : Nat) (x28 : Int) (H30 : fz_H), fz_Iv H30 → fz_fr [(53, 54), (53, 55), (74, 99999), (75, 99999), (89, 99999), (90, 99999)] h H30 → fz_Xw H30 → (0 ≤ x28 ∧ x28 ≤ 2147483647) → ((h 53 2) - x28).toNat < n33 → fz_R D mX11_tries 79 [(6, fz_i x28), (0, fz_r 53), (1, fz_i pe), (2, fz_i t), (3, fz_i hr), (4, fz_i L), (5, fz_i su)] [] H30 (qX11_tries_g h pe t hr su) := by
              intro n33
              induction n33 with
              | zero => intro x28 H30 hI31 hf32 hXw29 hv37 hm36; exact absurd hm36 (by omega)
              | succ n33 ih35 =>
                intro x28 H30 hI31 hf32 hXw29 hv37 hm36
                refine fz_iload kX11_tries rfl rfl ?_
                refine fz_aload_n kX11_tries rfl rfl ?_
                refine fz_getV (v := h 53 2) kX11_tries rfl rfl (hf32 53 2 rfl) ?_
                have b38 : 0 ≤ h 53 2 ∧ h 53 2 ≤ 12 := hI.1 53 _
                refine fz_icmp_ge (tgt := 217) kX11_tries rfl (by decide) (fun c39 => ?_) (fun c39 => ?_)
                · exact fz_vret kX11_tries rfl rfl ⟨hI31, hf32, hXw29, rfl⟩
                · refine fz_aload_n kX11_tries rfl rfl ?_
                  refine fz_getR (t := 55) kX11_tries rfl rfl ?_
                  refine fz_iload kX11_tries rfl rfl ?_
                  refine fz_ialdV (n := 12) (v := h 55 (x28.toNat)) kX11_tries rfl rfl (by omega) (by omega) (hf32 55 _ rfl) ?_
                  have b40 : 0 ≤ h 55 (x28.toNat) ∧ h 55 (x28.toNat) ≤ 7 := hI.1 55 _
                  refine fz_iload_n kX11_tries rfl rfl ?_
                  refine fz_icmp_eq (tgt := 113) kX11_tries rfl (by decide) (fun c41 => ?_) (fun c41 => ?_)
                  · refine fz_aload_n kX11_tries rfl rfl ?_
                    refine fz_getR (t := 55) kX11_tries rfl rfl ?_
                    refine fz_iload kX11_tries rfl rfl ?_
                    refine fz_ialdV (n := 12) (v := h 55 (x28.toNat)) kX11_tries rfl rfl (by omega) (by omega) (hf32 55 _ rfl) ?_
                    refine fz_iload_n kX11_tries rfl rfl ?_
                    refine fz_icmp_ne (tgt := 134) kX11_tries rfl (by decide) (fun c42 => ?_) (fun c42 => ?_)
                    · refine fz_aload_n kX11_tries rfl rfl ?_
                      refine fz_getR (t := 55) kX11_tries rfl rfl ?_
                      refine fz_iload kX11_tries rfl rfl ?_
                      refine fz_ialdV (n := 12) (v := h 55 (x28.toNat)) kX11_tries rfl rfl (by omega) (by omega) (hf32 55 _ rfl) ?_
                      refine fz_istore (ls' := [(7, fz_i (h 55 (x28.toNat))), (6, fz_i x28), (0, fz_r 53), (1, fz_i pe), (2, fz_i t), (3, fz_i hr), (4, fz_i L), (5, fz_i su)]) kX11_tries rfl (by decide) rfl ?_
                      refine fz_iload_n kX11_tries rfl rfl ?_
                      refine fz_aload_n kX11_tries rfl rfl ?_
                      refine fz_getR (t := 57) kX11_tries rfl rfl ?_
                      refine fz_iload kX11_tries rfl rfl ?_
                      refine fz_ialdV (n := 12) (v := h 57 (x28.toNat)) kX11_tries rfl rfl (by omega) (by omega) (hf32 57 _ rfl) ?_
                      have b43 : 0 ≤ h 57 (x28.toNat) ∧ h 57 (x28.toNat) ≤ 24 := hI.1 57 _
                      refine fz_iadd kX11_tries rfl ?_
                      refine fz_nmw (fun z44 e45 => ?_)
                      refine fz_istore (ls' := [(8, fz_i z44), (7, fz_i (h 55 (x28.toNat))), (6, fz_i x28), (0, fz_r 53), (1, fz_i pe), (2, fz_i t), (3, fz_i hr), (4, fz_i L), (5, fz_i su)]) kX11_tries rfl (by decide) rfl ?_
                      refine fz_iload kX11_tries rfl rfl ?_
                      refine fz_sipush ⟨by decide, by decide⟩ kX11_tries rfl ?_
                      refine fz_icmp_gt (tgt := 211) kX11_tries rfl (by decide) (fun c46 => ?_) (fun c46 => ?_)
                      · refine fz_iincN (ls' := [(6, fz_i (x28 + 1)), (8, fz_i z44), (7, fz_i (h 55 (x28.toNat))), (0, fz_r 53), (1, fz_i pe), (2, fz_i t), (3, fz_i hr), (4, fz_i L), (5, fz_i su)]) kX11_tries rfl (by decide) rfl (by omega) rfl ?_
                        refine fz_goto (tgt := 79) kX11_tries rfl (by decide) ?_
                        refine fz_sub (fz_pk_sub (ls' := [(6, fz_i (x28 + 1)), (0, fz_r 53), (1, fz_i pe), (2, fz_i t), (3, fz_i hr), (4, fz_i L), (5, fz_i su)]) [0, 3, 4, 5, 6, 7, 8] rfl) ?_
                        exact ih35 (x28 + 1) H30 hI31 hf32 hXw29 (by omega) (by omega)
                      · refine fz_aload_n kX11_tries rfl rfl ?_
                        refine fz_iload_n kX11_tries rfl rfl ?_
                        refine fz_iload kX11_tries rfl rfl ?_
                        refine fz_iload kX11_tries rfl rfl ?_
                        refine fz_callV (d' := 4) (M' := mX11_isArrested) (As := [fz_i pe, fz_i (h 55 (x28.toNat)), fz_i z44]) (st := []) kX11_tries rfl rfl vX11_isArrested rfl rfl rfl rfl (Nat.le_of_ble_eq_true rfl) (Nat.le_of_ble_eq_true rfl) (by omega) (sX11_isArrested H30 hI31 pe (h 55 (x28.toNat)) z44 hXw29 (by omega)) (fun H47 r48 q49 o50 => ?_)
                        obtain ⟨hI51, hf52, hXw53, y54, rfl, p55⟩ := q49
                        clear o50
                        have hf56 := fz_fr_tr hf32 hf52 (show fz_su [(74, 99999), (75, 99999)] [(53, 54), (53, 55), (74, 99999), (75, 99999), (89, 99999), (90, 99999)] = true from rfl)
                        refine fz_if_eq (tgt := 177) kX11_tries rfl (by decide) (fun c57 => ?_) (fun c57 => ?_)
                        · refine fz_aload_n kX11_tries rfl rfl ?_
                          refine fz_getR (t := 90) kX11_tries rfl rfl ?_
                          refine fz_iload kX11_tries rfl rfl ?_
                          refine fz_iload kX11_tries rfl rfl ?_
                          refine fz_iast (n := 4) kX11_tries rfl rfl (by omega) (by omega) ?_
                          refine fz_nmu (S := [(53, 54), (53, 55), (74, 99999), (75, 99999), (89, 99999), (90, 99999)]) (h0 := h) (fz_Iv_up hI51 (by decide) (show (0 : Int) ≤ (h 55 (x28.toNat)) by omega) (show ((h 55 (x28.toNat)) : Int) ≤ 7 by omega)) (fz_fr_up hf56 rfl) (fun H58 hI59 hf60 e61 => ?_)
                          have hXw62 : fz_Xw H58 := fz_Xw_eq (by rw [e61]; exact fz_up_o (by decide)) (by rw [e61]; exact fz_up_ne (by decide)) (by rw [e61]; exact fz_up_ne (by decide)) (by rw [e61]; exact fz_up_ne (by decide)) (by rw [e61]; exact fz_up_ne (by decide)) hXw53
                          clear e61
                          refine fz_aload_n kX11_tries rfl rfl ?_
                          refine fz_iload_n kX11_tries rfl rfl ?_
                          refine fz_iload kX11_tries rfl rfl ?_
                          refine fz_iload kX11_tries rfl rfl ?_
                          refine fz_iload kX11_tries rfl rfl ?_
                          refine fz_iconst ⟨by decide, by decide⟩ kX11_tries rfl ?_
                          refine fz_iaddN kX11_tries rfl (by omega) ?_
                          refine fz_eqi (y := (L + 1)) (by omega) ?_
                          refine fz_iload kX11_tries rfl rfl ?_
                          refine fz_aload_n kX11_tries rfl rfl ?_
                          refine fz_iload_n kX11_tries rfl rfl ?_
                          refine fz_iload kX11_tries rfl rfl ?_
                          refine fz_iload kX11_tries rfl rfl ?_
                          refine fz_callV (d' := 4) (M' := mX11_receivedIn) (As := [fz_i pe, fz_i (h 55 (x28.toNat)), fz_i z44]) (st := [fz_i su, fz_i (L + 1), fz_i z44, fz_i (h 55 (x28.toNat)), fz_i pe, fz_r 53]) kX11_tries rfl rfl vX11_receivedIn rfl rfl rfl rfl (Nat.le_of_ble_eq_true rfl) (Nat.le_of_ble_eq_true rfl) (by omega) (sX11_receivedIn H58 hI59 pe (h 55 (x28.toNat)) z44 hXw62 (by omega)) (fun H63 r64 q65 o66 => ?_)
                          obtain ⟨hI67, hf68, hXw69, y71, rfl, f70⟩ := q65
                          clear o66
                          have hf72 := fz_fr_tr hf60 hf68 (show fz_su [(74, 99999), (75, 99999)] [(53, 54), (53, 55), (74, 99999), (75, 99999), (89, 99999), (90, 99999)] = true from rfl)
                          refine fz_iadd kX11_tries rfl ?_
                          refine fz_nmw (fun z73 e74 => ?_)
                          refine fz_callV (d' := De) (M' := mX11_tries) (As := [fz_i pe, fz_i (h 55 (x28.toNat)), fz_i z44, fz_i (L + 1), fz_i z73]) (st := []) kX11_tries rfl rfl vX11_tries rfl rfl rfl rfl (Nat.le_of_ble_eq_true rfl) (Nat.le_of_ble_eq_true rfl) (by omega) (ih H63 hI67 pe (h 55 (x28.toNat)) z44 z73 hXw69 (by omega)) (fun H75 r76 q77 o78 => ?_)
                          obtain ⟨hI79, hf80, hXw81, rfl⟩ := q77
                          clear o78
                          have hf82 := fz_fr_tr hf72 hf80 (show fz_su [(53, 54), (53, 55), (74, 99999), (75, 99999), (89, 99999), (90, 99999)] [(53, 54), (53, 55), (74, 99999), (75, 99999), (89, 99999), (90, 99999)] = true from rfl)
                          refine fz_iincN (ls' := [(6, fz_i (x28 + 1)), (8, fz_i z44), (7, fz_i (h 55 (x28.toNat))), (0, fz_r 53), (1, fz_i pe), (2, fz_i t), (3, fz_i hr), (4, fz_i L), (5, fz_i su)]) kX11_tries rfl (by decide) rfl (by omega) rfl ?_
                          refine fz_goto (tgt := 79) kX11_tries rfl (by decide) ?_
                          refine fz_sub (fz_pk_sub (ls' := [(6, fz_i (x28 + 1)), (0, fz_r 53), (1, fz_i pe), (2, fz_i t), (3, fz_i hr), (4, fz_i L), (5, fz_i su)]) [0, 3, 4, 5, 6, 7, 8] rfl) ?_
                          exact ih35 (x28 + 1) H75 hI79 hf82 hXw81 (by omega) (by omega)
                        · refine fz_goto (tgt := 211) kX11_tries rfl (by decide) ?_
                          refine fz_iincN (ls' := [(6, fz_i (x28 + 1)), (8, fz_i z44), (7, fz_i (h 55 (x28.toNat))), (0, fz_r 53), (1, fz_i pe), (2, fz_i t), (3, fz_i hr), (4, fz_i L), (5, fz_i su)]) kX11_tries rfl (by decide) rfl (by omega) rfl ?_
                          refine fz_goto (tgt := 79) kX11_tries rfl (by decide) ?_
                          refine fz_sub (fz_pk_sub (ls' := [(6, fz_i (x28 + 1)), (0, fz_r 53), (1, fz_i pe), (2, fz_i t), (3, fz_i hr), (4, fz_i L), (5, fz_i su)]) [0, 3, 4, 5, 6, 7, 8] rfl) ?_
                          exact ih35 (x28 + 1) H47 hI51 hf56 hXw53 (by omega) (by omega)
                    · refine fz_aload_n kX11_tries rfl rfl ?_
                      refine fz_getR (t := 56) kX11_tries rfl rfl ?_
                      refine fz_iload kX11_tries rfl rfl ?_
                      refine fz_ialdV (n := 12) (v := h 56 (x28.toNat)) kX11_tries rfl rfl (by omega) (by omega) (hf32 56 _ rfl) ?_
                      have b83 : 0 ≤ h 56 (x28.toNat) ∧ h 56 (x28.toNat) ≤ 7 := hI.1 56 _
                      refine fz_goto (tgt := 141) kX11_tries rfl (by decide) ?_
                      refine fz_istore (ls' := [(7, fz_i (h 56 (x28.toNat))), (6, fz_i x28), (0, fz_r 53), (1, fz_i pe), (2, fz_i t), (3, fz_i hr), (4, fz_i L), (5, fz_i su)]) kX11_tries rfl (by decide) rfl ?_
                      refine fz_iload_n kX11_tries rfl rfl ?_
                      refine fz_aload_n kX11_tries rfl rfl ?_
                      refine fz_getR (t := 57) kX11_tries rfl rfl ?_
                      refine fz_iload kX11_tries rfl rfl ?_
                      refine fz_ialdV (n := 12) (v := h 57 (x28.toNat)) kX11_tries rfl rfl (by omega) (by omega) (hf32 57 _ rfl) ?_
                      have b84 : 0 ≤ h 57 (x28.toNat) ∧ h 57 (x28.toNat) ≤ 24 := hI.1 57 _
                      refine fz_iadd kX11_tries rfl ?_
                      refine fz_nmw (fun z85 e86 => ?_)
                      refine fz_istore (ls' := [(8, fz_i z85), (7, fz_i (h 56 (x28.toNat))), (6, fz_i x28), (0, fz_r 53), (1, fz_i pe), (2, fz_i t), (3, fz_i hr), (4, fz_i L), (5, fz_i su)]) kX11_tries rfl (by decide) rfl ?_
                      refine fz_iload kX11_tries rfl rfl ?_
                      refine fz_sipush ⟨by decide, by decide⟩ kX11_tries rfl ?_
                      refine fz_icmp_gt (tgt := 211) kX11_tries rfl (by decide) (fun c87 => ?_) (fun c87 => ?_)
                      · refine fz_iincN (ls' := [(6, fz_i (x28 + 1)), (8, fz_i z85), (7, fz_i (h 56 (x28.toNat))), (0, fz_r 53), (1, fz_i pe), (2, fz_i t), (3, fz_i hr), (4, fz_i L), (5, fz_i su)]) kX11_tries rfl (by decide) rfl (by omega) rfl ?_
                        refine fz_goto (tgt := 79) kX11_tries rfl (by decide) ?_
                        refine fz_sub (fz_pk_sub (ls' := [(6, fz_i (x28 + 1)), (0, fz_r 53), (1, fz_i pe), (2, fz_i t), (3, fz_i hr), (4, fz_i L), (5, fz_i su)]) [0, 3, 4, 5, 6, 7, 8] rfl) ?_
                        exact ih35 (x28 + 1) H30 hI31 hf32 hXw29 (by omega) (by omega)
                      · refine fz_aload_n kX11_tries rfl rfl ?_
                        refine fz_iload_n kX11_tries rfl rfl ?_
                        refine fz_iload kX11_tries rfl rfl ?_
                        refine fz_iload kX11_tries rfl rfl ?_
                        refine fz_callV (d' := 4) (M' := mX11_isArrested) (As := [fz_i pe, fz_i (h 56 (x28.toNat)), fz_i z85]) (st := []) kX11_tries rfl rfl vX11_isArrested rfl rfl rfl rfl (Nat.le_of_ble_eq_true rfl) (Nat.le_of_ble_eq_true rfl) (by omega) (sX11_isArrested H30 hI31 pe (h 56 (x28.toNat)) z85 hXw29 (by omega)) (fun H88 r89 q90 o91 => ?_)
                        obtain ⟨hI92, hf93, hXw94, y95, rfl, p96⟩ := q90
                        clear o91
                        have hf97 := fz_fr_tr hf32 hf93 (show fz_su [(74, 99999), (75, 99999)] [(53, 54), (53, 55), (74, 99999), (75, 99999), (89, 99999), (90, 99999)] = true from rfl)
                        refine fz_if_eq (tgt := 177) kX11_tries rfl (by decide) (fun c98 => ?_) (fun c98 => ?_)
                        · refine fz_aload_n kX11_tries rfl rfl ?_
                          refine fz_getR (t := 90) kX11_tries rfl rfl ?_
                          refine fz_iload kX11_tries rfl rfl ?_
                          refine fz_iload kX11_tries rfl rfl ?_
                          refine fz_iast (n := 4) kX11_tries rfl rfl (by omega) (by omega) ?_
                          refine fz_nmu (S := [(53, 54), (53, 55), (74, 99999), (75, 99999), (89, 99999), (90, 99999)]) (h0 := h) (fz_Iv_up hI92 (by decide) (show (0 : Int) ≤ (h 56 (x28.toNat)) by omega) (show ((h 56 (x28.toNat)) : Int) ≤ 7 by omega)) (fz_fr_up hf97 rfl) (fun H99 hI100 hf101 e102 => ?_)
                          have hXw103 : fz_Xw H99 := fz_Xw_eq (by rw [e102]; exact fz_up_o (by decide)) (by rw [e102]; exact fz_up_ne (by decide)) (by rw [e102]; exact fz_up_ne (by decide)) (by rw [e102]; exact fz_up_ne (by decide)) (by rw [e102]; exact fz_up_ne (by decide)) hXw94
                          clear e102
                          refine fz_aload_n kX11_tries rfl rfl ?_
                          refine fz_iload_n kX11_tries rfl rfl ?_
                          refine fz_iload kX11_tries rfl rfl ?_
                          refine fz_iload kX11_tries rfl rfl ?_
                          refine fz_iload kX11_tries rfl rfl ?_
                          refine fz_iconst ⟨by decide, by decide⟩ kX11_tries rfl ?_
                          refine fz_iaddN kX11_tries rfl (by omega) ?_
                          refine fz_eqi (y := (L + 1)) (by omega) ?_
                          refine fz_iload kX11_tries rfl rfl ?_
                          refine fz_aload_n kX11_tries rfl rfl ?_
                          refine fz_iload_n kX11_tries rfl rfl ?_
                          refine fz_iload kX11_tries rfl rfl ?_
                          refine fz_iload kX11_tries rfl rfl ?_
                          refine fz_callV (d' := 4) (M' := mX11_receivedIn) (As := [fz_i pe, fz_i (h 56 (x28.toNat)), fz_i z85]) (st := [fz_i su, fz_i (L + 1), fz_i z85, fz_i (h 56 (x28.toNat)), fz_i pe, fz_r 53]) kX11_tries rfl rfl vX11_receivedIn rfl rfl rfl rfl (Nat.le_of_ble_eq_true rfl) (Nat.le_of_ble_eq_true rfl) (by omega) (sX11_receivedIn H99 hI100 pe (h 56 (x28.toNat)) z85 hXw103 (by omega)) (fun H104 r105 q106 o107 => ?_)
                          obtain ⟨hI108, hf109, hXw110, y112, rfl, f111⟩ := q106
                          clear o107
                          have hf113 := fz_fr_tr hf101 hf109 (show fz_su [(74, 99999), (75, 99999)] [(53, 54), (53, 55), (74, 99999), (75, 99999), (89, 99999), (90, 99999)] = true from rfl)
                          refine fz_iadd kX11_tries rfl ?_
                          refine fz_nmw (fun z114 e115 => ?_)
                          refine fz_callV (d' := De) (M' := mX11_tries) (As := [fz_i pe, fz_i (h 56 (x28.toNat)), fz_i z85, fz_i (L + 1), fz_i z114]) (st := []) kX11_tries rfl rfl vX11_tries rfl rfl rfl rfl (Nat.le_of_ble_eq_true rfl) (Nat.le_of_ble_eq_true rfl) (by omega) (ih H104 hI108 pe (h 56 (x28.toNat)) z85 z114 hXw110 (by omega)) (fun H116 r117 q118 o119 => ?_)
                          obtain ⟨hI120, hf121, hXw122, rfl⟩ := q118
                          clear o119
                          have hf123 := fz_fr_tr hf113 hf121 (show fz_su [(53, 54), (53, 55), (74, 99999), (75, 99999), (89, 99999), (90, 99999)] [(53, 54), (53, 55), (74, 99999), (75, 99999), (89, 99999), (90, 99999)] = true from rfl)
                          refine fz_iincN (ls' := [(6, fz_i (x28 + 1)), (8, fz_i z85), (7, fz_i (h 56 (x28.toNat))), (0, fz_r 53), (1, fz_i pe), (2, fz_i t), (3, fz_i hr), (4, fz_i L), (5, fz_i su)]) kX11_tries rfl (by decide) rfl (by omega) rfl ?_
                          refine fz_goto (tgt := 79) kX11_tries rfl (by decide) ?_
                          refine fz_sub (fz_pk_sub (ls' := [(6, fz_i (x28 + 1)), (0, fz_r 53), (1, fz_i pe), (2, fz_i t), (3, fz_i hr), (4, fz_i L), (5, fz_i su)]) [0, 3, 4, 5, 6, 7, 8] rfl) ?_
                          exact ih35 (x28 + 1) H116 hI120 hf123 hXw122 (by omega) (by omega)
                        · refine fz_goto (tgt := 211) kX11_tries rfl (by decide) ?_
                          refine fz_iincN (ls' := [(6, fz_i (x28 + 1)), (8, fz_i z85), (7, fz_i (h 56 (x28.toNat))), (0, fz_r 53), (1, fz_i pe), (2, fz_i t), (3, fz_i hr), (4, fz_i L), (5, fz_i su)]) kX11_tries rfl (by decide) rfl (by omega) rfl ?_
                          refine fz_goto (tgt := 79) kX11_tries rfl (by decide) ?_
                          refine fz_sub (fz_pk_sub (ls' := [(6, fz_i (x28 + 1)), (0, fz_r 53), (1, fz_i pe), (2, fz_i t), (3, fz_i hr), (4, fz_i L), (5, fz_i su)]) [0, 3, 4, 5, 6, 7, 8] rfl) ?_
                          exact ih35 (x28 + 1) H88 hI92 hf97 hXw94 (by omega) (by omega)
                  · refine fz_aload_n kX11_tries rfl rfl ?_
                    refine fz_getR (t := 56) kX11_tries rfl rfl ?_
                    refine fz_iload kX11_tries rfl rfl ?_
                    refine fz_ialdV (n := 12) (v := h 56 (x28.toNat)) kX11_tries rfl rfl (by omega) (by omega) (hf32 56 _ rfl) ?_
                    have b124 : 0 ≤ h 56 (x28.toNat) ∧ h 56 (x28.toNat) ≤ 7 := hI.1 56 _
                    refine fz_iload_n kX11_tries rfl rfl ?_
                    refine fz_icmp_eq (tgt := 113) kX11_tries rfl (by decide) (fun c125 => ?_) (fun c125 => ?_)
                    · refine fz_aload_n kX11_tries rfl rfl ?_
                      refine fz_getR (t := 55) kX11_tries rfl rfl ?_
                      refine fz_iload kX11_tries rfl rfl ?_
                      refine fz_ialdV (n := 12) (v := h 55 (x28.toNat)) kX11_tries rfl rfl (by omega) (by omega) (hf32 55 _ rfl) ?_
                      refine fz_iload_n kX11_tries rfl rfl ?_
                      refine fz_icmp_ne (tgt := 134) kX11_tries rfl (by decide) (fun c126 => ?_) (fun c126 => ?_)
                      · refine fz_aload_n kX11_tries rfl rfl ?_
                        refine fz_getR (t := 55) kX11_tries rfl rfl ?_
                        refine fz_iload kX11_tries rfl rfl ?_
                        refine fz_ialdV (n := 12) (v := h 55 (x28.toNat)) kX11_tries rfl rfl (by omega) (by omega) (hf32 55 _ rfl) ?_
                        refine fz_istore (ls' := [(7, fz_i (h 55 (x28.toNat))), (6, fz_i x28), (0, fz_r 53), (1, fz_i pe), (2, fz_i t), (3, fz_i hr), (4, fz_i L), (5, fz_i su)]) kX11_tries rfl (by decide) rfl ?_
                        refine fz_iload_n kX11_tries rfl rfl ?_
                        refine fz_aload_n kX11_tries rfl rfl ?_
                        refine fz_getR (t := 57) kX11_tries rfl rfl ?_
                        refine fz_iload kX11_tries rfl rfl ?_
                        refine fz_ialdV (n := 12) (v := h 57 (x28.toNat)) kX11_tries rfl rfl (by omega) (by omega) (hf32 57 _ rfl) ?_
                        have b127 : 0 ≤ h 57 (x28.toNat) ∧ h 57 (x28.toNat) ≤ 24 := hI.1 57 _
                        refine fz_iadd kX11_tries rfl ?_
                        refine fz_nmw (fun z128 e129 => ?_)
                        refine fz_istore (ls' := [(8, fz_i z128), (7, fz_i (h 55 (x28.toNat))), (6, fz_i x28), (0, fz_r 53), (1, fz_i pe), (2, fz_i t), (3, fz_i hr), (4, fz_i L), (5, fz_i su)]) kX11_tries rfl (by decide) rfl ?_
                        refine fz_iload kX11_tries rfl rfl ?_
                        refine fz_sipush ⟨by decide, by decide⟩ kX11_tries rfl ?_
                        refine fz_icmp_gt (tgt := 211) kX11_tries rfl (by decide) (fun c130 => ?_) (fun c130 => ?_)
                        · refine fz_iincN (ls' := [(6, fz_i (x28 + 1)), (8, fz_i z128), (7, fz_i (h 55 (x28.toNat))), (0, fz_r 53), (1, fz_i pe), (2, fz_i t), (3, fz_i hr), (4, fz_i L), (5, fz_i su)]) kX11_tries rfl (by decide) rfl (by omega) rfl ?_
                          refine fz_goto (tgt := 79) kX11_tries rfl (by decide) ?_
                          refine fz_sub (fz_pk_sub (ls' := [(6, fz_i (x28 + 1)), (0, fz_r 53), (1, fz_i pe), (2, fz_i t), (3, fz_i hr), (4, fz_i L), (5, fz_i su)]) [0, 3, 4, 5, 6, 7, 8] rfl) ?_
                          exact ih35 (x28 + 1) H30 hI31 hf32 hXw29 (by omega) (by omega)
                        · refine fz_aload_n kX11_tries rfl rfl ?_
                          refine fz_iload_n kX11_tries rfl rfl ?_
                          refine fz_iload kX11_tries rfl rfl ?_
                          refine fz_iload kX11_tries rfl rfl ?_
                          refine fz_callV (d' := 4) (M' := mX11_isArrested) (As := [fz_i pe, fz_i (h 55 (x28.toNat)), fz_i z128]) (st := []) kX11_tries rfl rfl vX11_isArrested rfl rfl rfl rfl (Nat.le_of_ble_eq_true rfl) (Nat.le_of_ble_eq_true rfl) (by omega) (sX11_isArrested H30 hI31 pe (h 55 (x28.toNat)) z128 hXw29 (by omega)) (fun H131 r132 q133 o134 => ?_)
                          obtain ⟨hI135, hf136, hXw137, y138, rfl, p139⟩ := q133
                          clear o134
                          have hf140 := fz_fr_tr hf32 hf136 (show fz_su [(74, 99999), (75, 99999)] [(53, 54), (53, 55), (74, 99999), (75, 99999), (89, 99999), (90, 99999)] = true from rfl)
                          refine fz_if_eq (tgt := 177) kX11_tries rfl (by decide) (fun c141 => ?_) (fun c141 => ?_)
                          · refine fz_aload_n kX11_tries rfl rfl ?_
                            refine fz_getR (t := 90) kX11_tries rfl rfl ?_
                            refine fz_iload kX11_tries rfl rfl ?_
                            refine fz_iload kX11_tries rfl rfl ?_
                            refine fz_iast (n := 4) kX11_tries rfl rfl (by omega) (by omega) ?_
                            refine fz_nmu (S := [(53, 54), (53, 55), (74, 99999), (75, 99999), (89, 99999), (90, 99999)]) (h0 := h) (fz_Iv_up hI135 (by decide) (show (0 : Int) ≤ (h 55 (x28.toNat)) by omega) (show ((h 55 (x28.toNat)) : Int) ≤ 7 by omega)) (fz_fr_up hf140 rfl) (fun H142 hI143 hf144 e145 => ?_)
                            have hXw146 : fz_Xw H142 := fz_Xw_eq (by rw [e145]; exact fz_up_o (by decide)) (by rw [e145]; exact fz_up_ne (by decide)) (by rw [e145]; exact fz_up_ne (by decide)) (by rw [e145]; exact fz_up_ne (by decide)) (by rw [e145]; exact fz_up_ne (by decide)) hXw137
                            clear e145
                            refine fz_aload_n kX11_tries rfl rfl ?_
                            refine fz_iload_n kX11_tries rfl rfl ?_
                            refine fz_iload kX11_tries rfl rfl ?_
                            refine fz_iload kX11_tries rfl rfl ?_
                            refine fz_iload kX11_tries rfl rfl ?_
                            refine fz_iconst ⟨by decide, by decide⟩ kX11_tries rfl ?_
                            refine fz_iaddN kX11_tries rfl (by omega) ?_
                            refine fz_eqi (y := (L + 1)) (by omega) ?_
                            refine fz_iload kX11_tries rfl rfl ?_
                            refine fz_aload_n kX11_tries rfl rfl ?_
                            refine fz_iload_n kX11_tries rfl rfl ?_
                            refine fz_iload kX11_tries rfl rfl ?_
                            refine fz_iload kX11_tries rfl rfl ?_
                            refine fz_callV (d' := 4) (M' := mX11_receivedIn) (As := [fz_i pe, fz_i (h 55 (x28.toNat)), fz_i z128]) (st := [fz_i su, fz_i (L + 1), fz_i z128, fz_i (h 55 (x28.toNat)), fz_i pe, fz_r 53]) kX11_tries rfl rfl vX11_receivedIn rfl rfl rfl rfl (Nat.le_of_ble_eq_true rfl) (Nat.le_of_ble_eq_true rfl) (by omega) (sX11_receivedIn H142 hI143 pe (h 55 (x28.toNat)) z128 hXw146 (by omega)) (fun H147 r148 q149 o150 => ?_)
                            obtain ⟨hI151, hf152, hXw153, y155, rfl, f154⟩ := q149
                            clear o150
                            have hf156 := fz_fr_tr hf144 hf152 (show fz_su [(74, 99999), (75, 99999)] [(53, 54), (53, 55), (74, 99999), (75, 99999), (89, 99999), (90, 99999)] = true from rfl)
                            refine fz_iadd kX11_tries rfl ?_
                            refine fz_nmw (fun z157 e158 => ?_)
                            refine fz_callV (d' := De) (M' := mX11_tries) (As := [fz_i pe, fz_i (h 55 (x28.toNat)), fz_i z128, fz_i (L + 1), fz_i z157]) (st := []) kX11_tries rfl rfl vX11_tries rfl rfl rfl rfl (Nat.le_of_ble_eq_true rfl) (Nat.le_of_ble_eq_true rfl) (by omega) (ih H147 hI151 pe (h 55 (x28.toNat)) z128 z157 hXw153 (by omega)) (fun H159 r160 q161 o162 => ?_)
                            obtain ⟨hI163, hf164, hXw165, rfl⟩ := q161
                            clear o162
                            have hf166 := fz_fr_tr hf156 hf164 (show fz_su [(53, 54), (53, 55), (74, 99999), (75, 99999), (89, 99999), (90, 99999)] [(53, 54), (53, 55), (74, 99999), (75, 99999), (89, 99999), (90, 99999)] = true from rfl)
                            refine fz_iincN (ls' := [(6, fz_i (x28 + 1)), (8, fz_i z128), (7, fz_i (h 55 (x28.toNat))), (0, fz_r 53), (1, fz_i pe), (2, fz_i t), (3, fz_i hr), (4, fz_i L), (5, fz_i su)]) kX11_tries rfl (by decide) rfl (by omega) rfl ?_
                            refine fz_goto (tgt := 79) kX11_tries rfl (by decide) ?_
                            refine fz_sub (fz_pk_sub (ls' := [(6, fz_i (x28 + 1)), (0, fz_r 53), (1, fz_i pe), (2, fz_i t), (3, fz_i hr), (4, fz_i L), (5, fz_i su)]) [0, 3, 4, 5, 6, 7, 8] rfl) ?_
                            exact ih35 (x28 + 1) H159 hI163 hf166 hXw165 (by omega) (by omega)
                          · refine fz_goto (tgt := 211) kX11_tries rfl (by decide) ?_
                            refine fz_iincN (ls' := [(6, fz_i (x28 + 1)), (8, fz_i z128), (7, fz_i (h 55 (x28.toNat))), (0, fz_r 53), (1, fz_i pe), (2, fz_i t), (3, fz_i hr), (4, fz_i L), (5, fz_i su)]) kX11_tries rfl (by decide) rfl (by omega) rfl ?_
                            refine fz_goto (tgt := 79) kX11_tries rfl (by decide) ?_
                            refine fz_sub (fz_pk_sub (ls' := [(6, fz_i (x28 + 1)), (0, fz_r 53), (1, fz_i pe), (2, fz_i t), (3, fz_i hr), (4, fz_i L), (5, fz_i su)]) [0, 3, 4, 5, 6, 7, 8] rfl) ?_
                            exact ih35 (x28 + 1) H131 hI135 hf140 hXw137 (by omega) (by omega)
                      · refine fz_aload_n kX11_tries rfl rfl ?_
                        refine fz_getR (t := 56) kX11_tries rfl rfl ?_
                        refine fz_iload kX11_tries rfl rfl ?_
                        refine fz_ialdV (n := 12) (v := h 56 (x28.toNat)) kX11_tries rfl rfl (by omega) (by omega) (hf32 56 _ rfl) ?_
                        refine fz_goto (tgt := 141) kX11_tries rfl (by decide) ?_
                        refine fz_istore (ls' := [(7, fz_i (h 56 (x28.toNat))), (6, fz_i x28), (0, fz_r 53), (1, fz_i pe), (2, fz_i t), (3, fz_i hr), (4, fz_i L), (5, fz_i su)]) kX11_tries rfl (by decide) rfl ?_
                        refine fz_iload_n kX11_tries rfl rfl ?_
                        refine fz_aload_n kX11_tries rfl rfl ?_
                        refine fz_getR (t := 57) kX11_tries rfl rfl ?_
                        refine fz_iload kX11_tries rfl rfl ?_
                        refine fz_ialdV (n := 12) (v := h 57 (x28.toNat)) kX11_tries rfl rfl (by omega) (by omega) (hf32 57 _ rfl) ?_
                        have b167 : 0 ≤ h 57 (x28.toNat) ∧ h 57 (x28.toNat) ≤ 24 := hI.1 57 _
                        refine fz_iadd kX11_tries rfl ?_
                        refine fz_nmw (fun z168 e169 => ?_)
                        refine fz_istore (ls' := [(8, fz_i z168), (7, fz_i (h 56 (x28.toNat))), (6, fz_i x28), (0, fz_r 53), (1, fz_i pe), (2, fz_i t), (3, fz_i hr), (4, fz_i L), (5, fz_i su)]) kX11_tries rfl (by decide) rfl ?_
                        refine fz_iload kX11_tries rfl rfl ?_
                        refine fz_sipush ⟨by decide, by decide⟩ kX11_tries rfl ?_
                        refine fz_icmp_gt (tgt := 211) kX11_tries rfl (by decide) (fun c170 => ?_) (fun c170 => ?_)
                        · refine fz_iincN (ls' := [(6, fz_i (x28 + 1)), (8, fz_i z168), (7, fz_i (h 56 (x28.toNat))), (0, fz_r 53), (1, fz_i pe), (2, fz_i t), (3, fz_i hr), (4, fz_i L), (5, fz_i su)]) kX11_tries rfl (by decide) rfl (by omega) rfl ?_
                          refine fz_goto (tgt := 79) kX11_tries rfl (by decide) ?_
                          refine fz_sub (fz_pk_sub (ls' := [(6, fz_i (x28 + 1)), (0, fz_r 53), (1, fz_i pe), (2, fz_i t), (3, fz_i hr), (4, fz_i L), (5, fz_i su)]) [0, 3, 4, 5, 6, 7, 8] rfl) ?_
                          exact ih35 (x28 + 1) H30 hI31 hf32 hXw29 (by omega) (by omega)
                        · refine fz_aload_n kX11_tries rfl rfl ?_
                          refine fz_iload_n kX11_tries rfl rfl ?_
                          refine fz_iload kX11_tries rfl rfl ?_
                          refine fz_iload kX11_tries rfl rfl ?_
                          refine fz_callV (d' := 4) (M' := mX11_isArrested) (As := [fz_i pe, fz_i (h 56 (x28.toNat)), fz_i z168]) (st := []) kX11_tries rfl rfl vX11_isArrested rfl rfl rfl rfl (Nat.le_of_ble_eq_true rfl) (Nat.le_of_ble_eq_true rfl) (by omega) (sX11_isArrested H30 hI31 pe (h 56 (x28.toNat)) z168 hXw29 (by omega)) (fun H171 r172 q173 o174 => ?_)
                          obtain ⟨hI175, hf176, hXw177, y178, rfl, p179⟩ := q173
                          clear o174
                          have hf180 := fz_fr_tr hf32 hf176 (show fz_su [(74, 99999), (75, 99999)] [(53, 54), (53, 55), (74, 99999), (75, 99999), (89, 99999), (90, 99999)] = true from rfl)
                          refine fz_if_eq (tgt := 177) kX11_tries rfl (by decide) (fun c181 => ?_) (fun c181 => ?_)
                          · refine fz_aload_n kX11_tries rfl rfl ?_
                            refine fz_getR (t := 90) kX11_tries rfl rfl ?_
                            refine fz_iload kX11_tries rfl rfl ?_
                            refine fz_iload kX11_tries rfl rfl ?_
                            refine fz_iast (n := 4) kX11_tries rfl rfl (by omega) (by omega) ?_
                            refine fz_nmu (S := [(53, 54), (53, 55), (74, 99999), (75, 99999), (89, 99999), (90, 99999)]) (h0 := h) (fz_Iv_up hI175 (by decide) (show (0 : Int) ≤ (h 56 (x28.toNat)) by omega) (show ((h 56 (x28.toNat)) : Int) ≤ 7 by omega)) (fz_fr_up hf180 rfl) (fun H182 hI183 hf184 e185 => ?_)
                            have hXw186 : fz_Xw H182 := fz_Xw_eq (by rw [e185]; exact fz_up_o (by decide)) (by rw [e185]; exact fz_up_ne (by decide)) (by rw [e185]; exact fz_up_ne (by decide)) (by rw [e185]; exact fz_up_ne (by decide)) (by rw [e185]; exact fz_up_ne (by decide)) hXw177
                            clear e185
                            refine fz_aload_n kX11_tries rfl rfl ?_
                            refine fz_iload_n kX11_tries rfl rfl ?_
                            refine fz_iload kX11_tries rfl rfl ?_
                            refine fz_iload kX11_tries rfl rfl ?_
                            refine fz_iload kX11_tries rfl rfl ?_
                            refine fz_iconst ⟨by decide, by decide⟩ kX11_tries rfl ?_
                            refine fz_iaddN kX11_tries rfl (by omega) ?_
                            refine fz_eqi (y := (L + 1)) (by omega) ?_
                            refine fz_iload kX11_tries rfl rfl ?_
                            refine fz_aload_n kX11_tries rfl rfl ?_
                            refine fz_iload_n kX11_tries rfl rfl ?_
                            refine fz_iload kX11_tries rfl rfl ?_
                            refine fz_iload kX11_tries rfl rfl ?_
                            refine fz_callV (d' := 4) (M' := mX11_receivedIn) (As := [fz_i pe, fz_i (h 56 (x28.toNat)), fz_i z168]) (st := [fz_i su, fz_i (L + 1), fz_i z168, fz_i (h 56 (x28.toNat)), fz_i pe, fz_r 53]) kX11_tries rfl rfl vX11_receivedIn rfl rfl rfl rfl (Nat.le_of_ble_eq_true rfl) (Nat.le_of_ble_eq_true rfl) (by omega) (sX11_receivedIn H182 hI183 pe (h 56 (x28.toNat)) z168 hXw186 (by omega)) (fun H187 r188 q189 o190 => ?_)
                            obtain ⟨hI191, hf192, hXw193, y195, rfl, f194⟩ := q189
                            clear o190
                            have hf196 := fz_fr_tr hf184 hf192 (show fz_su [(74, 99999), (75, 99999)] [(53, 54), (53, 55), (74, 99999), (75, 99999), (89, 99999), (90, 99999)] = true from rfl)
                            refine fz_iadd kX11_tries rfl ?_
                            refine fz_nmw (fun z197 e198 => ?_)
                            refine fz_callV (d' := De) (M' := mX11_tries) (As := [fz_i pe, fz_i (h 56 (x28.toNat)), fz_i z168, fz_i (L + 1), fz_i z197]) (st := []) kX11_tries rfl rfl vX11_tries rfl rfl rfl rfl (Nat.le_of_ble_eq_true rfl) (Nat.le_of_ble_eq_true rfl) (by omega) (ih H187 hI191 pe (h 56 (x28.toNat)) z168 z197 hXw193 (by omega)) (fun H199 r200 q201 o202 => ?_)
                            obtain ⟨hI203, hf204, hXw205, rfl⟩ := q201
                            clear o202
                            have hf206 := fz_fr_tr hf196 hf204 (show fz_su [(53, 54), (53, 55), (74, 99999), (75, 99999), (89, 99999), (90, 99999)] [(53, 54), (53, 55), (74, 99999), (75, 99999), (89, 99999), (90, 99999)] = true from rfl)
                            refine fz_iincN (ls' := [(6, fz_i (x28 + 1)), (8, fz_i z168), (7, fz_i (h 56 (x28.toNat))), (0, fz_r 53), (1, fz_i pe), (2, fz_i t), (3, fz_i hr), (4, fz_i L), (5, fz_i su)]) kX11_tries rfl (by decide) rfl (by omega) rfl ?_
                            refine fz_goto (tgt := 79) kX11_tries rfl (by decide) ?_
                            refine fz_sub (fz_pk_sub (ls' := [(6, fz_i (x28 + 1)), (0, fz_r 53), (1, fz_i pe), (2, fz_i t), (3, fz_i hr), (4, fz_i L), (5, fz_i su)]) [0, 3, 4, 5, 6, 7, 8] rfl) ?_
                            exact ih35 (x28 + 1) H199 hI203 hf206 hXw205 (by omega) (by omega)
                          · refine fz_goto (tgt := 211) kX11_tries rfl (by decide) ?_
                            refine fz_iincN (ls' := [(6, fz_i (x28 + 1)), (8, fz_i z168), (7, fz_i (h 56 (x28.toNat))), (0, fz_r 53), (1, fz_i pe), (2, fz_i t), (3, fz_i hr), (4, fz_i L), (5, fz_i su)]) kX11_tries rfl (by decide) rfl (by omega) rfl ?_
                            refine fz_goto (tgt := 79) kX11_tries rfl (by decide) ?_
                            refine fz_sub (fz_pk_sub (ls' := [(6, fz_i (x28 + 1)), (0, fz_r 53), (1, fz_i pe), (2, fz_i t), (3, fz_i hr), (4, fz_i L), (5, fz_i su)]) [0, 3, 4, 5, 6, 7, 8] rfl) ?_
                            exact ih35 (x28 + 1) H171 hI175 hf180 hXw177 (by omega) (by omega)
                    · refine fz_goto (tgt := 211) kX11_tries rfl (by decide) ?_
                      refine fz_iincN (ls' := [(6, fz_i (x28 + 1)), (0, fz_r 53), (1, fz_i pe), (2, fz_i t), (3, fz_i hr), (4, fz_i L), (5, fz_i su)]) kX11_tries rfl (by decide) rfl (by omega) rfl ?_
                      refine fz_goto (tgt := 79) kX11_tries rfl (by decide) ?_
                      exact ih35 (x28 + 1) H30 hI31 hf32 hXw29 (by omega) (by omega)
            exact lp34 _ 0 H18 hI19 hf20 hXw17 (by omega) (Nat.lt_succ_self _)
          · exfalso; omega
        · refine fz_aload_n kX11_tries rfl rfl ?_
          refine fz_getR (t := 89) kX11_tries rfl rfl ?_
          refine fz_iload kX11_tries rfl rfl ?_
          refine fz_aload_n kX11_tries rfl rfl ?_
          refine fz_getR (t := 90) kX11_tries rfl rfl ?_
          refine fz_iload kX11_tries rfl rfl ?_
          obtain ⟨v207, e208⟩ : ∃ z, H18 90 (x16.toNat) = z := ⟨_, rfl⟩
          refine fz_ialdV (n := 4) (v := v207) kX11_tries rfl rfl (by omega) (by omega) e208 ?_
          have b209 : 0 ≤ v207 ∧ v207 ≤ 7 := by rw [← e208]; exact hI19.1 90 _
          refine fz_iast (n := 4) kX11_tries rfl rfl (by omega) (by omega) ?_
          refine fz_nmu (S := [(53, 54), (53, 55), (74, 99999), (75, 99999), (89, 99999), (90, 99999)]) (h0 := h) (fz_Iv_up hI19 (by decide) (show (0 : Int) ≤ v207 by omega) (show (v207 : Int) ≤ 7 by omega)) (fz_fr_up hf20 rfl) (fun H210 hI211 hf212 e213 => ?_)
          have hXw214 : fz_Xw H210 := fz_Xw_eq (by rw [e213]; exact fz_up_o (by decide)) (by rw [e213]; exact fz_up_ne (by decide)) (by rw [e213]; exact fz_up_ne (by decide)) (by rw [e213]; exact fz_up_ne (by decide)) (by rw [e213]; exact fz_up_ne (by decide)) hXw17
          clear e213
          refine fz_iincN (ls' := [(6, fz_i (x16 + 1)), (0, fz_r 53), (1, fz_i pe), (2, fz_i t), (3, fz_i hr), (4, fz_i L), (5, fz_i su)]) kX11_tries rfl (by decide) rfl (by omega) rfl ?_
          refine fz_goto (tgt := 42) kX11_tries rfl (by decide) ?_
          exact ih23 (x16 + 1) H210 hI211 hf212 hXw214 (by omega) (by omega)
    exact lp22 _ 0 H9 hI10 hf11 hXw15 (by omega) (Nat.lt_succ_self _)
  · refine fz_iload kX11_tries rfl rfl ?_
    refine fz_aload_n kX11_tries rfl rfl ?_
    refine fz_getV (v := h 53 54) kX11_tries rfl rfl rfl ?_
    refine fz_icmp_ne (tgt := 69) kX11_tries rfl (by decide) (fun c215 => ?_) (fun c215 => ?_)
    · refine fz_iload kX11_tries rfl rfl ?_
      refine fz_iconst ⟨by decide, by decide⟩ kX11_tries rfl ?_
      refine fz_icmp_ne (tgt := 76) kX11_tries rfl (by decide) (fun c216 => ?_) (fun c216 => ?_)
      · refine fz_iconst ⟨by decide, by decide⟩ kX11_tries rfl ?_
        refine fz_istore (ls' := [(6, fz_i 0), (0, fz_r 53), (1, fz_i pe), (2, fz_i t), (3, fz_i hr), (4, fz_i L), (5, fz_i su)]) kX11_tries rfl (by decide) rfl ?_
        have lp223 : ∀ (n222 : Nat) (x217 : Int) (H219 : fz_H), fz_Iv H219 → fz_fr [(53, 54), (53, 55), (74, 99999), (75, 99999), (89, 99999), (90, 99999)] h H219 → fz_Xw H219 → (0 ≤ x217 ∧ x217 ≤ 2147483647) → ((h 53 2) - x217).toNat < n222 → fz_R D mX11_tries 79 [(6, fz_i x217), (0, fz_r 53), (1, fz_i pe), (2, fz_i t), (3, fz_i hr), (4, fz_i L), (5, fz_i su)] [] H219 (qX11_tries_g h pe t hr su) := by
          intro n222
          induction n222 with
          | zero => intro x217 H219 hI220 hf221 hXw218 hv226 hm225; exact absurd hm225 (by omega)
          | succ n222 ih224 =>
            intro x217 H219 hI220 hf221 hXw218 hv226 hm225
            refine fz_iload kX11_tries rfl rfl ?_
            refine fz_aload_n kX11_tries rfl rfl ?_
            refine fz_getV (v := h 53 2) kX11_tries rfl rfl (hf221 53 2 rfl) ?_
            have b227 : 0 ≤ h 53 2 ∧ h 53 2 ≤ 12 := hI.1 53 _
            refine fz_icmp_ge (tgt := 217) kX11_tries rfl (by decide) (fun c228 => ?_) (fun c228 => ?_)
            · exact fz_vret kX11_tries rfl rfl ⟨hI220, hf221, hXw218, rfl⟩
            · refine fz_aload_n kX11_tries rfl rfl ?_
              refine fz_getR (t := 55) kX11_tries rfl rfl ?_
              refine fz_iload kX11_tries rfl rfl ?_
              refine fz_ialdV (n := 12) (v := h 55 (x217.toNat)) kX11_tries rfl rfl (by omega) (by omega) (hf221 55 _ rfl) ?_
              have b229 : 0 ≤ h 55 (x217.toNat) ∧ h 55 (x217.toNat) ≤ 7 := hI.1 55 _
              refine fz_iload_n kX11_tries rfl rfl ?_
              refine fz_icmp_eq (tgt := 113) kX11_tries rfl (by decide) (fun c230 => ?_) (fun c230 => ?_)
              · refine fz_aload_n kX11_tries rfl rfl ?_
                refine fz_getR (t := 55) kX11_tries rfl rfl ?_
                refine fz_iload kX11_tries rfl rfl ?_
                refine fz_ialdV (n := 12) (v := h 55 (x217.toNat)) kX11_tries rfl rfl (by omega) (by omega) (hf221 55 _ rfl) ?_
                refine fz_iload_n kX11_tries rfl rfl ?_
                refine fz_icmp_ne (tgt := 134) kX11_tries rfl (by decide) (fun c231 => ?_) (fun c231 => ?_)
                · refine fz_aload_n kX11_tries rfl rfl ?_
                  refine fz_getR (t := 55) kX11_tries rfl rfl ?_
                  refine fz_iload kX11_tries rfl rfl ?_
                  refine fz_ialdV (n := 12) (v := h 55 (x217.toNat)) kX11_tries rfl rfl (by omega) (by omega) (hf221 55 _ rfl) ?_
                  refine fz_istore (ls' := [(7, fz_i (h 55 (x217.toNat))), (6, fz_i x217), (0, fz_r 53), (1, fz_i pe), (2, fz_i t), (3, fz_i hr), (4, fz_i L), (5, fz_i su)]) kX11_tries rfl (by decide) rfl ?_
                  refine fz_iload_n kX11_tries rfl rfl ?_
                  refine fz_aload_n kX11_tries rfl rfl ?_
                  refine fz_getR (t := 57) kX11_tries rfl rfl ?_
                  refine fz_iload kX11_tries rfl rfl ?_
                  refine fz_ialdV (n := 12) (v := h 57 (x217.toNat)) kX11_tries rfl rfl (by omega) (by omega) (hf221 57 _ rfl) ?_
                  have b232 : 0 ≤ h 57 (x217.toNat) ∧ h 57 (x217.toNat) ≤ 24 := hI.1 57 _
                  refine fz_iadd kX11_tries rfl ?_
                  refine fz_nmw (fun z233 e234 => ?_)
                  refine fz_istore (ls' := [(8, fz_i z233), (7, fz_i (h 55 (x217.toNat))), (6, fz_i x217), (0, fz_r 53), (1, fz_i pe), (2, fz_i t), (3, fz_i hr), (4, fz_i L), (5, fz_i su)]) kX11_tries rfl (by decide) rfl ?_
                  refine fz_iload kX11_tries rfl rfl ?_
                  refine fz_sipush ⟨by decide, by decide⟩ kX11_tries rfl ?_
                  refine fz_icmp_gt (tgt := 211) kX11_tries rfl (by decide) (fun c235 => ?_) (fun c235 => ?_)
                  · refine fz_iincN (ls' := [(6, fz_i (x217 + 1)), (8, fz_i z233), (7, fz_i (h 55 (x217.toNat))), (0, fz_r 53), (1, fz_i pe), (2, fz_i t), (3, fz_i hr), (4, fz_i L), (5, fz_i su)]) kX11_tries rfl (by decide) rfl (by omega) rfl ?_
                    refine fz_goto (tgt := 79) kX11_tries rfl (by decide) ?_
                    refine fz_sub (fz_pk_sub (ls' := [(6, fz_i (x217 + 1)), (0, fz_r 53), (1, fz_i pe), (2, fz_i t), (3, fz_i hr), (4, fz_i L), (5, fz_i su)]) [0, 3, 4, 5, 6, 7, 8] rfl) ?_
                    exact ih224 (x217 + 1) H219 hI220 hf221 hXw218 (by omega) (by omega)
                  · refine fz_aload_n kX11_tries rfl rfl ?_
                    refine fz_iload_n kX11_tries rfl rfl ?_
                    refine fz_iload kX11_tries rfl rfl ?_
                    refine fz_iload kX11_tries rfl rfl ?_
                    refine fz_callV (d' := 4) (M' := mX11_isArrested) (As := [fz_i pe, fz_i (h 55 (x217.toNat)), fz_i z233]) (st := []) kX11_tries rfl rfl vX11_isArrested rfl rfl rfl rfl (Nat.le_of_ble_eq_true rfl) (Nat.le_of_ble_eq_true rfl) (by omega) (sX11_isArrested H219 hI220 pe (h 55 (x217.toNat)) z233 hXw218 (by omega)) (fun H236 r237 q238 o239 => ?_)
                    obtain ⟨hI240, hf241, hXw242, y243, rfl, p244⟩ := q238
                    clear o239
                    have hf245 := fz_fr_tr hf221 hf241 (show fz_su [(74, 99999), (75, 99999)] [(53, 54), (53, 55), (74, 99999), (75, 99999), (89, 99999), (90, 99999)] = true from rfl)
                    refine fz_if_eq (tgt := 177) kX11_tries rfl (by decide) (fun c246 => ?_) (fun c246 => ?_)
                    · refine fz_aload_n kX11_tries rfl rfl ?_
                      refine fz_getR (t := 90) kX11_tries rfl rfl ?_
                      refine fz_iload kX11_tries rfl rfl ?_
                      refine fz_iload kX11_tries rfl rfl ?_
                      refine fz_iast (n := 4) kX11_tries rfl rfl (by omega) (by omega) ?_
                      refine fz_nmu (S := [(53, 54), (53, 55), (74, 99999), (75, 99999), (89, 99999), (90, 99999)]) (h0 := h) (fz_Iv_up hI240 (by decide) (show (0 : Int) ≤ (h 55 (x217.toNat)) by omega) (show ((h 55 (x217.toNat)) : Int) ≤ 7 by omega)) (fz_fr_up hf245 rfl) (fun H247 hI248 hf249 e250 => ?_)
                      have hXw251 : fz_Xw H247 := fz_Xw_eq (by rw [e250]; exact fz_up_o (by decide)) (by rw [e250]; exact fz_up_ne (by decide)) (by rw [e250]; exact fz_up_ne (by decide)) (by rw [e250]; exact fz_up_ne (by decide)) (by rw [e250]; exact fz_up_ne (by decide)) hXw242
                      clear e250
                      refine fz_aload_n kX11_tries rfl rfl ?_
                      refine fz_iload_n kX11_tries rfl rfl ?_
                      refine fz_iload kX11_tries rfl rfl ?_
                      refine fz_iload kX11_tries rfl rfl ?_
                      refine fz_iload kX11_tries rfl rfl ?_
                      refine fz_iconst ⟨by decide, by decide⟩ kX11_tries rfl ?_
                      refine fz_iaddN kX11_tries rfl (by omega) ?_
                      refine fz_eqi (y := (L + 1)) (by omega) ?_
                      refine fz_iload kX11_tries rfl rfl ?_
                      refine fz_aload_n kX11_tries rfl rfl ?_
                      refine fz_iload_n kX11_tries rfl rfl ?_
                      refine fz_iload kX11_tries rfl rfl ?_
                      refine fz_iload kX11_tries rfl rfl ?_
                      refine fz_callV (d' := 4) (M' := mX11_receivedIn) (As := [fz_i pe, fz_i (h 55 (x217.toNat)), fz_i z233]) (st := [fz_i su, fz_i (L + 1), fz_i z233, fz_i (h 55 (x217.toNat)), fz_i pe, fz_r 53]) kX11_tries rfl rfl vX11_receivedIn rfl rfl rfl rfl (Nat.le_of_ble_eq_true rfl) (Nat.le_of_ble_eq_true rfl) (by omega) (sX11_receivedIn H247 hI248 pe (h 55 (x217.toNat)) z233 hXw251 (by omega)) (fun H252 r253 q254 o255 => ?_)
                      obtain ⟨hI256, hf257, hXw258, y260, rfl, f259⟩ := q254
                      clear o255
                      have hf261 := fz_fr_tr hf249 hf257 (show fz_su [(74, 99999), (75, 99999)] [(53, 54), (53, 55), (74, 99999), (75, 99999), (89, 99999), (90, 99999)] = true from rfl)
                      refine fz_iadd kX11_tries rfl ?_
                      refine fz_nmw (fun z262 e263 => ?_)
                      refine fz_callV (d' := De) (M' := mX11_tries) (As := [fz_i pe, fz_i (h 55 (x217.toNat)), fz_i z233, fz_i (L + 1), fz_i z262]) (st := []) kX11_tries rfl rfl vX11_tries rfl rfl rfl rfl (Nat.le_of_ble_eq_true rfl) (Nat.le_of_ble_eq_true rfl) (by omega) (ih H252 hI256 pe (h 55 (x217.toNat)) z233 z262 hXw258 (by omega)) (fun H264 r265 q266 o267 => ?_)
                      obtain ⟨hI268, hf269, hXw270, rfl⟩ := q266
                      clear o267
                      have hf271 := fz_fr_tr hf261 hf269 (show fz_su [(53, 54), (53, 55), (74, 99999), (75, 99999), (89, 99999), (90, 99999)] [(53, 54), (53, 55), (74, 99999), (75, 99999), (89, 99999), (90, 99999)] = true from rfl)
                      refine fz_iincN (ls' := [(6, fz_i (x217 + 1)), (8, fz_i z233), (7, fz_i (h 55 (x217.toNat))), (0, fz_r 53), (1, fz_i pe), (2, fz_i t), (3, fz_i hr), (4, fz_i L), (5, fz_i su)]) kX11_tries rfl (by decide) rfl (by omega) rfl ?_
                      refine fz_goto (tgt := 79) kX11_tries rfl (by decide) ?_
                      refine fz_sub (fz_pk_sub (ls' := [(6, fz_i (x217 + 1)), (0, fz_r 53), (1, fz_i pe), (2, fz_i t), (3, fz_i hr), (4, fz_i L), (5, fz_i su)]) [0, 3, 4, 5, 6, 7, 8] rfl) ?_
                      exact ih224 (x217 + 1) H264 hI268 hf271 hXw270 (by omega) (by omega)
                    · refine fz_goto (tgt := 211) kX11_tries rfl (by decide) ?_
                      refine fz_iincN (ls' := [(6, fz_i (x217 + 1)), (8, fz_i z233), (7, fz_i (h 55 (x217.toNat))), (0, fz_r 53), (1, fz_i pe), (2, fz_i t), (3, fz_i hr), (4, fz_i L), (5, fz_i su)]) kX11_tries rfl (by decide) rfl (by omega) rfl ?_
                      refine fz_goto (tgt := 79) kX11_tries rfl (by decide) ?_
                      refine fz_sub (fz_pk_sub (ls' := [(6, fz_i (x217 + 1)), (0, fz_r 53), (1, fz_i pe), (2, fz_i t), (3, fz_i hr), (4, fz_i L), (5, fz_i su)]) [0, 3, 4, 5, 6, 7, 8] rfl) ?_
                      exact ih224 (x217 + 1) H236 hI240 hf245 hXw242 (by omega) (by omega)
                · refine fz_aload_n kX11_tries rfl rfl ?_
                  refine fz_getR (t := 56) kX11_tries rfl rfl ?_
                  refine fz_iload kX11_tries rfl rfl ?_
                  refine fz_ialdV (n := 12) (v := h 56 (x217.toNat)) kX11_tries rfl rfl (by omega) (by omega) (hf221 56 _ rfl) ?_
                  have b272 : 0 ≤ h 56 (x217.toNat) ∧ h 56 (x217.toNat) ≤ 7 := hI.1 56 _
                  refine fz_goto (tgt := 141) kX11_tries rfl (by decide) ?_
                  refine fz_istore (ls' := [(7, fz_i (h 56 (x217.toNat))), (6, fz_i x217), (0, fz_r 53), (1, fz_i pe), (2, fz_i t), (3, fz_i hr), (4, fz_i L), (5, fz_i su)]) kX11_tries rfl (by decide) rfl ?_
                  refine fz_iload_n kX11_tries rfl rfl ?_
                  refine fz_aload_n kX11_tries rfl rfl ?_
                  refine fz_getR (t := 57) kX11_tries rfl rfl ?_
                  refine fz_iload kX11_tries rfl rfl ?_
                  refine fz_ialdV (n := 12) (v := h 57 (x217.toNat)) kX11_tries rfl rfl (by omega) (by omega) (hf221 57 _ rfl) ?_
                  have b273 : 0 ≤ h 57 (x217.toNat) ∧ h 57 (x217.toNat) ≤ 24 := hI.1 57 _
                  refine fz_iadd kX11_tries rfl ?_
                  refine fz_nmw (fun z274 e275 => ?_)
                  refine fz_istore (ls' := [(8, fz_i z274), (7, fz_i (h 56 (x217.toNat))), (6, fz_i x217), (0, fz_r 53), (1, fz_i pe), (2, fz_i t), (3, fz_i hr), (4, fz_i L), (5, fz_i su)]) kX11_tries rfl (by decide) rfl ?_
                  refine fz_iload kX11_tries rfl rfl ?_
                  refine fz_sipush ⟨by decide, by decide⟩ kX11_tries rfl ?_
                  refine fz_icmp_gt (tgt := 211) kX11_tries rfl (by decide) (fun c276 => ?_) (fun c276 => ?_)
                  · refine fz_iincN (ls' := [(6, fz_i (x217 + 1)), (8, fz_i z274), (7, fz_i (h 56 (x217.toNat))), (0, fz_r 53), (1, fz_i pe), (2, fz_i t), (3, fz_i hr), (4, fz_i L), (5, fz_i su)]) kX11_tries rfl (by decide) rfl (by omega) rfl ?_
                    refine fz_goto (tgt := 79) kX11_tries rfl (by decide) ?_
                    refine fz_sub (fz_pk_sub (ls' := [(6, fz_i (x217 + 1)), (0, fz_r 53), (1, fz_i pe), (2, fz_i t), (3, fz_i hr), (4, fz_i L), (5, fz_i su)]) [0, 3, 4, 5, 6, 7, 8] rfl) ?_
                    exact ih224 (x217 + 1) H219 hI220 hf221 hXw218 (by omega) (by omega)
                  · refine fz_aload_n kX11_tries rfl rfl ?_
                    refine fz_iload_n kX11_tries rfl rfl ?_
                    refine fz_iload kX11_tries rfl rfl ?_
                    refine fz_iload kX11_tries rfl rfl ?_
                    refine fz_callV (d' := 4) (M' := mX11_isArrested) (As := [fz_i pe, fz_i (h 56 (x217.toNat)), fz_i z274]) (st := []) kX11_tries rfl rfl vX11_isArrested rfl rfl rfl rfl (Nat.le_of_ble_eq_true rfl) (Nat.le_of_ble_eq_true rfl) (by omega) (sX11_isArrested H219 hI220 pe (h 56 (x217.toNat)) z274 hXw218 (by omega)) (fun H277 r278 q279 o280 => ?_)
                    obtain ⟨hI281, hf282, hXw283, y284, rfl, p285⟩ := q279
                    clear o280
                    have hf286 := fz_fr_tr hf221 hf282 (show fz_su [(74, 99999), (75, 99999)] [(53, 54), (53, 55), (74, 99999), (75, 99999), (89, 99999), (90, 99999)] = true from rfl)
                    refine fz_if_eq (tgt := 177) kX11_tries rfl (by decide) (fun c287 => ?_) (fun c287 => ?_)
                    · refine fz_aload_n kX11_tries rfl rfl ?_
                      refine fz_getR (t := 90) kX11_tries rfl rfl ?_
                      refine fz_iload kX11_tries rfl rfl ?_
                      refine fz_iload kX11_tries rfl rfl ?_
                      refine fz_iast (n := 4) kX11_tries rfl rfl (by omega) (by omega) ?_
                      refine fz_nmu (S := [(53, 54), (53, 55), (74, 99999), (75, 99999), (89, 99999), (90, 99999)]) (h0 := h) (fz_Iv_up hI281 (by decide) (show (0 : Int) ≤ (h 56 (x217.toNat)) by omega) (show ((h 56 (x217.toNat)) : Int) ≤ 7 by omega)) (fz_fr_up hf286 rfl) (fun H288 hI289 hf290 e291 => ?_)
                      have hXw292 : fz_Xw H288 := fz_Xw_eq (by rw [e291]; exact fz_up_o (by decide)) (by rw [e291]; exact fz_up_ne (by decide)) (by rw [e291]; exact fz_up_ne (by decide)) (by rw [e291]; exact fz_up_ne (by decide)) (by rw [e291]; exact fz_up_ne (by decide)) hXw283
                      clear e291
                      refine fz_aload_n kX11_tries rfl rfl ?_
                      refine fz_iload_n kX11_tries rfl rfl ?_
                      refine fz_iload kX11_tries rfl rfl ?_
                      refine fz_iload kX11_tries rfl rfl ?_
                      refine fz_iload kX11_tries rfl rfl ?_
                      refine fz_iconst ⟨by decide, by decide⟩ kX11_tries rfl ?_
                      refine fz_iaddN kX11_tries rfl (by omega) ?_
                      refine fz_eqi (y := (L + 1)) (by omega) ?_
                      refine fz_iload kX11_tries rfl rfl ?_
                      refine fz_aload_n kX11_tries rfl rfl ?_
                      refine fz_iload_n kX11_tries rfl rfl ?_
                      refine fz_iload kX11_tries rfl rfl ?_
                      refine fz_iload kX11_tries rfl rfl ?_
                      refine fz_callV (d' := 4) (M' := mX11_receivedIn) (As := [fz_i pe, fz_i (h 56 (x217.toNat)), fz_i z274]) (st := [fz_i su, fz_i (L + 1), fz_i z274, fz_i (h 56 (x217.toNat)), fz_i pe, fz_r 53]) kX11_tries rfl rfl vX11_receivedIn rfl rfl rfl rfl (Nat.le_of_ble_eq_true rfl) (Nat.le_of_ble_eq_true rfl) (by omega) (sX11_receivedIn H288 hI289 pe (h 56 (x217.toNat)) z274 hXw292 (by omega)) (fun H293 r294 q295 o296 => ?_)
                      obtain ⟨hI297, hf298, hXw299, y301, rfl, f300⟩ := q295
                      clear o296
                      have hf302 := fz_fr_tr hf290 hf298 (show fz_su [(74, 99999), (75, 99999)] [(53, 54), (53, 55), (74, 99999), (75, 99999), (89, 99999), (90, 99999)] = true from rfl)
                      refine fz_iadd kX11_tries rfl ?_
                      refine fz_nmw (fun z303 e304 => ?_)
                      refine fz_callV (d' := De) (M' := mX11_tries) (As := [fz_i pe, fz_i (h 56 (x217.toNat)), fz_i z274, fz_i (L + 1), fz_i z303]) (st := []) kX11_tries rfl rfl vX11_tries rfl rfl rfl rfl (Nat.le_of_ble_eq_true rfl) (Nat.le_of_ble_eq_true rfl) (by omega) (ih H293 hI297 pe (h 56 (x217.toNat)) z274 z303 hXw299 (by omega)) (fun H305 r306 q307 o308 => ?_)
                      obtain ⟨hI309, hf310, hXw311, rfl⟩ := q307
                      clear o308
                      have hf312 := fz_fr_tr hf302 hf310 (show fz_su [(53, 54), (53, 55), (74, 99999), (75, 99999), (89, 99999), (90, 99999)] [(53, 54), (53, 55), (74, 99999), (75, 99999), (89, 99999), (90, 99999)] = true from rfl)
                      refine fz_iincN (ls' := [(6, fz_i (x217 + 1)), (8, fz_i z274), (7, fz_i (h 56 (x217.toNat))), (0, fz_r 53), (1, fz_i pe), (2, fz_i t), (3, fz_i hr), (4, fz_i L), (5, fz_i su)]) kX11_tries rfl (by decide) rfl (by omega) rfl ?_
                      refine fz_goto (tgt := 79) kX11_tries rfl (by decide) ?_
                      refine fz_sub (fz_pk_sub (ls' := [(6, fz_i (x217 + 1)), (0, fz_r 53), (1, fz_i pe), (2, fz_i t), (3, fz_i hr), (4, fz_i L), (5, fz_i su)]) [0, 3, 4, 5, 6, 7, 8] rfl) ?_
                      exact ih224 (x217 + 1) H305 hI309 hf312 hXw311 (by omega) (by omega)
                    · refine fz_goto (tgt := 211) kX11_tries rfl (by decide) ?_
                      refine fz_iincN (ls' := [(6, fz_i (x217 + 1)), (8, fz_i z274), (7, fz_i (h 56 (x217.toNat))), (0, fz_r 53), (1, fz_i pe), (2, fz_i t), (3, fz_i hr), (4, fz_i L), (5, fz_i su)]) kX11_tries rfl (by decide) rfl (by omega) rfl ?_
                      refine fz_goto (tgt := 79) kX11_tries rfl (by decide) ?_
                      refine fz_sub (fz_pk_sub (ls' := [(6, fz_i (x217 + 1)), (0, fz_r 53), (1, fz_i pe), (2, fz_i t), (3, fz_i hr), (4, fz_i L), (5, fz_i su)]) [0, 3, 4, 5, 6, 7, 8] rfl) ?_
                      exact ih224 (x217 + 1) H277 hI281 hf286 hXw283 (by omega) (by omega)
              · refine fz_aload_n kX11_tries rfl rfl ?_
                refine fz_getR (t := 56) kX11_tries rfl rfl ?_
                refine fz_iload kX11_tries rfl rfl ?_
                refine fz_ialdV (n := 12) (v := h 56 (x217.toNat)) kX11_tries rfl rfl (by omega) (by omega) (hf221 56 _ rfl) ?_
                have b313 : 0 ≤ h 56 (x217.toNat) ∧ h 56 (x217.toNat) ≤ 7 := hI.1 56 _
                refine fz_iload_n kX11_tries rfl rfl ?_
                refine fz_icmp_eq (tgt := 113) kX11_tries rfl (by decide) (fun c314 => ?_) (fun c314 => ?_)
                · refine fz_aload_n kX11_tries rfl rfl ?_
                  refine fz_getR (t := 55) kX11_tries rfl rfl ?_
                  refine fz_iload kX11_tries rfl rfl ?_
                  refine fz_ialdV (n := 12) (v := h 55 (x217.toNat)) kX11_tries rfl rfl (by omega) (by omega) (hf221 55 _ rfl) ?_
                  refine fz_iload_n kX11_tries rfl rfl ?_
                  refine fz_icmp_ne (tgt := 134) kX11_tries rfl (by decide) (fun c315 => ?_) (fun c315 => ?_)
                  · refine fz_aload_n kX11_tries rfl rfl ?_
                    refine fz_getR (t := 55) kX11_tries rfl rfl ?_
                    refine fz_iload kX11_tries rfl rfl ?_
                    refine fz_ialdV (n := 12) (v := h 55 (x217.toNat)) kX11_tries rfl rfl (by omega) (by omega) (hf221 55 _ rfl) ?_
                    refine fz_istore (ls' := [(7, fz_i (h 55 (x217.toNat))), (6, fz_i x217), (0, fz_r 53), (1, fz_i pe), (2, fz_i t), (3, fz_i hr), (4, fz_i L), (5, fz_i su)]) kX11_tries rfl (by decide) rfl ?_
                    refine fz_iload_n kX11_tries rfl rfl ?_
                    refine fz_aload_n kX11_tries rfl rfl ?_
                    refine fz_getR (t := 57) kX11_tries rfl rfl ?_
                    refine fz_iload kX11_tries rfl rfl ?_
                    refine fz_ialdV (n := 12) (v := h 57 (x217.toNat)) kX11_tries rfl rfl (by omega) (by omega) (hf221 57 _ rfl) ?_
                    have b316 : 0 ≤ h 57 (x217.toNat) ∧ h 57 (x217.toNat) ≤ 24 := hI.1 57 _
                    refine fz_iadd kX11_tries rfl ?_
                    refine fz_nmw (fun z317 e318 => ?_)
                    refine fz_istore (ls' := [(8, fz_i z317), (7, fz_i (h 55 (x217.toNat))), (6, fz_i x217), (0, fz_r 53), (1, fz_i pe), (2, fz_i t), (3, fz_i hr), (4, fz_i L), (5, fz_i su)]) kX11_tries rfl (by decide) rfl ?_
                    refine fz_iload kX11_tries rfl rfl ?_
                    refine fz_sipush ⟨by decide, by decide⟩ kX11_tries rfl ?_
                    refine fz_icmp_gt (tgt := 211) kX11_tries rfl (by decide) (fun c319 => ?_) (fun c319 => ?_)
                    · refine fz_iincN (ls' := [(6, fz_i (x217 + 1)), (8, fz_i z317), (7, fz_i (h 55 (x217.toNat))), (0, fz_r 53), (1, fz_i pe), (2, fz_i t), (3, fz_i hr), (4, fz_i L), (5, fz_i su)]) kX11_tries rfl (by decide) rfl (by omega) rfl ?_
                      refine fz_goto (tgt := 79) kX11_tries rfl (by decide) ?_
                      refine fz_sub (fz_pk_sub (ls' := [(6, fz_i (x217 + 1)), (0, fz_r 53), (1, fz_i pe), (2, fz_i t), (3, fz_i hr), (4, fz_i L), (5, fz_i su)]) [0, 3, 4, 5, 6, 7, 8] rfl) ?_
                      exact ih224 (x217 + 1) H219 hI220 hf221 hXw218 (by omega) (by omega)
                    · refine fz_aload_n kX11_tries rfl rfl ?_
                      refine fz_iload_n kX11_tries rfl rfl ?_
                      refine fz_iload kX11_tries rfl rfl ?_
                      refine fz_iload kX11_tries rfl rfl ?_
                      refine fz_callV (d' := 4) (M' := mX11_isArrested) (As := [fz_i pe, fz_i (h 55 (x217.toNat)), fz_i z317]) (st := []) kX11_tries rfl rfl vX11_isArrested rfl rfl rfl rfl (Nat.le_of_ble_eq_true rfl) (Nat.le_of_ble_eq_true rfl) (by omega) (sX11_isArrested H219 hI220 pe (h 55 (x217.toNat)) z317 hXw218 (by omega)) (fun H320 r321 q322 o323 => ?_)
                      obtain ⟨hI324, hf325, hXw326, y327, rfl, p328⟩ := q322
                      clear o323
                      have hf329 := fz_fr_tr hf221 hf325 (show fz_su [(74, 99999), (75, 99999)] [(53, 54), (53, 55), (74, 99999), (75, 99999), (89, 99999), (90, 99999)] = true from rfl)
                      refine fz_if_eq (tgt := 177) kX11_tries rfl (by decide) (fun c330 => ?_) (fun c330 => ?_)
                      · refine fz_aload_n kX11_tries rfl rfl ?_
                        refine fz_getR (t := 90) kX11_tries rfl rfl ?_
                        refine fz_iload kX11_tries rfl rfl ?_
                        refine fz_iload kX11_tries rfl rfl ?_
                        refine fz_iast (n := 4) kX11_tries rfl rfl (by omega) (by omega) ?_
                        refine fz_nmu (S := [(53, 54), (53, 55), (74, 99999), (75, 99999), (89, 99999), (90, 99999)]) (h0 := h) (fz_Iv_up hI324 (by decide) (show (0 : Int) ≤ (h 55 (x217.toNat)) by omega) (show ((h 55 (x217.toNat)) : Int) ≤ 7 by omega)) (fz_fr_up hf329 rfl) (fun H331 hI332 hf333 e334 => ?_)
                        have hXw335 : fz_Xw H331 := fz_Xw_eq (by rw [e334]; exact fz_up_o (by decide)) (by rw [e334]; exact fz_up_ne (by decide)) (by rw [e334]; exact fz_up_ne (by decide)) (by rw [e334]; exact fz_up_ne (by decide)) (by rw [e334]; exact fz_up_ne (by decide)) hXw326
                        clear e334
                        refine fz_aload_n kX11_tries rfl rfl ?_
                        refine fz_iload_n kX11_tries rfl rfl ?_
                        refine fz_iload kX11_tries rfl rfl ?_
                        refine fz_iload kX11_tries rfl rfl ?_
                        refine fz_iload kX11_tries rfl rfl ?_
                        refine fz_iconst ⟨by decide, by decide⟩ kX11_tries rfl ?_
                        refine fz_iaddN kX11_tries rfl (by omega) ?_
                        refine fz_eqi (y := (L + 1)) (by omega) ?_
                        refine fz_iload kX11_tries rfl rfl ?_
                        refine fz_aload_n kX11_tries rfl rfl ?_
                        refine fz_iload_n kX11_tries rfl rfl ?_
                        refine fz_iload kX11_tries rfl rfl ?_
                        refine fz_iload kX11_tries rfl rfl ?_
                        refine fz_callV (d' := 4) (M' := mX11_receivedIn) (As := [fz_i pe, fz_i (h 55 (x217.toNat)), fz_i z317]) (st := [fz_i su, fz_i (L + 1), fz_i z317, fz_i (h 55 (x217.toNat)), fz_i pe, fz_r 53]) kX11_tries rfl rfl vX11_receivedIn rfl rfl rfl rfl (Nat.le_of_ble_eq_true rfl) (Nat.le_of_ble_eq_true rfl) (by omega) (sX11_receivedIn H331 hI332 pe (h 55 (x217.toNat)) z317 hXw335 (by omega)) (fun H336 r337 q338 o339 => ?_)
                        obtain ⟨hI340, hf341, hXw342, y344, rfl, f343⟩ := q338
                        clear o339
                        have hf345 := fz_fr_tr hf333 hf341 (show fz_su [(74, 99999), (75, 99999)] [(53, 54), (53, 55), (74, 99999), (75, 99999), (89, 99999), (90, 99999)] = true from rfl)
                        refine fz_iadd kX11_tries rfl ?_
                        refine fz_nmw (fun z346 e347 => ?_)
                        refine fz_callV (d' := De) (M' := mX11_tries) (As := [fz_i pe, fz_i (h 55 (x217.toNat)), fz_i z317, fz_i (L + 1), fz_i z346]) (st := []) kX11_tries rfl rfl vX11_tries rfl rfl rfl rfl (Nat.le_of_ble_eq_true rfl) (Nat.le_of_ble_eq_true rfl) (by omega) (ih H336 hI340 pe (h 55 (x217.toNat)) z317 z346 hXw342 (by omega)) (fun H348 r349 q350 o351 => ?_)
                        obtain ⟨hI352, hf353, hXw354, rfl⟩ := q350
                        clear o351
                        have hf355 := fz_fr_tr hf345 hf353 (show fz_su [(53, 54), (53, 55), (74, 99999), (75, 99999), (89, 99999), (90, 99999)] [(53, 54), (53, 55), (74, 99999), (75, 99999), (89, 99999), (90, 99999)] = true from rfl)
                        refine fz_iincN (ls' := [(6, fz_i (x217 + 1)), (8, fz_i z317), (7, fz_i (h 55 (x217.toNat))), (0, fz_r 53), (1, fz_i pe), (2, fz_i t), (3, fz_i hr), (4, fz_i L), (5, fz_i su)]) kX11_tries rfl (by decide) rfl (by omega) rfl ?_
                        refine fz_goto (tgt := 79) kX11_tries rfl (by decide) ?_
                        refine fz_sub (fz_pk_sub (ls' := [(6, fz_i (x217 + 1)), (0, fz_r 53), (1, fz_i pe), (2, fz_i t), (3, fz_i hr), (4, fz_i L), (5, fz_i su)]) [0, 3, 4, 5, 6, 7, 8] rfl) ?_
                        exact ih224 (x217 + 1) H348 hI352 hf355 hXw354 (by omega) (by omega)
                      · refine fz_goto (tgt := 211) kX11_tries rfl (by decide) ?_
                        refine fz_iincN (ls' := [(6, fz_i (x217 + 1)), (8, fz_i z317), (7, fz_i (h 55 (x217.toNat))), (0, fz_r 53), (1, fz_i pe), (2, fz_i t), (3, fz_i hr), (4, fz_i L), (5, fz_i su)]) kX11_tries rfl (by decide) rfl (by omega) rfl ?_
                        refine fz_goto (tgt := 79) kX11_tries rfl (by decide) ?_
                        refine fz_sub (fz_pk_sub (ls' := [(6, fz_i (x217 + 1)), (0, fz_r 53), (1, fz_i pe), (2, fz_i t), (3, fz_i hr), (4, fz_i L), (5, fz_i su)]) [0, 3, 4, 5, 6, 7, 8] rfl) ?_
                        exact ih224 (x217 + 1) H320 hI324 hf329 hXw326 (by omega) (by omega)
                  · refine fz_aload_n kX11_tries rfl rfl ?_
                    refine fz_getR (t := 56) kX11_tries rfl rfl ?_
                    refine fz_iload kX11_tries rfl rfl ?_
                    refine fz_ialdV (n := 12) (v := h 56 (x217.toNat)) kX11_tries rfl rfl (by omega) (by omega) (hf221 56 _ rfl) ?_
                    refine fz_goto (tgt := 141) kX11_tries rfl (by decide) ?_
                    refine fz_istore (ls' := [(7, fz_i (h 56 (x217.toNat))), (6, fz_i x217), (0, fz_r 53), (1, fz_i pe), (2, fz_i t), (3, fz_i hr), (4, fz_i L), (5, fz_i su)]) kX11_tries rfl (by decide) rfl ?_
                    refine fz_iload_n kX11_tries rfl rfl ?_
                    refine fz_aload_n kX11_tries rfl rfl ?_
                    refine fz_getR (t := 57) kX11_tries rfl rfl ?_
                    refine fz_iload kX11_tries rfl rfl ?_
                    refine fz_ialdV (n := 12) (v := h 57 (x217.toNat)) kX11_tries rfl rfl (by omega) (by omega) (hf221 57 _ rfl) ?_
                    have b356 : 0 ≤ h 57 (x217.toNat) ∧ h 57 (x217.toNat) ≤ 24 := hI.1 57 _
                    refine fz_iadd kX11_tries rfl ?_
                    refine fz_nmw (fun z357 e358 => ?_)
                    refine fz_istore (ls' := [(8, fz_i z357), (7, fz_i (h 56 (x217.toNat))), (6, fz_i x217), (0, fz_r 53), (1, fz_i pe), (2, fz_i t), (3, fz_i hr), (4, fz_i L), (5, fz_i su)]) kX11_tries rfl (by decide) rfl ?_
                    refine fz_iload kX11_tries rfl rfl ?_
                    refine fz_sipush ⟨by decide, by decide⟩ kX11_tries rfl ?_
                    refine fz_icmp_gt (tgt := 211) kX11_tries rfl (by decide) (fun c359 => ?_) (fun c359 => ?_)
                    · refine fz_iincN (ls' := [(6, fz_i (x217 + 1)), (8, fz_i z357), (7, fz_i (h 56 (x217.toNat))), (0, fz_r 53), (1, fz_i pe), (2, fz_i t), (3, fz_i hr), (4, fz_i L), (5, fz_i su)]) kX11_tries rfl (by decide) rfl (by omega) rfl ?_
                      refine fz_goto (tgt := 79) kX11_tries rfl (by decide) ?_
                      refine fz_sub (fz_pk_sub (ls' := [(6, fz_i (x217 + 1)), (0, fz_r 53), (1, fz_i pe), (2, fz_i t), (3, fz_i hr), (4, fz_i L), (5, fz_i su)]) [0, 3, 4, 5, 6, 7, 8] rfl) ?_
                      exact ih224 (x217 + 1) H219 hI220 hf221 hXw218 (by omega) (by omega)
                    · refine fz_aload_n kX11_tries rfl rfl ?_
                      refine fz_iload_n kX11_tries rfl rfl ?_
                      refine fz_iload kX11_tries rfl rfl ?_
                      refine fz_iload kX11_tries rfl rfl ?_
                      refine fz_callV (d' := 4) (M' := mX11_isArrested) (As := [fz_i pe, fz_i (h 56 (x217.toNat)), fz_i z357]) (st := []) kX11_tries rfl rfl vX11_isArrested rfl rfl rfl rfl (Nat.le_of_ble_eq_true rfl) (Nat.le_of_ble_eq_true rfl) (by omega) (sX11_isArrested H219 hI220 pe (h 56 (x217.toNat)) z357 hXw218 (by omega)) (fun H360 r361 q362 o363 => ?_)
                      obtain ⟨hI364, hf365, hXw366, y367, rfl, p368⟩ := q362
                      clear o363
                      have hf369 := fz_fr_tr hf221 hf365 (show fz_su [(74, 99999), (75, 99999)] [(53, 54), (53, 55), (74, 99999), (75, 99999), (89, 99999), (90, 99999)] = true from rfl)
                      refine fz_if_eq (tgt := 177) kX11_tries rfl (by decide) (fun c370 => ?_) (fun c370 => ?_)
                      · refine fz_aload_n kX11_tries rfl rfl ?_
                        refine fz_getR (t := 90) kX11_tries rfl rfl ?_
                        refine fz_iload kX11_tries rfl rfl ?_
                        refine fz_iload kX11_tries rfl rfl ?_
                        refine fz_iast (n := 4) kX11_tries rfl rfl (by omega) (by omega) ?_
                        refine fz_nmu (S := [(53, 54), (53, 55), (74, 99999), (75, 99999), (89, 99999), (90, 99999)]) (h0 := h) (fz_Iv_up hI364 (by decide) (show (0 : Int) ≤ (h 56 (x217.toNat)) by omega) (show ((h 56 (x217.toNat)) : Int) ≤ 7 by omega)) (fz_fr_up hf369 rfl) (fun H371 hI372 hf373 e374 => ?_)
                        have hXw375 : fz_Xw H371 := fz_Xw_eq (by rw [e374]; exact fz_up_o (by decide)) (by rw [e374]; exact fz_up_ne (by decide)) (by rw [e374]; exact fz_up_ne (by decide)) (by rw [e374]; exact fz_up_ne (by decide)) (by rw [e374]; exact fz_up_ne (by decide)) hXw366
                        clear e374
                        refine fz_aload_n kX11_tries rfl rfl ?_
                        refine fz_iload_n kX11_tries rfl rfl ?_
                        refine fz_iload kX11_tries rfl rfl ?_
                        refine fz_iload kX11_tries rfl rfl ?_
                        refine fz_iload kX11_tries rfl rfl ?_
                        refine fz_iconst ⟨by decide, by decide⟩ kX11_tries rfl ?_
                        refine fz_iaddN kX11_tries rfl (by omega) ?_
                        refine fz_eqi (y := (L + 1)) (by omega) ?_
                        refine fz_iload kX11_tries rfl rfl ?_
                        refine fz_aload_n kX11_tries rfl rfl ?_
                        refine fz_iload_n kX11_tries rfl rfl ?_
                        refine fz_iload kX11_tries rfl rfl ?_
                        refine fz_iload kX11_tries rfl rfl ?_
                        refine fz_callV (d' := 4) (M' := mX11_receivedIn) (As := [fz_i pe, fz_i (h 56 (x217.toNat)), fz_i z357]) (st := [fz_i su, fz_i (L + 1), fz_i z357, fz_i (h 56 (x217.toNat)), fz_i pe, fz_r 53]) kX11_tries rfl rfl vX11_receivedIn rfl rfl rfl rfl (Nat.le_of_ble_eq_true rfl) (Nat.le_of_ble_eq_true rfl) (by omega) (sX11_receivedIn H371 hI372 pe (h 56 (x217.toNat)) z357 hXw375 (by omega)) (fun H376 r377 q378 o379 => ?_)
                        obtain ⟨hI380, hf381, hXw382, y384, rfl, f383⟩ := q378
                        clear o379
                        have hf385 := fz_fr_tr hf373 hf381 (show fz_su [(74, 99999), (75, 99999)] [(53, 54), (53, 55), (74, 99999), (75, 99999), (89, 99999), (90, 99999)] = true from rfl)
                        refine fz_iadd kX11_tries rfl ?_
                        refine fz_nmw (fun z386 e387 => ?_)
                        refine fz_callV (d' := De) (M' := mX11_tries) (As := [fz_i pe, fz_i (h 56 (x217.toNat)), fz_i z357, fz_i (L + 1), fz_i z386]) (st := []) kX11_tries rfl rfl vX11_tries rfl rfl rfl rfl (Nat.le_of_ble_eq_true rfl) (Nat.le_of_ble_eq_true rfl) (by omega) (ih H376 hI380 pe (h 56 (x217.toNat)) z357 z386 hXw382 (by omega)) (fun H388 r389 q390 o391 => ?_)
                        obtain ⟨hI392, hf393, hXw394, rfl⟩ := q390
                        clear o391
                        have hf395 := fz_fr_tr hf385 hf393 (show fz_su [(53, 54), (53, 55), (74, 99999), (75, 99999), (89, 99999), (90, 99999)] [(53, 54), (53, 55), (74, 99999), (75, 99999), (89, 99999), (90, 99999)] = true from rfl)
                        refine fz_iincN (ls' := [(6, fz_i (x217 + 1)), (8, fz_i z357), (7, fz_i (h 56 (x217.toNat))), (0, fz_r 53), (1, fz_i pe), (2, fz_i t), (3, fz_i hr), (4, fz_i L), (5, fz_i su)]) kX11_tries rfl (by decide) rfl (by omega) rfl ?_
                        refine fz_goto (tgt := 79) kX11_tries rfl (by decide) ?_
                        refine fz_sub (fz_pk_sub (ls' := [(6, fz_i (x217 + 1)), (0, fz_r 53), (1, fz_i pe), (2, fz_i t), (3, fz_i hr), (4, fz_i L), (5, fz_i su)]) [0, 3, 4, 5, 6, 7, 8] rfl) ?_
                        exact ih224 (x217 + 1) H388 hI392 hf395 hXw394 (by omega) (by omega)
                      · refine fz_goto (tgt := 211) kX11_tries rfl (by decide) ?_
                        refine fz_iincN (ls' := [(6, fz_i (x217 + 1)), (8, fz_i z357), (7, fz_i (h 56 (x217.toNat))), (0, fz_r 53), (1, fz_i pe), (2, fz_i t), (3, fz_i hr), (4, fz_i L), (5, fz_i su)]) kX11_tries rfl (by decide) rfl (by omega) rfl ?_
                        refine fz_goto (tgt := 79) kX11_tries rfl (by decide) ?_
                        refine fz_sub (fz_pk_sub (ls' := [(6, fz_i (x217 + 1)), (0, fz_r 53), (1, fz_i pe), (2, fz_i t), (3, fz_i hr), (4, fz_i L), (5, fz_i su)]) [0, 3, 4, 5, 6, 7, 8] rfl) ?_
                        exact ih224 (x217 + 1) H360 hI364 hf369 hXw366 (by omega) (by omega)
                · refine fz_goto (tgt := 211) kX11_tries rfl (by decide) ?_
                  refine fz_iincN (ls' := [(6, fz_i (x217 + 1)), (0, fz_r 53), (1, fz_i pe), (2, fz_i t), (3, fz_i hr), (4, fz_i L), (5, fz_i su)]) kX11_tries rfl (by decide) rfl (by omega) rfl ?_
                  refine fz_goto (tgt := 79) kX11_tries rfl (by decide) ?_
                  exact ih224 (x217 + 1) H219 hI220 hf221 hXw218 (by omega) (by omega)
        exact lp223 _ 0 h hI hf hXw (by omega) (Nat.lt_succ_self _)
      · exfalso; omega
    · refine fz_aload_n kX11_tries rfl rfl ?_
      refine fz_iload kX11_tries rfl rfl ?_
      refine fz_callV (d' := 0) (M' := mX11_isAhead) (As := [fz_i L]) (st := []) kX11_tries rfl rfl vX11_isAhead rfl rfl rfl rfl (Nat.le_of_ble_eq_true rfl) (Nat.le_of_ble_eq_true rfl) (by omega) (sX11_isAhead h hI L (by omega)) (fun H396 r397 q398 o399 => ?_)
      obtain ⟨e400, y401, rfl, p402⟩ := q398
      subst H396
      clear o399
      refine fz_if_eq (tgt := 69) kX11_tries rfl (by decide) (fun c403 => ?_) (fun c403 => ?_)
      · refine fz_iload kX11_tries rfl rfl ?_
        refine fz_iconst ⟨by decide, by decide⟩ kX11_tries rfl ?_
        refine fz_icmp_ne (tgt := 76) kX11_tries rfl (by decide) (fun c404 => ?_) (fun c404 => ?_)
        · refine fz_iconst ⟨by decide, by decide⟩ kX11_tries rfl ?_
          refine fz_istore (ls' := [(6, fz_i 0), (0, fz_r 53), (1, fz_i pe), (2, fz_i t), (3, fz_i hr), (4, fz_i L), (5, fz_i su)]) kX11_tries rfl (by decide) rfl ?_
          have lp411 : ∀ (n410 : Nat) (x405 : Int) (H407 : fz_H), fz_Iv H407 → fz_fr [(53, 54), (53, 55), (74, 99999), (75, 99999), (89, 99999), (90, 99999)] h H407 → fz_Xw H407 → (0 ≤ x405 ∧ x405 ≤ 2147483647) → ((h 53 2) - x405).toNat < n410 → fz_R D mX11_tries 79 [(6, fz_i x405), (0, fz_r 53), (1, fz_i pe), (2, fz_i t), (3, fz_i hr), (4, fz_i L), (5, fz_i su)] [] H407 (qX11_tries_g h pe t hr su) := by
            intro n410
            induction n410 with
            | zero => intro x405 H407 hI408 hf409 hXw406 hv414 hm413; exact absurd hm413 (by omega)
            | succ n410 ih412 =>
              intro x405 H407 hI408 hf409 hXw406 hv414 hm413
              refine fz_iload kX11_tries rfl rfl ?_
              refine fz_aload_n kX11_tries rfl rfl ?_
              refine fz_getV (v := h 53 2) kX11_tries rfl rfl (hf409 53 2 rfl) ?_
              have b415 : 0 ≤ h 53 2 ∧ h 53 2 ≤ 12 := hI.1 53 _
              refine fz_icmp_ge (tgt := 217) kX11_tries rfl (by decide) (fun c416 => ?_) (fun c416 => ?_)
              · exact fz_vret kX11_tries rfl rfl ⟨hI408, hf409, hXw406, rfl⟩
              · refine fz_aload_n kX11_tries rfl rfl ?_
                refine fz_getR (t := 55) kX11_tries rfl rfl ?_
                refine fz_iload kX11_tries rfl rfl ?_
                refine fz_ialdV (n := 12) (v := h 55 (x405.toNat)) kX11_tries rfl rfl (by omega) (by omega) (hf409 55 _ rfl) ?_
                have b417 : 0 ≤ h 55 (x405.toNat) ∧ h 55 (x405.toNat) ≤ 7 := hI.1 55 _
                refine fz_iload_n kX11_tries rfl rfl ?_
                refine fz_icmp_eq (tgt := 113) kX11_tries rfl (by decide) (fun c418 => ?_) (fun c418 => ?_)
                · refine fz_aload_n kX11_tries rfl rfl ?_
                  refine fz_getR (t := 55) kX11_tries rfl rfl ?_
                  refine fz_iload kX11_tries rfl rfl ?_
                  refine fz_ialdV (n := 12) (v := h 55 (x405.toNat)) kX11_tries rfl rfl (by omega) (by omega) (hf409 55 _ rfl) ?_
                  refine fz_iload_n kX11_tries rfl rfl ?_
                  refine fz_icmp_ne (tgt := 134) kX11_tries rfl (by decide) (fun c419 => ?_) (fun c419 => ?_)
                  · refine fz_aload_n kX11_tries rfl rfl ?_
                    refine fz_getR (t := 55) kX11_tries rfl rfl ?_
                    refine fz_iload kX11_tries rfl rfl ?_
                    refine fz_ialdV (n := 12) (v := h 55 (x405.toNat)) kX11_tries rfl rfl (by omega) (by omega) (hf409 55 _ rfl) ?_
                    refine fz_istore (ls' := [(7, fz_i (h 55 (x405.toNat))), (6, fz_i x405), (0, fz_r 53), (1, fz_i pe), (2, fz_i t), (3, fz_i hr), (4, fz_i L), (5, fz_i su)]) kX11_tries rfl (by decide) rfl ?_
                    refine fz_iload_n kX11_tries rfl rfl ?_
                    refine fz_aload_n kX11_tries rfl rfl ?_
                    refine fz_getR (t := 57) kX11_tries rfl rfl ?_
                    refine fz_iload kX11_tries rfl rfl ?_
                    refine fz_ialdV (n := 12) (v := h 57 (x405.toNat)) kX11_tries rfl rfl (by omega) (by omega) (hf409 57 _ rfl) ?_
                    have b420 : 0 ≤ h 57 (x405.toNat) ∧ h 57 (x405.toNat) ≤ 24 := hI.1 57 _
                    refine fz_iadd kX11_tries rfl ?_
                    refine fz_nmw (fun z421 e422 => ?_)
                    refine fz_istore (ls' := [(8, fz_i z421), (7, fz_i (h 55 (x405.toNat))), (6, fz_i x405), (0, fz_r 53), (1, fz_i pe), (2, fz_i t), (3, fz_i hr), (4, fz_i L), (5, fz_i su)]) kX11_tries rfl (by decide) rfl ?_
                    refine fz_iload kX11_tries rfl rfl ?_
                    refine fz_sipush ⟨by decide, by decide⟩ kX11_tries rfl ?_
                    refine fz_icmp_gt (tgt := 211) kX11_tries rfl (by decide) (fun c423 => ?_) (fun c423 => ?_)
                    · refine fz_iincN (ls' := [(6, fz_i (x405 + 1)), (8, fz_i z421), (7, fz_i (h 55 (x405.toNat))), (0, fz_r 53), (1, fz_i pe), (2, fz_i t), (3, fz_i hr), (4, fz_i L), (5, fz_i su)]) kX11_tries rfl (by decide) rfl (by omega) rfl ?_
                      refine fz_goto (tgt := 79) kX11_tries rfl (by decide) ?_
                      refine fz_sub (fz_pk_sub (ls' := [(6, fz_i (x405 + 1)), (0, fz_r 53), (1, fz_i pe), (2, fz_i t), (3, fz_i hr), (4, fz_i L), (5, fz_i su)]) [0, 3, 4, 5, 6, 7, 8] rfl) ?_
                      exact ih412 (x405 + 1) H407 hI408 hf409 hXw406 (by omega) (by omega)
                    · refine fz_aload_n kX11_tries rfl rfl ?_
                      refine fz_iload_n kX11_tries rfl rfl ?_
                      refine fz_iload kX11_tries rfl rfl ?_
                      refine fz_iload kX11_tries rfl rfl ?_
                      refine fz_callV (d' := 4) (M' := mX11_isArrested) (As := [fz_i pe, fz_i (h 55 (x405.toNat)), fz_i z421]) (st := []) kX11_tries rfl rfl vX11_isArrested rfl rfl rfl rfl (Nat.le_of_ble_eq_true rfl) (Nat.le_of_ble_eq_true rfl) (by omega) (sX11_isArrested H407 hI408 pe (h 55 (x405.toNat)) z421 hXw406 (by omega)) (fun H424 r425 q426 o427 => ?_)
                      obtain ⟨hI428, hf429, hXw430, y431, rfl, p432⟩ := q426
                      clear o427
                      have hf433 := fz_fr_tr hf409 hf429 (show fz_su [(74, 99999), (75, 99999)] [(53, 54), (53, 55), (74, 99999), (75, 99999), (89, 99999), (90, 99999)] = true from rfl)
                      refine fz_if_eq (tgt := 177) kX11_tries rfl (by decide) (fun c434 => ?_) (fun c434 => ?_)
                      · refine fz_aload_n kX11_tries rfl rfl ?_
                        refine fz_getR (t := 90) kX11_tries rfl rfl ?_
                        refine fz_iload kX11_tries rfl rfl ?_
                        refine fz_iload kX11_tries rfl rfl ?_
                        refine fz_iast (n := 4) kX11_tries rfl rfl (by omega) (by omega) ?_
                        refine fz_nmu (S := [(53, 54), (53, 55), (74, 99999), (75, 99999), (89, 99999), (90, 99999)]) (h0 := h) (fz_Iv_up hI428 (by decide) (show (0 : Int) ≤ (h 55 (x405.toNat)) by omega) (show ((h 55 (x405.toNat)) : Int) ≤ 7 by omega)) (fz_fr_up hf433 rfl) (fun H435 hI436 hf437 e438 => ?_)
                        have hXw439 : fz_Xw H435 := fz_Xw_eq (by rw [e438]; exact fz_up_o (by decide)) (by rw [e438]; exact fz_up_ne (by decide)) (by rw [e438]; exact fz_up_ne (by decide)) (by rw [e438]; exact fz_up_ne (by decide)) (by rw [e438]; exact fz_up_ne (by decide)) hXw430
                        clear e438
                        refine fz_aload_n kX11_tries rfl rfl ?_
                        refine fz_iload_n kX11_tries rfl rfl ?_
                        refine fz_iload kX11_tries rfl rfl ?_
                        refine fz_iload kX11_tries rfl rfl ?_
                        refine fz_iload kX11_tries rfl rfl ?_
                        refine fz_iconst ⟨by decide, by decide⟩ kX11_tries rfl ?_
                        refine fz_iaddN kX11_tries rfl (by omega) ?_
                        refine fz_eqi (y := (L + 1)) (by omega) ?_
                        refine fz_iload kX11_tries rfl rfl ?_
                        refine fz_aload_n kX11_tries rfl rfl ?_
                        refine fz_iload_n kX11_tries rfl rfl ?_
                        refine fz_iload kX11_tries rfl rfl ?_
                        refine fz_iload kX11_tries rfl rfl ?_
                        refine fz_callV (d' := 4) (M' := mX11_receivedIn) (As := [fz_i pe, fz_i (h 55 (x405.toNat)), fz_i z421]) (st := [fz_i su, fz_i (L + 1), fz_i z421, fz_i (h 55 (x405.toNat)), fz_i pe, fz_r 53]) kX11_tries rfl rfl vX11_receivedIn rfl rfl rfl rfl (Nat.le_of_ble_eq_true rfl) (Nat.le_of_ble_eq_true rfl) (by omega) (sX11_receivedIn H435 hI436 pe (h 55 (x405.toNat)) z421 hXw439 (by omega)) (fun H440 r441 q442 o443 => ?_)
                        obtain ⟨hI444, hf445, hXw446, y448, rfl, f447⟩ := q442
                        clear o443
                        have hf449 := fz_fr_tr hf437 hf445 (show fz_su [(74, 99999), (75, 99999)] [(53, 54), (53, 55), (74, 99999), (75, 99999), (89, 99999), (90, 99999)] = true from rfl)
                        refine fz_iadd kX11_tries rfl ?_
                        refine fz_nmw (fun z450 e451 => ?_)
                        refine fz_callV (d' := De) (M' := mX11_tries) (As := [fz_i pe, fz_i (h 55 (x405.toNat)), fz_i z421, fz_i (L + 1), fz_i z450]) (st := []) kX11_tries rfl rfl vX11_tries rfl rfl rfl rfl (Nat.le_of_ble_eq_true rfl) (Nat.le_of_ble_eq_true rfl) (by omega) (ih H440 hI444 pe (h 55 (x405.toNat)) z421 z450 hXw446 (by omega)) (fun H452 r453 q454 o455 => ?_)
                        obtain ⟨hI456, hf457, hXw458, rfl⟩ := q454
                        clear o455
                        have hf459 := fz_fr_tr hf449 hf457 (show fz_su [(53, 54), (53, 55), (74, 99999), (75, 99999), (89, 99999), (90, 99999)] [(53, 54), (53, 55), (74, 99999), (75, 99999), (89, 99999), (90, 99999)] = true from rfl)
                        refine fz_iincN (ls' := [(6, fz_i (x405 + 1)), (8, fz_i z421), (7, fz_i (h 55 (x405.toNat))), (0, fz_r 53), (1, fz_i pe), (2, fz_i t), (3, fz_i hr), (4, fz_i L), (5, fz_i su)]) kX11_tries rfl (by decide) rfl (by omega) rfl ?_
                        refine fz_goto (tgt := 79) kX11_tries rfl (by decide) ?_
                        refine fz_sub (fz_pk_sub (ls' := [(6, fz_i (x405 + 1)), (0, fz_r 53), (1, fz_i pe), (2, fz_i t), (3, fz_i hr), (4, fz_i L), (5, fz_i su)]) [0, 3, 4, 5, 6, 7, 8] rfl) ?_
                        exact ih412 (x405 + 1) H452 hI456 hf459 hXw458 (by omega) (by omega)
                      · refine fz_goto (tgt := 211) kX11_tries rfl (by decide) ?_
                        refine fz_iincN (ls' := [(6, fz_i (x405 + 1)), (8, fz_i z421), (7, fz_i (h 55 (x405.toNat))), (0, fz_r 53), (1, fz_i pe), (2, fz_i t), (3, fz_i hr), (4, fz_i L), (5, fz_i su)]) kX11_tries rfl (by decide) rfl (by omega) rfl ?_
                        refine fz_goto (tgt := 79) kX11_tries rfl (by decide) ?_
                        refine fz_sub (fz_pk_sub (ls' := [(6, fz_i (x405 + 1)), (0, fz_r 53), (1, fz_i pe), (2, fz_i t), (3, fz_i hr), (4, fz_i L), (5, fz_i su)]) [0, 3, 4, 5, 6, 7, 8] rfl) ?_
                        exact ih412 (x405 + 1) H424 hI428 hf433 hXw430 (by omega) (by omega)
                  · refine fz_aload_n kX11_tries rfl rfl ?_
                    refine fz_getR (t := 56) kX11_tries rfl rfl ?_
                    refine fz_iload kX11_tries rfl rfl ?_
                    refine fz_ialdV (n := 12) (v := h 56 (x405.toNat)) kX11_tries rfl rfl (by omega) (by omega) (hf409 56 _ rfl) ?_
                    have b460 : 0 ≤ h 56 (x405.toNat) ∧ h 56 (x405.toNat) ≤ 7 := hI.1 56 _
                    refine fz_goto (tgt := 141) kX11_tries rfl (by decide) ?_
                    refine fz_istore (ls' := [(7, fz_i (h 56 (x405.toNat))), (6, fz_i x405), (0, fz_r 53), (1, fz_i pe), (2, fz_i t), (3, fz_i hr), (4, fz_i L), (5, fz_i su)]) kX11_tries rfl (by decide) rfl ?_
                    refine fz_iload_n kX11_tries rfl rfl ?_
                    refine fz_aload_n kX11_tries rfl rfl ?_
                    refine fz_getR (t := 57) kX11_tries rfl rfl ?_
                    refine fz_iload kX11_tries rfl rfl ?_
                    refine fz_ialdV (n := 12) (v := h 57 (x405.toNat)) kX11_tries rfl rfl (by omega) (by omega) (hf409 57 _ rfl) ?_
                    have b461 : 0 ≤ h 57 (x405.toNat) ∧ h 57 (x405.toNat) ≤ 24 := hI.1 57 _
                    refine fz_iadd kX11_tries rfl ?_
                    refine fz_nmw (fun z462 e463 => ?_)
                    refine fz_istore (ls' := [(8, fz_i z462), (7, fz_i (h 56 (x405.toNat))), (6, fz_i x405), (0, fz_r 53), (1, fz_i pe), (2, fz_i t), (3, fz_i hr), (4, fz_i L), (5, fz_i su)]) kX11_tries rfl (by decide) rfl ?_
                    refine fz_iload kX11_tries rfl rfl ?_
                    refine fz_sipush ⟨by decide, by decide⟩ kX11_tries rfl ?_
                    refine fz_icmp_gt (tgt := 211) kX11_tries rfl (by decide) (fun c464 => ?_) (fun c464 => ?_)
                    · refine fz_iincN (ls' := [(6, fz_i (x405 + 1)), (8, fz_i z462), (7, fz_i (h 56 (x405.toNat))), (0, fz_r 53), (1, fz_i pe), (2, fz_i t), (3, fz_i hr), (4, fz_i L), (5, fz_i su)]) kX11_tries rfl (by decide) rfl (by omega) rfl ?_
                      refine fz_goto (tgt := 79) kX11_tries rfl (by decide) ?_
                      refine fz_sub (fz_pk_sub (ls' := [(6, fz_i (x405 + 1)), (0, fz_r 53), (1, fz_i pe), (2, fz_i t), (3, fz_i hr), (4, fz_i L), (5, fz_i su)]) [0, 3, 4, 5, 6, 7, 8] rfl) ?_
                      exact ih412 (x405 + 1) H407 hI408 hf409 hXw406 (by omega) (by omega)
                    · refine fz_aload_n kX11_tries rfl rfl ?_
                      refine fz_iload_n kX11_tries rfl rfl ?_
                      refine fz_iload kX11_tries rfl rfl ?_
                      refine fz_iload kX11_tries rfl rfl ?_
                      refine fz_callV (d' := 4) (M' := mX11_isArrested) (As := [fz_i pe, fz_i (h 56 (x405.toNat)), fz_i z462]) (st := []) kX11_tries rfl rfl vX11_isArrested rfl rfl rfl rfl (Nat.le_of_ble_eq_true rfl) (Nat.le_of_ble_eq_true rfl) (by omega) (sX11_isArrested H407 hI408 pe (h 56 (x405.toNat)) z462 hXw406 (by omega)) (fun H465 r466 q467 o468 => ?_)
                      obtain ⟨hI469, hf470, hXw471, y472, rfl, p473⟩ := q467
                      clear o468
                      have hf474 := fz_fr_tr hf409 hf470 (show fz_su [(74, 99999), (75, 99999)] [(53, 54), (53, 55), (74, 99999), (75, 99999), (89, 99999), (90, 99999)] = true from rfl)
                      refine fz_if_eq (tgt := 177) kX11_tries rfl (by decide) (fun c475 => ?_) (fun c475 => ?_)
                      · refine fz_aload_n kX11_tries rfl rfl ?_
                        refine fz_getR (t := 90) kX11_tries rfl rfl ?_
                        refine fz_iload kX11_tries rfl rfl ?_
                        refine fz_iload kX11_tries rfl rfl ?_
                        refine fz_iast (n := 4) kX11_tries rfl rfl (by omega) (by omega) ?_
                        refine fz_nmu (S := [(53, 54), (53, 55), (74, 99999), (75, 99999), (89, 99999), (90, 99999)]) (h0 := h) (fz_Iv_up hI469 (by decide) (show (0 : Int) ≤ (h 56 (x405.toNat)) by omega) (show ((h 56 (x405.toNat)) : Int) ≤ 7 by omega)) (fz_fr_up hf474 rfl) (fun H476 hI477 hf478 e479 => ?_)
                        have hXw480 : fz_Xw H476 := fz_Xw_eq (by rw [e479]; exact fz_up_o (by decide)) (by rw [e479]; exact fz_up_ne (by decide)) (by rw [e479]; exact fz_up_ne (by decide)) (by rw [e479]; exact fz_up_ne (by decide)) (by rw [e479]; exact fz_up_ne (by decide)) hXw471
                        clear e479
                        refine fz_aload_n kX11_tries rfl rfl ?_
                        refine fz_iload_n kX11_tries rfl rfl ?_
                        refine fz_iload kX11_tries rfl rfl ?_
                        refine fz_iload kX11_tries rfl rfl ?_
                        refine fz_iload kX11_tries rfl rfl ?_
                        refine fz_iconst ⟨by decide, by decide⟩ kX11_tries rfl ?_
                        refine fz_iaddN kX11_tries rfl (by omega) ?_
                        refine fz_eqi (y := (L + 1)) (by omega) ?_
                        refine fz_iload kX11_tries rfl rfl ?_
                        refine fz_aload_n kX11_tries rfl rfl ?_
                        refine fz_iload_n kX11_tries rfl rfl ?_
                        refine fz_iload kX11_tries rfl rfl ?_
                        refine fz_iload kX11_tries rfl rfl ?_
                        refine fz_callV (d' := 4) (M' := mX11_receivedIn) (As := [fz_i pe, fz_i (h 56 (x405.toNat)), fz_i z462]) (st := [fz_i su, fz_i (L + 1), fz_i z462, fz_i (h 56 (x405.toNat)), fz_i pe, fz_r 53]) kX11_tries rfl rfl vX11_receivedIn rfl rfl rfl rfl (Nat.le_of_ble_eq_true rfl) (Nat.le_of_ble_eq_true rfl) (by omega) (sX11_receivedIn H476 hI477 pe (h 56 (x405.toNat)) z462 hXw480 (by omega)) (fun H481 r482 q483 o484 => ?_)
                        obtain ⟨hI485, hf486, hXw487, y489, rfl, f488⟩ := q483
                        clear o484
                        have hf490 := fz_fr_tr hf478 hf486 (show fz_su [(74, 99999), (75, 99999)] [(53, 54), (53, 55), (74, 99999), (75, 99999), (89, 99999), (90, 99999)] = true from rfl)
                        refine fz_iadd kX11_tries rfl ?_
                        refine fz_nmw (fun z491 e492 => ?_)
                        refine fz_callV (d' := De) (M' := mX11_tries) (As := [fz_i pe, fz_i (h 56 (x405.toNat)), fz_i z462, fz_i (L + 1), fz_i z491]) (st := []) kX11_tries rfl rfl vX11_tries rfl rfl rfl rfl (Nat.le_of_ble_eq_true rfl) (Nat.le_of_ble_eq_true rfl) (by omega) (ih H481 hI485 pe (h 56 (x405.toNat)) z462 z491 hXw487 (by omega)) (fun H493 r494 q495 o496 => ?_)
                        obtain ⟨hI497, hf498, hXw499, rfl⟩ := q495
                        clear o496
                        have hf500 := fz_fr_tr hf490 hf498 (show fz_su [(53, 54), (53, 55), (74, 99999), (75, 99999), (89, 99999), (90, 99999)] [(53, 54), (53, 55), (74, 99999), (75, 99999), (89, 99999), (90, 99999)] = true from rfl)
                        refine fz_iincN (ls' := [(6, fz_i (x405 + 1)), (8, fz_i z462), (7, fz_i (h 56 (x405.toNat))), (0, fz_r 53), (1, fz_i pe), (2, fz_i t), (3, fz_i hr), (4, fz_i L), (5, fz_i su)]) kX11_tries rfl (by decide) rfl (by omega) rfl ?_
                        refine fz_goto (tgt := 79) kX11_tries rfl (by decide) ?_
                        refine fz_sub (fz_pk_sub (ls' := [(6, fz_i (x405 + 1)), (0, fz_r 53), (1, fz_i pe), (2, fz_i t), (3, fz_i hr), (4, fz_i L), (5, fz_i su)]) [0, 3, 4, 5, 6, 7, 8] rfl) ?_
                        exact ih412 (x405 + 1) H493 hI497 hf500 hXw499 (by omega) (by omega)
                      · refine fz_goto (tgt := 211) kX11_tries rfl (by decide) ?_
                        refine fz_iincN (ls' := [(6, fz_i (x405 + 1)), (8, fz_i z462), (7, fz_i (h 56 (x405.toNat))), (0, fz_r 53), (1, fz_i pe), (2, fz_i t), (3, fz_i hr), (4, fz_i L), (5, fz_i su)]) kX11_tries rfl (by decide) rfl (by omega) rfl ?_
                        refine fz_goto (tgt := 79) kX11_tries rfl (by decide) ?_
                        refine fz_sub (fz_pk_sub (ls' := [(6, fz_i (x405 + 1)), (0, fz_r 53), (1, fz_i pe), (2, fz_i t), (3, fz_i hr), (4, fz_i L), (5, fz_i su)]) [0, 3, 4, 5, 6, 7, 8] rfl) ?_
                        exact ih412 (x405 + 1) H465 hI469 hf474 hXw471 (by omega) (by omega)
                · refine fz_aload_n kX11_tries rfl rfl ?_
                  refine fz_getR (t := 56) kX11_tries rfl rfl ?_
                  refine fz_iload kX11_tries rfl rfl ?_
                  refine fz_ialdV (n := 12) (v := h 56 (x405.toNat)) kX11_tries rfl rfl (by omega) (by omega) (hf409 56 _ rfl) ?_
                  have b501 : 0 ≤ h 56 (x405.toNat) ∧ h 56 (x405.toNat) ≤ 7 := hI.1 56 _
                  refine fz_iload_n kX11_tries rfl rfl ?_
                  refine fz_icmp_eq (tgt := 113) kX11_tries rfl (by decide) (fun c502 => ?_) (fun c502 => ?_)
                  · refine fz_aload_n kX11_tries rfl rfl ?_
                    refine fz_getR (t := 55) kX11_tries rfl rfl ?_
                    refine fz_iload kX11_tries rfl rfl ?_
                    refine fz_ialdV (n := 12) (v := h 55 (x405.toNat)) kX11_tries rfl rfl (by omega) (by omega) (hf409 55 _ rfl) ?_
                    refine fz_iload_n kX11_tries rfl rfl ?_
                    refine fz_icmp_ne (tgt := 134) kX11_tries rfl (by decide) (fun c503 => ?_) (fun c503 => ?_)
                    · refine fz_aload_n kX11_tries rfl rfl ?_
                      refine fz_getR (t := 55) kX11_tries rfl rfl ?_
                      refine fz_iload kX11_tries rfl rfl ?_
                      refine fz_ialdV (n := 12) (v := h 55 (x405.toNat)) kX11_tries rfl rfl (by omega) (by omega) (hf409 55 _ rfl) ?_
                      refine fz_istore (ls' := [(7, fz_i (h 55 (x405.toNat))), (6, fz_i x405), (0, fz_r 53), (1, fz_i pe), (2, fz_i t), (3, fz_i hr), (4, fz_i L), (5, fz_i su)]) kX11_tries rfl (by decide) rfl ?_
                      refine fz_iload_n kX11_tries rfl rfl ?_
                      refine fz_aload_n kX11_tries rfl rfl ?_
                      refine fz_getR (t := 57) kX11_tries rfl rfl ?_
                      refine fz_iload kX11_tries rfl rfl ?_
                      refine fz_ialdV (n := 12) (v := h 57 (x405.toNat)) kX11_tries rfl rfl (by omega) (by omega) (hf409 57 _ rfl) ?_
                      have b504 : 0 ≤ h 57 (x405.toNat) ∧ h 57 (x405.toNat) ≤ 24 := hI.1 57 _
                      refine fz_iadd kX11_tries rfl ?_
                      refine fz_nmw (fun z505 e506 => ?_)
                      refine fz_istore (ls' := [(8, fz_i z505), (7, fz_i (h 55 (x405.toNat))), (6, fz_i x405), (0, fz_r 53), (1, fz_i pe), (2, fz_i t), (3, fz_i hr), (4, fz_i L), (5, fz_i su)]) kX11_tries rfl (by decide) rfl ?_
                      refine fz_iload kX11_tries rfl rfl ?_
                      refine fz_sipush ⟨by decide, by decide⟩ kX11_tries rfl ?_
                      refine fz_icmp_gt (tgt := 211) kX11_tries rfl (by decide) (fun c507 => ?_) (fun c507 => ?_)
                      · refine fz_iincN (ls' := [(6, fz_i (x405 + 1)), (8, fz_i z505), (7, fz_i (h 55 (x405.toNat))), (0, fz_r 53), (1, fz_i pe), (2, fz_i t), (3, fz_i hr), (4, fz_i L), (5, fz_i su)]) kX11_tries rfl (by decide) rfl (by omega) rfl ?_
                        refine fz_goto (tgt := 79) kX11_tries rfl (by decide) ?_
                        refine fz_sub (fz_pk_sub (ls' := [(6, fz_i (x405 + 1)), (0, fz_r 53), (1, fz_i pe), (2, fz_i t), (3, fz_i hr), (4, fz_i L), (5, fz_i su)]) [0, 3, 4, 5, 6, 7, 8] rfl) ?_
                        exact ih412 (x405 + 1) H407 hI408 hf409 hXw406 (by omega) (by omega)
                      · refine fz_aload_n kX11_tries rfl rfl ?_
                        refine fz_iload_n kX11_tries rfl rfl ?_
                        refine fz_iload kX11_tries rfl rfl ?_
                        refine fz_iload kX11_tries rfl rfl ?_
                        refine fz_callV (d' := 4) (M' := mX11_isArrested) (As := [fz_i pe, fz_i (h 55 (x405.toNat)), fz_i z505]) (st := []) kX11_tries rfl rfl vX11_isArrested rfl rfl rfl rfl (Nat.le_of_ble_eq_true rfl) (Nat.le_of_ble_eq_true rfl) (by omega) (sX11_isArrested H407 hI408 pe (h 55 (x405.toNat)) z505 hXw406 (by omega)) (fun H508 r509 q510 o511 => ?_)
                        obtain ⟨hI512, hf513, hXw514, y515, rfl, p516⟩ := q510
                        clear o511
                        have hf517 := fz_fr_tr hf409 hf513 (show fz_su [(74, 99999), (75, 99999)] [(53, 54), (53, 55), (74, 99999), (75, 99999), (89, 99999), (90, 99999)] = true from rfl)
                        refine fz_if_eq (tgt := 177) kX11_tries rfl (by decide) (fun c518 => ?_) (fun c518 => ?_)
                        · refine fz_aload_n kX11_tries rfl rfl ?_
                          refine fz_getR (t := 90) kX11_tries rfl rfl ?_
                          refine fz_iload kX11_tries rfl rfl ?_
                          refine fz_iload kX11_tries rfl rfl ?_
                          refine fz_iast (n := 4) kX11_tries rfl rfl (by omega) (by omega) ?_
                          refine fz_nmu (S := [(53, 54), (53, 55), (74, 99999), (75, 99999), (89, 99999), (90, 99999)]) (h0 := h) (fz_Iv_up hI512 (by decide) (show (0 : Int) ≤ (h 55 (x405.toNat)) by omega) (show ((h 55 (x405.toNat)) : Int) ≤ 7 by omega)) (fz_fr_up hf517 rfl) (fun H519 hI520 hf521 e522 => ?_)
                          have hXw523 : fz_Xw H519 := fz_Xw_eq (by rw [e522]; exact fz_up_o (by decide)) (by rw [e522]; exact fz_up_ne (by decide)) (by rw [e522]; exact fz_up_ne (by decide)) (by rw [e522]; exact fz_up_ne (by decide)) (by rw [e522]; exact fz_up_ne (by decide)) hXw514
                          clear e522
                          refine fz_aload_n kX11_tries rfl rfl ?_
                          refine fz_iload_n kX11_tries rfl rfl ?_
                          refine fz_iload kX11_tries rfl rfl ?_
                          refine fz_iload kX11_tries rfl rfl ?_
                          refine fz_iload kX11_tries rfl rfl ?_
                          refine fz_iconst ⟨by decide, by decide⟩ kX11_tries rfl ?_
                          refine fz_iaddN kX11_tries rfl (by omega) ?_
                          refine fz_eqi (y := (L + 1)) (by omega) ?_
                          refine fz_iload kX11_tries rfl rfl ?_
                          refine fz_aload_n kX11_tries rfl rfl ?_
                          refine fz_iload_n kX11_tries rfl rfl ?_
                          refine fz_iload kX11_tries rfl rfl ?_
                          refine fz_iload kX11_tries rfl rfl ?_
                          refine fz_callV (d' := 4) (M' := mX11_receivedIn) (As := [fz_i pe, fz_i (h 55 (x405.toNat)), fz_i z505]) (st := [fz_i su, fz_i (L + 1), fz_i z505, fz_i (h 55 (x405.toNat)), fz_i pe, fz_r 53]) kX11_tries rfl rfl vX11_receivedIn rfl rfl rfl rfl (Nat.le_of_ble_eq_true rfl) (Nat.le_of_ble_eq_true rfl) (by omega) (sX11_receivedIn H519 hI520 pe (h 55 (x405.toNat)) z505 hXw523 (by omega)) (fun H524 r525 q526 o527 => ?_)
                          obtain ⟨hI528, hf529, hXw530, y532, rfl, f531⟩ := q526
                          clear o527
                          have hf533 := fz_fr_tr hf521 hf529 (show fz_su [(74, 99999), (75, 99999)] [(53, 54), (53, 55), (74, 99999), (75, 99999), (89, 99999), (90, 99999)] = true from rfl)
                          refine fz_iadd kX11_tries rfl ?_
                          refine fz_nmw (fun z534 e535 => ?_)
                          refine fz_callV (d' := De) (M' := mX11_tries) (As := [fz_i pe, fz_i (h 55 (x405.toNat)), fz_i z505, fz_i (L + 1), fz_i z534]) (st := []) kX11_tries rfl rfl vX11_tries rfl rfl rfl rfl (Nat.le_of_ble_eq_true rfl) (Nat.le_of_ble_eq_true rfl) (by omega) (ih H524 hI528 pe (h 55 (x405.toNat)) z505 z534 hXw530 (by omega)) (fun H536 r537 q538 o539 => ?_)
                          obtain ⟨hI540, hf541, hXw542, rfl⟩ := q538
                          clear o539
                          have hf543 := fz_fr_tr hf533 hf541 (show fz_su [(53, 54), (53, 55), (74, 99999), (75, 99999), (89, 99999), (90, 99999)] [(53, 54), (53, 55), (74, 99999), (75, 99999), (89, 99999), (90, 99999)] = true from rfl)
                          refine fz_iincN (ls' := [(6, fz_i (x405 + 1)), (8, fz_i z505), (7, fz_i (h 55 (x405.toNat))), (0, fz_r 53), (1, fz_i pe), (2, fz_i t), (3, fz_i hr), (4, fz_i L), (5, fz_i su)]) kX11_tries rfl (by decide) rfl (by omega) rfl ?_
                          refine fz_goto (tgt := 79) kX11_tries rfl (by decide) ?_
                          refine fz_sub (fz_pk_sub (ls' := [(6, fz_i (x405 + 1)), (0, fz_r 53), (1, fz_i pe), (2, fz_i t), (3, fz_i hr), (4, fz_i L), (5, fz_i su)]) [0, 3, 4, 5, 6, 7, 8] rfl) ?_
                          exact ih412 (x405 + 1) H536 hI540 hf543 hXw542 (by omega) (by omega)
                        · refine fz_goto (tgt := 211) kX11_tries rfl (by decide) ?_
                          refine fz_iincN (ls' := [(6, fz_i (x405 + 1)), (8, fz_i z505), (7, fz_i (h 55 (x405.toNat))), (0, fz_r 53), (1, fz_i pe), (2, fz_i t), (3, fz_i hr), (4, fz_i L), (5, fz_i su)]) kX11_tries rfl (by decide) rfl (by omega) rfl ?_
                          refine fz_goto (tgt := 79) kX11_tries rfl (by decide) ?_
                          refine fz_sub (fz_pk_sub (ls' := [(6, fz_i (x405 + 1)), (0, fz_r 53), (1, fz_i pe), (2, fz_i t), (3, fz_i hr), (4, fz_i L), (5, fz_i su)]) [0, 3, 4, 5, 6, 7, 8] rfl) ?_
                          exact ih412 (x405 + 1) H508 hI512 hf517 hXw514 (by omega) (by omega)
                    · refine fz_aload_n kX11_tries rfl rfl ?_
                      refine fz_getR (t := 56) kX11_tries rfl rfl ?_
                      refine fz_iload kX11_tries rfl rfl ?_
                      refine fz_ialdV (n := 12) (v := h 56 (x405.toNat)) kX11_tries rfl rfl (by omega) (by omega) (hf409 56 _ rfl) ?_
                      refine fz_goto (tgt := 141) kX11_tries rfl (by decide) ?_
                      refine fz_istore (ls' := [(7, fz_i (h 56 (x405.toNat))), (6, fz_i x405), (0, fz_r 53), (1, fz_i pe), (2, fz_i t), (3, fz_i hr), (4, fz_i L), (5, fz_i su)]) kX11_tries rfl (by decide) rfl ?_
                      refine fz_iload_n kX11_tries rfl rfl ?_
                      refine fz_aload_n kX11_tries rfl rfl ?_
                      refine fz_getR (t := 57) kX11_tries rfl rfl ?_
                      refine fz_iload kX11_tries rfl rfl ?_
                      refine fz_ialdV (n := 12) (v := h 57 (x405.toNat)) kX11_tries rfl rfl (by omega) (by omega) (hf409 57 _ rfl) ?_
                      have b544 : 0 ≤ h 57 (x405.toNat) ∧ h 57 (x405.toNat) ≤ 24 := hI.1 57 _
                      refine fz_iadd kX11_tries rfl ?_
                      refine fz_nmw (fun z545 e546 => ?_)
                      refine fz_istore (ls' := [(8, fz_i z545), (7, fz_i (h 56 (x405.toNat))), (6, fz_i x405), (0, fz_r 53), (1, fz_i pe), (2, fz_i t), (3, fz_i hr), (4, fz_i L), (5, fz_i su)]) kX11_tries rfl (by decide) rfl ?_
                      refine fz_iload kX11_tries rfl rfl ?_
                      refine fz_sipush ⟨by decide, by decide⟩ kX11_tries rfl ?_
                      refine fz_icmp_gt (tgt := 211) kX11_tries rfl (by decide) (fun c547 => ?_) (fun c547 => ?_)
                      · refine fz_iincN (ls' := [(6, fz_i (x405 + 1)), (8, fz_i z545), (7, fz_i (h 56 (x405.toNat))), (0, fz_r 53), (1, fz_i pe), (2, fz_i t), (3, fz_i hr), (4, fz_i L), (5, fz_i su)]) kX11_tries rfl (by decide) rfl (by omega) rfl ?_
                        refine fz_goto (tgt := 79) kX11_tries rfl (by decide) ?_
                        refine fz_sub (fz_pk_sub (ls' := [(6, fz_i (x405 + 1)), (0, fz_r 53), (1, fz_i pe), (2, fz_i t), (3, fz_i hr), (4, fz_i L), (5, fz_i su)]) [0, 3, 4, 5, 6, 7, 8] rfl) ?_
                        exact ih412 (x405 + 1) H407 hI408 hf409 hXw406 (by omega) (by omega)
                      · refine fz_aload_n kX11_tries rfl rfl ?_
                        refine fz_iload_n kX11_tries rfl rfl ?_
                        refine fz_iload kX11_tries rfl rfl ?_
                        refine fz_iload kX11_tries rfl rfl ?_
                        refine fz_callV (d' := 4) (M' := mX11_isArrested) (As := [fz_i pe, fz_i (h 56 (x405.toNat)), fz_i z545]) (st := []) kX11_tries rfl rfl vX11_isArrested rfl rfl rfl rfl (Nat.le_of_ble_eq_true rfl) (Nat.le_of_ble_eq_true rfl) (by omega) (sX11_isArrested H407 hI408 pe (h 56 (x405.toNat)) z545 hXw406 (by omega)) (fun H548 r549 q550 o551 => ?_)
                        obtain ⟨hI552, hf553, hXw554, y555, rfl, p556⟩ := q550
                        clear o551
                        have hf557 := fz_fr_tr hf409 hf553 (show fz_su [(74, 99999), (75, 99999)] [(53, 54), (53, 55), (74, 99999), (75, 99999), (89, 99999), (90, 99999)] = true from rfl)
                        refine fz_if_eq (tgt := 177) kX11_tries rfl (by decide) (fun c558 => ?_) (fun c558 => ?_)
                        · refine fz_aload_n kX11_tries rfl rfl ?_
                          refine fz_getR (t := 90) kX11_tries rfl rfl ?_
                          refine fz_iload kX11_tries rfl rfl ?_
                          refine fz_iload kX11_tries rfl rfl ?_
                          refine fz_iast (n := 4) kX11_tries rfl rfl (by omega) (by omega) ?_
                          refine fz_nmu (S := [(53, 54), (53, 55), (74, 99999), (75, 99999), (89, 99999), (90, 99999)]) (h0 := h) (fz_Iv_up hI552 (by decide) (show (0 : Int) ≤ (h 56 (x405.toNat)) by omega) (show ((h 56 (x405.toNat)) : Int) ≤ 7 by omega)) (fz_fr_up hf557 rfl) (fun H559 hI560 hf561 e562 => ?_)
                          have hXw563 : fz_Xw H559 := fz_Xw_eq (by rw [e562]; exact fz_up_o (by decide)) (by rw [e562]; exact fz_up_ne (by decide)) (by rw [e562]; exact fz_up_ne (by decide)) (by rw [e562]; exact fz_up_ne (by decide)) (by rw [e562]; exact fz_up_ne (by decide)) hXw554
                          clear e562
                          refine fz_aload_n kX11_tries rfl rfl ?_
                          refine fz_iload_n kX11_tries rfl rfl ?_
                          refine fz_iload kX11_tries rfl rfl ?_
                          refine fz_iload kX11_tries rfl rfl ?_
                          refine fz_iload kX11_tries rfl rfl ?_
                          refine fz_iconst ⟨by decide, by decide⟩ kX11_tries rfl ?_
                          refine fz_iaddN kX11_tries rfl (by omega) ?_
                          refine fz_eqi (y := (L + 1)) (by omega) ?_
                          refine fz_iload kX11_tries rfl rfl ?_
                          refine fz_aload_n kX11_tries rfl rfl ?_
                          refine fz_iload_n kX11_tries rfl rfl ?_
                          refine fz_iload kX11_tries rfl rfl ?_
                          refine fz_iload kX11_tries rfl rfl ?_
                          refine fz_callV (d' := 4) (M' := mX11_receivedIn) (As := [fz_i pe, fz_i (h 56 (x405.toNat)), fz_i z545]) (st := [fz_i su, fz_i (L + 1), fz_i z545, fz_i (h 56 (x405.toNat)), fz_i pe, fz_r 53]) kX11_tries rfl rfl vX11_receivedIn rfl rfl rfl rfl (Nat.le_of_ble_eq_true rfl) (Nat.le_of_ble_eq_true rfl) (by omega) (sX11_receivedIn H559 hI560 pe (h 56 (x405.toNat)) z545 hXw563 (by omega)) (fun H564 r565 q566 o567 => ?_)
                          obtain ⟨hI568, hf569, hXw570, y572, rfl, f571⟩ := q566
                          clear o567
                          have hf573 := fz_fr_tr hf561 hf569 (show fz_su [(74, 99999), (75, 99999)] [(53, 54), (53, 55), (74, 99999), (75, 99999), (89, 99999), (90, 99999)] = true from rfl)
                          refine fz_iadd kX11_tries rfl ?_
                          refine fz_nmw (fun z574 e575 => ?_)
                          refine fz_callV (d' := De) (M' := mX11_tries) (As := [fz_i pe, fz_i (h 56 (x405.toNat)), fz_i z545, fz_i (L + 1), fz_i z574]) (st := []) kX11_tries rfl rfl vX11_tries rfl rfl rfl rfl (Nat.le_of_ble_eq_true rfl) (Nat.le_of_ble_eq_true rfl) (by omega) (ih H564 hI568 pe (h 56 (x405.toNat)) z545 z574 hXw570 (by omega)) (fun H576 r577 q578 o579 => ?_)
                          obtain ⟨hI580, hf581, hXw582, rfl⟩ := q578
                          clear o579
                          have hf583 := fz_fr_tr hf573 hf581 (show fz_su [(53, 54), (53, 55), (74, 99999), (75, 99999), (89, 99999), (90, 99999)] [(53, 54), (53, 55), (74, 99999), (75, 99999), (89, 99999), (90, 99999)] = true from rfl)
                          refine fz_iincN (ls' := [(6, fz_i (x405 + 1)), (8, fz_i z545), (7, fz_i (h 56 (x405.toNat))), (0, fz_r 53), (1, fz_i pe), (2, fz_i t), (3, fz_i hr), (4, fz_i L), (5, fz_i su)]) kX11_tries rfl (by decide) rfl (by omega) rfl ?_
                          refine fz_goto (tgt := 79) kX11_tries rfl (by decide) ?_
                          refine fz_sub (fz_pk_sub (ls' := [(6, fz_i (x405 + 1)), (0, fz_r 53), (1, fz_i pe), (2, fz_i t), (3, fz_i hr), (4, fz_i L), (5, fz_i su)]) [0, 3, 4, 5, 6, 7, 8] rfl) ?_
                          exact ih412 (x405 + 1) H576 hI580 hf583 hXw582 (by omega) (by omega)
                        · refine fz_goto (tgt := 211) kX11_tries rfl (by decide) ?_
                          refine fz_iincN (ls' := [(6, fz_i (x405 + 1)), (8, fz_i z545), (7, fz_i (h 56 (x405.toNat))), (0, fz_r 53), (1, fz_i pe), (2, fz_i t), (3, fz_i hr), (4, fz_i L), (5, fz_i su)]) kX11_tries rfl (by decide) rfl (by omega) rfl ?_
                          refine fz_goto (tgt := 79) kX11_tries rfl (by decide) ?_
                          refine fz_sub (fz_pk_sub (ls' := [(6, fz_i (x405 + 1)), (0, fz_r 53), (1, fz_i pe), (2, fz_i t), (3, fz_i hr), (4, fz_i L), (5, fz_i su)]) [0, 3, 4, 5, 6, 7, 8] rfl) ?_
                          exact ih412 (x405 + 1) H548 hI552 hf557 hXw554 (by omega) (by omega)
                  · refine fz_goto (tgt := 211) kX11_tries rfl (by decide) ?_
                    refine fz_iincN (ls' := [(6, fz_i (x405 + 1)), (0, fz_r 53), (1, fz_i pe), (2, fz_i t), (3, fz_i hr), (4, fz_i L), (5, fz_i su)]) kX11_tries rfl (by decide) rfl (by omega) rfl ?_
                    refine fz_goto (tgt := 79) kX11_tries rfl (by decide) ?_
                    exact ih412 (x405 + 1) H407 hI408 hf409 hXw406 (by omega) (by omega)
          exact lp411 _ 0 h hI hf hXw (by omega) (Nat.lt_succ_self _)
        · exfalso; omega
      · refine fz_aload_n kX11_tries rfl rfl ?_
        refine fz_iload kX11_tries rfl rfl ?_
        refine fz_putI kX11_tries rfl rfl rfl ?_
        refine fz_nmu (S := [(53, 54), (53, 55), (74, 99999), (75, 99999), (89, 99999), (90, 99999)]) (h0 := h) (fz_Iv_up hI (by decide) (show ((-2147483648) : Int) ≤ su by omega) (show (su : Int) ≤ 2147483647 by omega)) (fz_fr_up hf rfl) (fun H584 hI585 hf586 e587 => ?_)
        have k588 : H584 53 54 = su := by rw [e587]; exact fz_up_e
        have hXw589 : fz_Xw H584 := fz_Xw_eq (by rw [e587]; exact fz_up_s (by decide)) (by rw [e587]; exact fz_up_ne (by decide)) (by rw [e587]; exact fz_up_ne (by decide)) (by rw [e587]; exact fz_up_ne (by decide)) (by rw [e587]; exact fz_up_ne (by decide)) hXw
        clear e587
        refine fz_aload_n kX11_tries rfl rfl ?_
        refine fz_iload kX11_tries rfl rfl ?_
        refine fz_putI kX11_tries rfl rfl rfl ?_
        refine fz_nmu (S := [(53, 54), (53, 55), (74, 99999), (75, 99999), (89, 99999), (90, 99999)]) (h0 := h) (fz_Iv_up hI585 (by decide) (show (0 : Int) ≤ L by omega) (show (L : Int) ≤ 4 by omega)) (fz_fr_up hf586 rfl) (fun H590 hI591 hf592 e593 => ?_)
        have k594 : H590 53 54 = su := by rw [e593]; exact (fz_up_s (by decide)).trans k588
        have k595 : H590 53 55 = L := by rw [e593]; exact fz_up_e
        have hXw596 : fz_Xw H590 := fz_Xw_eq (by rw [e593]; exact fz_up_s (by decide)) (by rw [e593]; exact fz_up_ne (by decide)) (by rw [e593]; exact fz_up_ne (by decide)) (by rw [e593]; exact fz_up_ne (by decide)) (by rw [e593]; exact fz_up_ne (by decide)) hXw589
        clear e593
        refine fz_iconst ⟨by decide, by decide⟩ kX11_tries rfl ?_
        refine fz_istore (ls' := [(6, fz_i 0), (0, fz_r 53), (1, fz_i pe), (2, fz_i t), (3, fz_i hr), (4, fz_i L), (5, fz_i su)]) kX11_tries rfl (by decide) rfl ?_
        have lp603 : ∀ (n602 : Nat) (x597 : Int) (H599 : fz_H), fz_Iv H599 → fz_fr [(53, 54), (53, 55), (74, 99999), (75, 99999), (89, 99999), (90, 99999)] h H599 → fz_Xw H599 → (0 ≤ x597 ∧ x597 ≤ 2147483647) → (L - x597).toNat < n602 → fz_R D mX11_tries 42 [(6, fz_i x597), (0, fz_r 53), (1, fz_i pe), (2, fz_i t), (3, fz_i hr), (4, fz_i L), (5, fz_i su)] [] H599 (qX11_tries_g h pe t hr su) := by
          intro n602
          induction n602 with
          | zero => intro x597 H599 hI600 hf601 hXw598 hv606 hm605; exact absurd hm605 (by omega)
          | succ n602 ih604 =>
            intro x597 H599 hI600 hf601 hXw598 hv606 hm605
            refine fz_iload kX11_tries rfl rfl ?_
            refine fz_iload kX11_tries rfl rfl ?_
            refine fz_icmp_ge (tgt := 69) kX11_tries rfl (by decide) (fun c607 => ?_) (fun c607 => ?_)
            · refine fz_iload kX11_tries rfl rfl ?_
              refine fz_iconst ⟨by decide, by decide⟩ kX11_tries rfl ?_
              refine fz_icmp_ne (tgt := 76) kX11_tries rfl (by decide) (fun c608 => ?_) (fun c608 => ?_)
              · refine fz_iconst ⟨by decide, by decide⟩ kX11_tries rfl ?_
                refine fz_istore (ls' := [(6, fz_i 0), (0, fz_r 53), (1, fz_i pe), (2, fz_i t), (3, fz_i hr), (4, fz_i L), (5, fz_i su)]) kX11_tries rfl (by decide) rfl ?_
                have lp615 : ∀ (n614 : Nat) (x609 : Int) (H611 : fz_H), fz_Iv H611 → fz_fr [(53, 54), (53, 55), (74, 99999), (75, 99999), (89, 99999), (90, 99999)] h H611 → fz_Xw H611 → (0 ≤ x609 ∧ x609 ≤ 2147483647) → ((h 53 2) - x609).toNat < n614 → fz_R D mX11_tries 79 [(6, fz_i x609), (0, fz_r 53), (1, fz_i pe), (2, fz_i t), (3, fz_i hr), (4, fz_i L), (5, fz_i su)] [] H611 (qX11_tries_g h pe t hr su) := by
                  intro n614
                  induction n614 with
                  | zero => intro x609 H611 hI612 hf613 hXw610 hv618 hm617; exact absurd hm617 (by omega)
                  | succ n614 ih616 =>
                    intro x609 H611 hI612 hf613 hXw610 hv618 hm617
                    refine fz_iload kX11_tries rfl rfl ?_
                    refine fz_aload_n kX11_tries rfl rfl ?_
                    refine fz_getV (v := h 53 2) kX11_tries rfl rfl (hf613 53 2 rfl) ?_
                    have b619 : 0 ≤ h 53 2 ∧ h 53 2 ≤ 12 := hI.1 53 _
                    refine fz_icmp_ge (tgt := 217) kX11_tries rfl (by decide) (fun c620 => ?_) (fun c620 => ?_)
                    · exact fz_vret kX11_tries rfl rfl ⟨hI612, hf613, hXw610, rfl⟩
                    · refine fz_aload_n kX11_tries rfl rfl ?_
                      refine fz_getR (t := 55) kX11_tries rfl rfl ?_
                      refine fz_iload kX11_tries rfl rfl ?_
                      refine fz_ialdV (n := 12) (v := h 55 (x609.toNat)) kX11_tries rfl rfl (by omega) (by omega) (hf613 55 _ rfl) ?_
                      have b621 : 0 ≤ h 55 (x609.toNat) ∧ h 55 (x609.toNat) ≤ 7 := hI.1 55 _
                      refine fz_iload_n kX11_tries rfl rfl ?_
                      refine fz_icmp_eq (tgt := 113) kX11_tries rfl (by decide) (fun c622 => ?_) (fun c622 => ?_)
                      · refine fz_aload_n kX11_tries rfl rfl ?_
                        refine fz_getR (t := 55) kX11_tries rfl rfl ?_
                        refine fz_iload kX11_tries rfl rfl ?_
                        refine fz_ialdV (n := 12) (v := h 55 (x609.toNat)) kX11_tries rfl rfl (by omega) (by omega) (hf613 55 _ rfl) ?_
                        refine fz_iload_n kX11_tries rfl rfl ?_
                        refine fz_icmp_ne (tgt := 134) kX11_tries rfl (by decide) (fun c623 => ?_) (fun c623 => ?_)
                        · refine fz_aload_n kX11_tries rfl rfl ?_
                          refine fz_getR (t := 55) kX11_tries rfl rfl ?_
                          refine fz_iload kX11_tries rfl rfl ?_
                          refine fz_ialdV (n := 12) (v := h 55 (x609.toNat)) kX11_tries rfl rfl (by omega) (by omega) (hf613 55 _ rfl) ?_
                          refine fz_istore (ls' := [(7, fz_i (h 55 (x609.toNat))), (6, fz_i x609), (0, fz_r 53), (1, fz_i pe), (2, fz_i t), (3, fz_i hr), (4, fz_i L), (5, fz_i su)]) kX11_tries rfl (by decide) rfl ?_
                          refine fz_iload_n kX11_tries rfl rfl ?_
                          refine fz_aload_n kX11_tries rfl rfl ?_
                          refine fz_getR (t := 57) kX11_tries rfl rfl ?_
                          refine fz_iload kX11_tries rfl rfl ?_
                          refine fz_ialdV (n := 12) (v := h 57 (x609.toNat)) kX11_tries rfl rfl (by omega) (by omega) (hf613 57 _ rfl) ?_
                          have b624 : 0 ≤ h 57 (x609.toNat) ∧ h 57 (x609.toNat) ≤ 24 := hI.1 57 _
                          refine fz_iadd kX11_tries rfl ?_
                          refine fz_nmw (fun z625 e626 => ?_)
                          refine fz_istore (ls' := [(8, fz_i z625), (7, fz_i (h 55 (x609.toNat))), (6, fz_i x609), (0, fz_r 53), (1, fz_i pe), (2, fz_i t), (3, fz_i hr), (4, fz_i L), (5, fz_i su)]) kX11_tries rfl (by decide) rfl ?_
                          refine fz_iload kX11_tries rfl rfl ?_
                          refine fz_sipush ⟨by decide, by decide⟩ kX11_tries rfl ?_
                          refine fz_icmp_gt (tgt := 211) kX11_tries rfl (by decide) (fun c627 => ?_) (fun c627 => ?_)
                          · refine fz_iincN (ls' := [(6, fz_i (x609 + 1)), (8, fz_i z625), (7, fz_i (h 55 (x609.toNat))), (0, fz_r 53), (1, fz_i pe), (2, fz_i t), (3, fz_i hr), (4, fz_i L), (5, fz_i su)]) kX11_tries rfl (by decide) rfl (by omega) rfl ?_
                            refine fz_goto (tgt := 79) kX11_tries rfl (by decide) ?_
                            refine fz_sub (fz_pk_sub (ls' := [(6, fz_i (x609 + 1)), (0, fz_r 53), (1, fz_i pe), (2, fz_i t), (3, fz_i hr), (4, fz_i L), (5, fz_i su)]) [0, 3, 4, 5, 6, 7, 8] rfl) ?_
                            exact ih616 (x609 + 1) H611 hI612 hf613 hXw610 (by omega) (by omega)
                          · refine fz_aload_n kX11_tries rfl rfl ?_
                            refine fz_iload_n kX11_tries rfl rfl ?_
                            refine fz_iload kX11_tries rfl rfl ?_
                            refine fz_iload kX11_tries rfl rfl ?_
                            refine fz_callV (d' := 4) (M' := mX11_isArrested) (As := [fz_i pe, fz_i (h 55 (x609.toNat)), fz_i z625]) (st := []) kX11_tries rfl rfl vX11_isArrested rfl rfl rfl rfl (Nat.le_of_ble_eq_true rfl) (Nat.le_of_ble_eq_true rfl) (by omega) (sX11_isArrested H611 hI612 pe (h 55 (x609.toNat)) z625 hXw610 (by omega)) (fun H628 r629 q630 o631 => ?_)
                            obtain ⟨hI632, hf633, hXw634, y635, rfl, p636⟩ := q630
                            clear o631
                            have hf637 := fz_fr_tr hf613 hf633 (show fz_su [(74, 99999), (75, 99999)] [(53, 54), (53, 55), (74, 99999), (75, 99999), (89, 99999), (90, 99999)] = true from rfl)
                            refine fz_if_eq (tgt := 177) kX11_tries rfl (by decide) (fun c638 => ?_) (fun c638 => ?_)
                            · refine fz_aload_n kX11_tries rfl rfl ?_
                              refine fz_getR (t := 90) kX11_tries rfl rfl ?_
                              refine fz_iload kX11_tries rfl rfl ?_
                              refine fz_iload kX11_tries rfl rfl ?_
                              refine fz_iast (n := 4) kX11_tries rfl rfl (by omega) (by omega) ?_
                              refine fz_nmu (S := [(53, 54), (53, 55), (74, 99999), (75, 99999), (89, 99999), (90, 99999)]) (h0 := h) (fz_Iv_up hI632 (by decide) (show (0 : Int) ≤ (h 55 (x609.toNat)) by omega) (show ((h 55 (x609.toNat)) : Int) ≤ 7 by omega)) (fz_fr_up hf637 rfl) (fun H639 hI640 hf641 e642 => ?_)
                              have hXw643 : fz_Xw H639 := fz_Xw_eq (by rw [e642]; exact fz_up_o (by decide)) (by rw [e642]; exact fz_up_ne (by decide)) (by rw [e642]; exact fz_up_ne (by decide)) (by rw [e642]; exact fz_up_ne (by decide)) (by rw [e642]; exact fz_up_ne (by decide)) hXw634
                              clear e642
                              refine fz_aload_n kX11_tries rfl rfl ?_
                              refine fz_iload_n kX11_tries rfl rfl ?_
                              refine fz_iload kX11_tries rfl rfl ?_
                              refine fz_iload kX11_tries rfl rfl ?_
                              refine fz_iload kX11_tries rfl rfl ?_
                              refine fz_iconst ⟨by decide, by decide⟩ kX11_tries rfl ?_
                              refine fz_iaddN kX11_tries rfl (by omega) ?_
                              refine fz_eqi (y := (L + 1)) (by omega) ?_
                              refine fz_iload kX11_tries rfl rfl ?_
                              refine fz_aload_n kX11_tries rfl rfl ?_
                              refine fz_iload_n kX11_tries rfl rfl ?_
                              refine fz_iload kX11_tries rfl rfl ?_
                              refine fz_iload kX11_tries rfl rfl ?_
                              refine fz_callV (d' := 4) (M' := mX11_receivedIn) (As := [fz_i pe, fz_i (h 55 (x609.toNat)), fz_i z625]) (st := [fz_i su, fz_i (L + 1), fz_i z625, fz_i (h 55 (x609.toNat)), fz_i pe, fz_r 53]) kX11_tries rfl rfl vX11_receivedIn rfl rfl rfl rfl (Nat.le_of_ble_eq_true rfl) (Nat.le_of_ble_eq_true rfl) (by omega) (sX11_receivedIn H639 hI640 pe (h 55 (x609.toNat)) z625 hXw643 (by omega)) (fun H644 r645 q646 o647 => ?_)
                              obtain ⟨hI648, hf649, hXw650, y652, rfl, f651⟩ := q646
                              clear o647
                              have hf653 := fz_fr_tr hf641 hf649 (show fz_su [(74, 99999), (75, 99999)] [(53, 54), (53, 55), (74, 99999), (75, 99999), (89, 99999), (90, 99999)] = true from rfl)
                              refine fz_iadd kX11_tries rfl ?_
                              refine fz_nmw (fun z654 e655 => ?_)
                              refine fz_callV (d' := De) (M' := mX11_tries) (As := [fz_i pe, fz_i (h 55 (x609.toNat)), fz_i z625, fz_i (L + 1), fz_i z654]) (st := []) kX11_tries rfl rfl vX11_tries rfl rfl rfl rfl (Nat.le_of_ble_eq_true rfl) (Nat.le_of_ble_eq_true rfl) (by omega) (ih H644 hI648 pe (h 55 (x609.toNat)) z625 z654 hXw650 (by omega)) (fun H656 r657 q658 o659 => ?_)
                              obtain ⟨hI660, hf661, hXw662, rfl⟩ := q658
                              clear o659
                              have hf663 := fz_fr_tr hf653 hf661 (show fz_su [(53, 54), (53, 55), (74, 99999), (75, 99999), (89, 99999), (90, 99999)] [(53, 54), (53, 55), (74, 99999), (75, 99999), (89, 99999), (90, 99999)] = true from rfl)
                              refine fz_iincN (ls' := [(6, fz_i (x609 + 1)), (8, fz_i z625), (7, fz_i (h 55 (x609.toNat))), (0, fz_r 53), (1, fz_i pe), (2, fz_i t), (3, fz_i hr), (4, fz_i L), (5, fz_i su)]) kX11_tries rfl (by decide) rfl (by omega) rfl ?_
                              refine fz_goto (tgt := 79) kX11_tries rfl (by decide) ?_
                              refine fz_sub (fz_pk_sub (ls' := [(6, fz_i (x609 + 1)), (0, fz_r 53), (1, fz_i pe), (2, fz_i t), (3, fz_i hr), (4, fz_i L), (5, fz_i su)]) [0, 3, 4, 5, 6, 7, 8] rfl) ?_
                              exact ih616 (x609 + 1) H656 hI660 hf663 hXw662 (by omega) (by omega)
                            · refine fz_goto (tgt := 211) kX11_tries rfl (by decide) ?_
                              refine fz_iincN (ls' := [(6, fz_i (x609 + 1)), (8, fz_i z625), (7, fz_i (h 55 (x609.toNat))), (0, fz_r 53), (1, fz_i pe), (2, fz_i t), (3, fz_i hr), (4, fz_i L), (5, fz_i su)]) kX11_tries rfl (by decide) rfl (by omega) rfl ?_
                              refine fz_goto (tgt := 79) kX11_tries rfl (by decide) ?_
                              refine fz_sub (fz_pk_sub (ls' := [(6, fz_i (x609 + 1)), (0, fz_r 53), (1, fz_i pe), (2, fz_i t), (3, fz_i hr), (4, fz_i L), (5, fz_i su)]) [0, 3, 4, 5, 6, 7, 8] rfl) ?_
                              exact ih616 (x609 + 1) H628 hI632 hf637 hXw634 (by omega) (by omega)
                        · refine fz_aload_n kX11_tries rfl rfl ?_
                          refine fz_getR (t := 56) kX11_tries rfl rfl ?_
                          refine fz_iload kX11_tries rfl rfl ?_
                          refine fz_ialdV (n := 12) (v := h 56 (x609.toNat)) kX11_tries rfl rfl (by omega) (by omega) (hf613 56 _ rfl) ?_
                          have b664 : 0 ≤ h 56 (x609.toNat) ∧ h 56 (x609.toNat) ≤ 7 := hI.1 56 _
                          refine fz_goto (tgt := 141) kX11_tries rfl (by decide) ?_
                          refine fz_istore (ls' := [(7, fz_i (h 56 (x609.toNat))), (6, fz_i x609), (0, fz_r 53), (1, fz_i pe), (2, fz_i t), (3, fz_i hr), (4, fz_i L), (5, fz_i su)]) kX11_tries rfl (by decide) rfl ?_
                          refine fz_iload_n kX11_tries rfl rfl ?_
                          refine fz_aload_n kX11_tries rfl rfl ?_
                          refine fz_getR (t := 57) kX11_tries rfl rfl ?_
                          refine fz_iload kX11_tries rfl rfl ?_
                          refine fz_ialdV (n := 12) (v := h 57 (x609.toNat)) kX11_tries rfl rfl (by omega) (by omega) (hf613 57 _ rfl) ?_
                          have b665 : 0 ≤ h 57 (x609.toNat) ∧ h 57 (x609.toNat) ≤ 24 := hI.1 57 _
                          refine fz_iadd kX11_tries rfl ?_
                          refine fz_nmw (fun z666 e667 => ?_)
                          refine fz_istore (ls' := [(8, fz_i z666), (7, fz_i (h 56 (x609.toNat))), (6, fz_i x609), (0, fz_r 53), (1, fz_i pe), (2, fz_i t), (3, fz_i hr), (4, fz_i L), (5, fz_i su)]) kX11_tries rfl (by decide) rfl ?_
                          refine fz_iload kX11_tries rfl rfl ?_
                          refine fz_sipush ⟨by decide, by decide⟩ kX11_tries rfl ?_
                          refine fz_icmp_gt (tgt := 211) kX11_tries rfl (by decide) (fun c668 => ?_) (fun c668 => ?_)
                          · refine fz_iincN (ls' := [(6, fz_i (x609 + 1)), (8, fz_i z666), (7, fz_i (h 56 (x609.toNat))), (0, fz_r 53), (1, fz_i pe), (2, fz_i t), (3, fz_i hr), (4, fz_i L), (5, fz_i su)]) kX11_tries rfl (by decide) rfl (by omega) rfl ?_
                            refine fz_goto (tgt := 79) kX11_tries rfl (by decide) ?_
                            refine fz_sub (fz_pk_sub (ls' := [(6, fz_i (x609 + 1)), (0, fz_r 53), (1, fz_i pe), (2, fz_i t), (3, fz_i hr), (4, fz_i L), (5, fz_i su)]) [0, 3, 4, 5, 6, 7, 8] rfl) ?_
                            exact ih616 (x609 + 1) H611 hI612 hf613 hXw610 (by omega) (by omega)
                          · refine fz_aload_n kX11_tries rfl rfl ?_
                            refine fz_iload_n kX11_tries rfl rfl ?_
                            refine fz_iload kX11_tries rfl rfl ?_
                            refine fz_iload kX11_tries rfl rfl ?_
                            refine fz_callV (d' := 4) (M' := mX11_isArrested) (As := [fz_i pe, fz_i (h 56 (x609.toNat)), fz_i z666]) (st := []) kX11_tries rfl rfl vX11_isArrested rfl rfl rfl rfl (Nat.le_of_ble_eq_true rfl) (Nat.le_of_ble_eq_true rfl) (by omega) (sX11_isArrested H611 hI612 pe (h 56 (x609.toNat)) z666 hXw610 (by omega)) (fun H669 r670 q671 o672 => ?_)
                            obtain ⟨hI673, hf674, hXw675, y676, rfl, p677⟩ := q671
                            clear o672
                            have hf678 := fz_fr_tr hf613 hf674 (show fz_su [(74, 99999), (75, 99999)] [(53, 54), (53, 55), (74, 99999), (75, 99999), (89, 99999), (90, 99999)] = true from rfl)
                            refine fz_if_eq (tgt := 177) kX11_tries rfl (by decide) (fun c679 => ?_) (fun c679 => ?_)
                            · refine fz_aload_n kX11_tries rfl rfl ?_
                              refine fz_getR (t := 90) kX11_tries rfl rfl ?_
                              refine fz_iload kX11_tries rfl rfl ?_
                              refine fz_iload kX11_tries rfl rfl ?_
                              refine fz_iast (n := 4) kX11_tries rfl rfl (by omega) (by omega) ?_
                              refine fz_nmu (S := [(53, 54), (53, 55), (74, 99999), (75, 99999), (89, 99999), (90, 99999)]) (h0 := h) (fz_Iv_up hI673 (by decide) (show (0 : Int) ≤ (h 56 (x609.toNat)) by omega) (show ((h 56 (x609.toNat)) : Int) ≤ 7 by omega)) (fz_fr_up hf678 rfl) (fun H680 hI681 hf682 e683 => ?_)
                              have hXw684 : fz_Xw H680 := fz_Xw_eq (by rw [e683]; exact fz_up_o (by decide)) (by rw [e683]; exact fz_up_ne (by decide)) (by rw [e683]; exact fz_up_ne (by decide)) (by rw [e683]; exact fz_up_ne (by decide)) (by rw [e683]; exact fz_up_ne (by decide)) hXw675
                              clear e683
                              refine fz_aload_n kX11_tries rfl rfl ?_
                              refine fz_iload_n kX11_tries rfl rfl ?_
                              refine fz_iload kX11_tries rfl rfl ?_
                              refine fz_iload kX11_tries rfl rfl ?_
                              refine fz_iload kX11_tries rfl rfl ?_
                              refine fz_iconst ⟨by decide, by decide⟩ kX11_tries rfl ?_
                              refine fz_iaddN kX11_tries rfl (by omega) ?_
                              refine fz_eqi (y := (L + 1)) (by omega) ?_
                              refine fz_iload kX11_tries rfl rfl ?_
                              refine fz_aload_n kX11_tries rfl rfl ?_
                              refine fz_iload_n kX11_tries rfl rfl ?_
                              refine fz_iload kX11_tries rfl rfl ?_
                              refine fz_iload kX11_tries rfl rfl ?_
                              refine fz_callV (d' := 4) (M' := mX11_receivedIn) (As := [fz_i pe, fz_i (h 56 (x609.toNat)), fz_i z666]) (st := [fz_i su, fz_i (L + 1), fz_i z666, fz_i (h 56 (x609.toNat)), fz_i pe, fz_r 53]) kX11_tries rfl rfl vX11_receivedIn rfl rfl rfl rfl (Nat.le_of_ble_eq_true rfl) (Nat.le_of_ble_eq_true rfl) (by omega) (sX11_receivedIn H680 hI681 pe (h 56 (x609.toNat)) z666 hXw684 (by omega)) (fun H685 r686 q687 o688 => ?_)
                              obtain ⟨hI689, hf690, hXw691, y693, rfl, f692⟩ := q687
                              clear o688
                              have hf694 := fz_fr_tr hf682 hf690 (show fz_su [(74, 99999), (75, 99999)] [(53, 54), (53, 55), (74, 99999), (75, 99999), (89, 99999), (90, 99999)] = true from rfl)
                              refine fz_iadd kX11_tries rfl ?_
                              refine fz_nmw (fun z695 e696 => ?_)
                              refine fz_callV (d' := De) (M' := mX11_tries) (As := [fz_i pe, fz_i (h 56 (x609.toNat)), fz_i z666, fz_i (L + 1), fz_i z695]) (st := []) kX11_tries rfl rfl vX11_tries rfl rfl rfl rfl (Nat.le_of_ble_eq_true rfl) (Nat.le_of_ble_eq_true rfl) (by omega) (ih H685 hI689 pe (h 56 (x609.toNat)) z666 z695 hXw691 (by omega)) (fun H697 r698 q699 o700 => ?_)
                              obtain ⟨hI701, hf702, hXw703, rfl⟩ := q699
                              clear o700
                              have hf704 := fz_fr_tr hf694 hf702 (show fz_su [(53, 54), (53, 55), (74, 99999), (75, 99999), (89, 99999), (90, 99999)] [(53, 54), (53, 55), (74, 99999), (75, 99999), (89, 99999), (90, 99999)] = true from rfl)
                              refine fz_iincN (ls' := [(6, fz_i (x609 + 1)), (8, fz_i z666), (7, fz_i (h 56 (x609.toNat))), (0, fz_r 53), (1, fz_i pe), (2, fz_i t), (3, fz_i hr), (4, fz_i L), (5, fz_i su)]) kX11_tries rfl (by decide) rfl (by omega) rfl ?_
                              refine fz_goto (tgt := 79) kX11_tries rfl (by decide) ?_
                              refine fz_sub (fz_pk_sub (ls' := [(6, fz_i (x609 + 1)), (0, fz_r 53), (1, fz_i pe), (2, fz_i t), (3, fz_i hr), (4, fz_i L), (5, fz_i su)]) [0, 3, 4, 5, 6, 7, 8] rfl) ?_
                              exact ih616 (x609 + 1) H697 hI701 hf704 hXw703 (by omega) (by omega)
                            · refine fz_goto (tgt := 211) kX11_tries rfl (by decide) ?_
                              refine fz_iincN (ls' := [(6, fz_i (x609 + 1)), (8, fz_i z666), (7, fz_i (h 56 (x609.toNat))), (0, fz_r 53), (1, fz_i pe), (2, fz_i t), (3, fz_i hr), (4, fz_i L), (5, fz_i su)]) kX11_tries rfl (by decide) rfl (by omega) rfl ?_
                              refine fz_goto (tgt := 79) kX11_tries rfl (by decide) ?_
                              refine fz_sub (fz_pk_sub (ls' := [(6, fz_i (x609 + 1)), (0, fz_r 53), (1, fz_i pe), (2, fz_i t), (3, fz_i hr), (4, fz_i L), (5, fz_i su)]) [0, 3, 4, 5, 6, 7, 8] rfl) ?_
                              exact ih616 (x609 + 1) H669 hI673 hf678 hXw675 (by omega) (by omega)
                      · refine fz_aload_n kX11_tries rfl rfl ?_
                        refine fz_getR (t := 56) kX11_tries rfl rfl ?_
                        refine fz_iload kX11_tries rfl rfl ?_
                        refine fz_ialdV (n := 12) (v := h 56 (x609.toNat)) kX11_tries rfl rfl (by omega) (by omega) (hf613 56 _ rfl) ?_
                        have b705 : 0 ≤ h 56 (x609.toNat) ∧ h 56 (x609.toNat) ≤ 7 := hI.1 56 _
                        refine fz_iload_n kX11_tries rfl rfl ?_
                        refine fz_icmp_eq (tgt := 113) kX11_tries rfl (by decide) (fun c706 => ?_) (fun c706 => ?_)
                        · refine fz_aload_n kX11_tries rfl rfl ?_
                          refine fz_getR (t := 55) kX11_tries rfl rfl ?_
                          refine fz_iload kX11_tries rfl rfl ?_
                          refine fz_ialdV (n := 12) (v := h 55 (x609.toNat)) kX11_tries rfl rfl (by omega) (by omega) (hf613 55 _ rfl) ?_
                          refine fz_iload_n kX11_tries rfl rfl ?_
                          refine fz_icmp_ne (tgt := 134) kX11_tries rfl (by decide) (fun c707 => ?_) (fun c707 => ?_)
                          · refine fz_aload_n kX11_tries rfl rfl ?_
                            refine fz_getR (t := 55) kX11_tries rfl rfl ?_
                            refine fz_iload kX11_tries rfl rfl ?_
                            refine fz_ialdV (n := 12) (v := h 55 (x609.toNat)) kX11_tries rfl rfl (by omega) (by omega) (hf613 55 _ rfl) ?_
                            refine fz_istore (ls' := [(7, fz_i (h 55 (x609.toNat))), (6, fz_i x609), (0, fz_r 53), (1, fz_i pe), (2, fz_i t), (3, fz_i hr), (4, fz_i L), (5, fz_i su)]) kX11_tries rfl (by decide) rfl ?_
                            refine fz_iload_n kX11_tries rfl rfl ?_
                            refine fz_aload_n kX11_tries rfl rfl ?_
                            refine fz_getR (t := 57) kX11_tries rfl rfl ?_
                            refine fz_iload kX11_tries rfl rfl ?_
                            refine fz_ialdV (n := 12) (v := h 57 (x609.toNat)) kX11_tries rfl rfl (by omega) (by omega) (hf613 57 _ rfl) ?_
                            have b708 : 0 ≤ h 57 (x609.toNat) ∧ h 57 (x609.toNat) ≤ 24 := hI.1 57 _
                            refine fz_iadd kX11_tries rfl ?_
                            refine fz_nmw (fun z709 e710 => ?_)
                            refine fz_istore (ls' := [(8, fz_i z709), (7, fz_i (h 55 (x609.toNat))), (6, fz_i x609), (0, fz_r 53), (1, fz_i pe), (2, fz_i t), (3, fz_i hr), (4, fz_i L), (5, fz_i su)]) kX11_tries rfl (by decide) rfl ?_
                            refine fz_iload kX11_tries rfl rfl ?_
                            refine fz_sipush ⟨by decide, by decide⟩ kX11_tries rfl ?_
                            refine fz_icmp_gt (tgt := 211) kX11_tries rfl (by decide) (fun c711 => ?_) (fun c711 => ?_)
                            · refine fz_iincN (ls' := [(6, fz_i (x609 + 1)), (8, fz_i z709), (7, fz_i (h 55 (x609.toNat))), (0, fz_r 53), (1, fz_i pe), (2, fz_i t), (3, fz_i hr), (4, fz_i L), (5, fz_i su)]) kX11_tries rfl (by decide) rfl (by omega) rfl ?_
                              refine fz_goto (tgt := 79) kX11_tries rfl (by decide) ?_
                              refine fz_sub (fz_pk_sub (ls' := [(6, fz_i (x609 + 1)), (0, fz_r 53), (1, fz_i pe), (2, fz_i t), (3, fz_i hr), (4, fz_i L), (5, fz_i su)]) [0, 3, 4, 5, 6, 7, 8] rfl) ?_
                              exact ih616 (x609 + 1) H611 hI612 hf613 hXw610 (by omega) (by omega)
                            · refine fz_aload_n kX11_tries rfl rfl ?_
                              refine fz_iload_n kX11_tries rfl rfl ?_
                              refine fz_iload kX11_tries rfl rfl ?_
                              refine fz_iload kX11_tries rfl rfl ?_
                              refine fz_callV (d' := 4) (M' := mX11_isArrested) (As := [fz_i pe, fz_i (h 55 (x609.toNat)), fz_i z709]) (st := []) kX11_tries rfl rfl vX11_isArrested rfl rfl rfl rfl (Nat.le_of_ble_eq_true rfl) (Nat.le_of_ble_eq_true rfl) (by omega) (sX11_isArrested H611 hI612 pe (h 55 (x609.toNat)) z709 hXw610 (by omega)) (fun H712 r713 q714 o715 => ?_)
                              obtain ⟨hI716, hf717, hXw718, y719, rfl, p720⟩ := q714
                              clear o715
                              have hf721 := fz_fr_tr hf613 hf717 (show fz_su [(74, 99999), (75, 99999)] [(53, 54), (53, 55), (74, 99999), (75, 99999), (89, 99999), (90, 99999)] = true from rfl)
                              refine fz_if_eq (tgt := 177) kX11_tries rfl (by decide) (fun c722 => ?_) (fun c722 => ?_)
                              · refine fz_aload_n kX11_tries rfl rfl ?_
                                refine fz_getR (t := 90) kX11_tries rfl rfl ?_
                                refine fz_iload kX11_tries rfl rfl ?_
                                refine fz_iload kX11_tries rfl rfl ?_
                                refine fz_iast (n := 4) kX11_tries rfl rfl (by omega) (by omega) ?_
                                refine fz_nmu (S := [(53, 54), (53, 55), (74, 99999), (75, 99999), (89, 99999), (90, 99999)]) (h0 := h) (fz_Iv_up hI716 (by decide) (show (0 : Int) ≤ (h 55 (x609.toNat)) by omega) (show ((h 55 (x609.toNat)) : Int) ≤ 7 by omega)) (fz_fr_up hf721 rfl) (fun H723 hI724 hf725 e726 => ?_)
                                have hXw727 : fz_Xw H723 := fz_Xw_eq (by rw [e726]; exact fz_up_o (by decide)) (by rw [e726]; exact fz_up_ne (by decide)) (by rw [e726]; exact fz_up_ne (by decide)) (by rw [e726]; exact fz_up_ne (by decide)) (by rw [e726]; exact fz_up_ne (by decide)) hXw718
                                clear e726
                                refine fz_aload_n kX11_tries rfl rfl ?_
                                refine fz_iload_n kX11_tries rfl rfl ?_
                                refine fz_iload kX11_tries rfl rfl ?_
                                refine fz_iload kX11_tries rfl rfl ?_
                                refine fz_iload kX11_tries rfl rfl ?_
                                refine fz_iconst ⟨by decide, by decide⟩ kX11_tries rfl ?_
                                refine fz_iaddN kX11_tries rfl (by omega) ?_
                                refine fz_eqi (y := (L + 1)) (by omega) ?_
                                refine fz_iload kX11_tries rfl rfl ?_
                                refine fz_aload_n kX11_tries rfl rfl ?_
                                refine fz_iload_n kX11_tries rfl rfl ?_
                                refine fz_iload kX11_tries rfl rfl ?_
                                refine fz_iload kX11_tries rfl rfl ?_
                                refine fz_callV (d' := 4) (M' := mX11_receivedIn) (As := [fz_i pe, fz_i (h 55 (x609.toNat)), fz_i z709]) (st := [fz_i su, fz_i (L + 1), fz_i z709, fz_i (h 55 (x609.toNat)), fz_i pe, fz_r 53]) kX11_tries rfl rfl vX11_receivedIn rfl rfl rfl rfl (Nat.le_of_ble_eq_true rfl) (Nat.le_of_ble_eq_true rfl) (by omega) (sX11_receivedIn H723 hI724 pe (h 55 (x609.toNat)) z709 hXw727 (by omega)) (fun H728 r729 q730 o731 => ?_)
                                obtain ⟨hI732, hf733, hXw734, y736, rfl, f735⟩ := q730
                                clear o731
                                have hf737 := fz_fr_tr hf725 hf733 (show fz_su [(74, 99999), (75, 99999)] [(53, 54), (53, 55), (74, 99999), (75, 99999), (89, 99999), (90, 99999)] = true from rfl)
                                refine fz_iadd kX11_tries rfl ?_
                                refine fz_nmw (fun z738 e739 => ?_)
                                refine fz_callV (d' := De) (M' := mX11_tries) (As := [fz_i pe, fz_i (h 55 (x609.toNat)), fz_i z709, fz_i (L + 1), fz_i z738]) (st := []) kX11_tries rfl rfl vX11_tries rfl rfl rfl rfl (Nat.le_of_ble_eq_true rfl) (Nat.le_of_ble_eq_true rfl) (by omega) (ih H728 hI732 pe (h 55 (x609.toNat)) z709 z738 hXw734 (by omega)) (fun H740 r741 q742 o743 => ?_)
                                obtain ⟨hI744, hf745, hXw746, rfl⟩ := q742
                                clear o743
                                have hf747 := fz_fr_tr hf737 hf745 (show fz_su [(53, 54), (53, 55), (74, 99999), (75, 99999), (89, 99999), (90, 99999)] [(53, 54), (53, 55), (74, 99999), (75, 99999), (89, 99999), (90, 99999)] = true from rfl)
                                refine fz_iincN (ls' := [(6, fz_i (x609 + 1)), (8, fz_i z709), (7, fz_i (h 55 (x609.toNat))), (0, fz_r 53), (1, fz_i pe), (2, fz_i t), (3, fz_i hr), (4, fz_i L), (5, fz_i su)]) kX11_tries rfl (by decide) rfl (by omega) rfl ?_
                                refine fz_goto (tgt := 79) kX11_tries rfl (by decide) ?_
                                refine fz_sub (fz_pk_sub (ls' := [(6, fz_i (x609 + 1)), (0, fz_r 53), (1, fz_i pe), (2, fz_i t), (3, fz_i hr), (4, fz_i L), (5, fz_i su)]) [0, 3, 4, 5, 6, 7, 8] rfl) ?_
                                exact ih616 (x609 + 1) H740 hI744 hf747 hXw746 (by omega) (by omega)
                              · refine fz_goto (tgt := 211) kX11_tries rfl (by decide) ?_
                                refine fz_iincN (ls' := [(6, fz_i (x609 + 1)), (8, fz_i z709), (7, fz_i (h 55 (x609.toNat))), (0, fz_r 53), (1, fz_i pe), (2, fz_i t), (3, fz_i hr), (4, fz_i L), (5, fz_i su)]) kX11_tries rfl (by decide) rfl (by omega) rfl ?_
                                refine fz_goto (tgt := 79) kX11_tries rfl (by decide) ?_
                                refine fz_sub (fz_pk_sub (ls' := [(6, fz_i (x609 + 1)), (0, fz_r 53), (1, fz_i pe), (2, fz_i t), (3, fz_i hr), (4, fz_i L), (5, fz_i su)]) [0, 3, 4, 5, 6, 7, 8] rfl) ?_
                                exact ih616 (x609 + 1) H712 hI716 hf721 hXw718 (by omega) (by omega)
                          · refine fz_aload_n kX11_tries rfl rfl ?_
                            refine fz_getR (t := 56) kX11_tries rfl rfl ?_
                            refine fz_iload kX11_tries rfl rfl ?_
                            refine fz_ialdV (n := 12) (v := h 56 (x609.toNat)) kX11_tries rfl rfl (by omega) (by omega) (hf613 56 _ rfl) ?_
                            refine fz_goto (tgt := 141) kX11_tries rfl (by decide) ?_
                            refine fz_istore (ls' := [(7, fz_i (h 56 (x609.toNat))), (6, fz_i x609), (0, fz_r 53), (1, fz_i pe), (2, fz_i t), (3, fz_i hr), (4, fz_i L), (5, fz_i su)]) kX11_tries rfl (by decide) rfl ?_
                            refine fz_iload_n kX11_tries rfl rfl ?_
                            refine fz_aload_n kX11_tries rfl rfl ?_
                            refine fz_getR (t := 57) kX11_tries rfl rfl ?_
                            refine fz_iload kX11_tries rfl rfl ?_
                            refine fz_ialdV (n := 12) (v := h 57 (x609.toNat)) kX11_tries rfl rfl (by omega) (by omega) (hf613 57 _ rfl) ?_
                            have b748 : 0 ≤ h 57 (x609.toNat) ∧ h 57 (x609.toNat) ≤ 24 := hI.1 57 _
                            refine fz_iadd kX11_tries rfl ?_
                            refine fz_nmw (fun z749 e750 => ?_)
                            refine fz_istore (ls' := [(8, fz_i z749), (7, fz_i (h 56 (x609.toNat))), (6, fz_i x609), (0, fz_r 53), (1, fz_i pe), (2, fz_i t), (3, fz_i hr), (4, fz_i L), (5, fz_i su)]) kX11_tries rfl (by decide) rfl ?_
                            refine fz_iload kX11_tries rfl rfl ?_
                            refine fz_sipush ⟨by decide, by decide⟩ kX11_tries rfl ?_
                            refine fz_icmp_gt (tgt := 211) kX11_tries rfl (by decide) (fun c751 => ?_) (fun c751 => ?_)
                            · refine fz_iincN (ls' := [(6, fz_i (x609 + 1)), (8, fz_i z749), (7, fz_i (h 56 (x609.toNat))), (0, fz_r 53), (1, fz_i pe), (2, fz_i t), (3, fz_i hr), (4, fz_i L), (5, fz_i su)]) kX11_tries rfl (by decide) rfl (by omega) rfl ?_
                              refine fz_goto (tgt := 79) kX11_tries rfl (by decide) ?_
                              refine fz_sub (fz_pk_sub (ls' := [(6, fz_i (x609 + 1)), (0, fz_r 53), (1, fz_i pe), (2, fz_i t), (3, fz_i hr), (4, fz_i L), (5, fz_i su)]) [0, 3, 4, 5, 6, 7, 8] rfl) ?_
                              exact ih616 (x609 + 1) H611 hI612 hf613 hXw610 (by omega) (by omega)
                            · refine fz_aload_n kX11_tries rfl rfl ?_
                              refine fz_iload_n kX11_tries rfl rfl ?_
                              refine fz_iload kX11_tries rfl rfl ?_
                              refine fz_iload kX11_tries rfl rfl ?_
                              refine fz_callV (d' := 4) (M' := mX11_isArrested) (As := [fz_i pe, fz_i (h 56 (x609.toNat)), fz_i z749]) (st := []) kX11_tries rfl rfl vX11_isArrested rfl rfl rfl rfl (Nat.le_of_ble_eq_true rfl) (Nat.le_of_ble_eq_true rfl) (by omega) (sX11_isArrested H611 hI612 pe (h 56 (x609.toNat)) z749 hXw610 (by omega)) (fun H752 r753 q754 o755 => ?_)
                              obtain ⟨hI756, hf757, hXw758, y759, rfl, p760⟩ := q754
                              clear o755
                              have hf761 := fz_fr_tr hf613 hf757 (show fz_su [(74, 99999), (75, 99999)] [(53, 54), (53, 55), (74, 99999), (75, 99999), (89, 99999), (90, 99999)] = true from rfl)
                              refine fz_if_eq (tgt := 177) kX11_tries rfl (by decide) (fun c762 => ?_) (fun c762 => ?_)
                              · refine fz_aload_n kX11_tries rfl rfl ?_
                                refine fz_getR (t := 90) kX11_tries rfl rfl ?_
                                refine fz_iload kX11_tries rfl rfl ?_
                                refine fz_iload kX11_tries rfl rfl ?_
                                refine fz_iast (n := 4) kX11_tries rfl rfl (by omega) (by omega) ?_
                                refine fz_nmu (S := [(53, 54), (53, 55), (74, 99999), (75, 99999), (89, 99999), (90, 99999)]) (h0 := h) (fz_Iv_up hI756 (by decide) (show (0 : Int) ≤ (h 56 (x609.toNat)) by omega) (show ((h 56 (x609.toNat)) : Int) ≤ 7 by omega)) (fz_fr_up hf761 rfl) (fun H763 hI764 hf765 e766 => ?_)
                                have hXw767 : fz_Xw H763 := fz_Xw_eq (by rw [e766]; exact fz_up_o (by decide)) (by rw [e766]; exact fz_up_ne (by decide)) (by rw [e766]; exact fz_up_ne (by decide)) (by rw [e766]; exact fz_up_ne (by decide)) (by rw [e766]; exact fz_up_ne (by decide)) hXw758
                                clear e766
                                refine fz_aload_n kX11_tries rfl rfl ?_
                                refine fz_iload_n kX11_tries rfl rfl ?_
                                refine fz_iload kX11_tries rfl rfl ?_
                                refine fz_iload kX11_tries rfl rfl ?_
                                refine fz_iload kX11_tries rfl rfl ?_
                                refine fz_iconst ⟨by decide, by decide⟩ kX11_tries rfl ?_
                                refine fz_iaddN kX11_tries rfl (by omega) ?_
                                refine fz_eqi (y := (L + 1)) (by omega) ?_
                                refine fz_iload kX11_tries rfl rfl ?_
                                refine fz_aload_n kX11_tries rfl rfl ?_
                                refine fz_iload_n kX11_tries rfl rfl ?_
                                refine fz_iload kX11_tries rfl rfl ?_
                                refine fz_iload kX11_tries rfl rfl ?_
                                refine fz_callV (d' := 4) (M' := mX11_receivedIn) (As := [fz_i pe, fz_i (h 56 (x609.toNat)), fz_i z749]) (st := [fz_i su, fz_i (L + 1), fz_i z749, fz_i (h 56 (x609.toNat)), fz_i pe, fz_r 53]) kX11_tries rfl rfl vX11_receivedIn rfl rfl rfl rfl (Nat.le_of_ble_eq_true rfl) (Nat.le_of_ble_eq_true rfl) (by omega) (sX11_receivedIn H763 hI764 pe (h 56 (x609.toNat)) z749 hXw767 (by omega)) (fun H768 r769 q770 o771 => ?_)
                                obtain ⟨hI772, hf773, hXw774, y776, rfl, f775⟩ := q770
                                clear o771
                                have hf777 := fz_fr_tr hf765 hf773 (show fz_su [(74, 99999), (75, 99999)] [(53, 54), (53, 55), (74, 99999), (75, 99999), (89, 99999), (90, 99999)] = true from rfl)
                                refine fz_iadd kX11_tries rfl ?_
                                refine fz_nmw (fun z778 e779 => ?_)
                                refine fz_callV (d' := De) (M' := mX11_tries) (As := [fz_i pe, fz_i (h 56 (x609.toNat)), fz_i z749, fz_i (L + 1), fz_i z778]) (st := []) kX11_tries rfl rfl vX11_tries rfl rfl rfl rfl (Nat.le_of_ble_eq_true rfl) (Nat.le_of_ble_eq_true rfl) (by omega) (ih H768 hI772 pe (h 56 (x609.toNat)) z749 z778 hXw774 (by omega)) (fun H780 r781 q782 o783 => ?_)
                                obtain ⟨hI784, hf785, hXw786, rfl⟩ := q782
                                clear o783
                                have hf787 := fz_fr_tr hf777 hf785 (show fz_su [(53, 54), (53, 55), (74, 99999), (75, 99999), (89, 99999), (90, 99999)] [(53, 54), (53, 55), (74, 99999), (75, 99999), (89, 99999), (90, 99999)] = true from rfl)
                                refine fz_iincN (ls' := [(6, fz_i (x609 + 1)), (8, fz_i z749), (7, fz_i (h 56 (x609.toNat))), (0, fz_r 53), (1, fz_i pe), (2, fz_i t), (3, fz_i hr), (4, fz_i L), (5, fz_i su)]) kX11_tries rfl (by decide) rfl (by omega) rfl ?_
                                refine fz_goto (tgt := 79) kX11_tries rfl (by decide) ?_
                                refine fz_sub (fz_pk_sub (ls' := [(6, fz_i (x609 + 1)), (0, fz_r 53), (1, fz_i pe), (2, fz_i t), (3, fz_i hr), (4, fz_i L), (5, fz_i su)]) [0, 3, 4, 5, 6, 7, 8] rfl) ?_
                                exact ih616 (x609 + 1) H780 hI784 hf787 hXw786 (by omega) (by omega)
                              · refine fz_goto (tgt := 211) kX11_tries rfl (by decide) ?_
                                refine fz_iincN (ls' := [(6, fz_i (x609 + 1)), (8, fz_i z749), (7, fz_i (h 56 (x609.toNat))), (0, fz_r 53), (1, fz_i pe), (2, fz_i t), (3, fz_i hr), (4, fz_i L), (5, fz_i su)]) kX11_tries rfl (by decide) rfl (by omega) rfl ?_
                                refine fz_goto (tgt := 79) kX11_tries rfl (by decide) ?_
                                refine fz_sub (fz_pk_sub (ls' := [(6, fz_i (x609 + 1)), (0, fz_r 53), (1, fz_i pe), (2, fz_i t), (3, fz_i hr), (4, fz_i L), (5, fz_i su)]) [0, 3, 4, 5, 6, 7, 8] rfl) ?_
                                exact ih616 (x609 + 1) H752 hI756 hf761 hXw758 (by omega) (by omega)
                        · refine fz_goto (tgt := 211) kX11_tries rfl (by decide) ?_
                          refine fz_iincN (ls' := [(6, fz_i (x609 + 1)), (0, fz_r 53), (1, fz_i pe), (2, fz_i t), (3, fz_i hr), (4, fz_i L), (5, fz_i su)]) kX11_tries rfl (by decide) rfl (by omega) rfl ?_
                          refine fz_goto (tgt := 79) kX11_tries rfl (by decide) ?_
                          exact ih616 (x609 + 1) H611 hI612 hf613 hXw610 (by omega) (by omega)
                exact lp615 _ 0 H599 hI600 hf601 hXw598 (by omega) (Nat.lt_succ_self _)
              · exfalso; omega
            · refine fz_aload_n kX11_tries rfl rfl ?_
              refine fz_getR (t := 89) kX11_tries rfl rfl ?_
              refine fz_iload kX11_tries rfl rfl ?_
              refine fz_aload_n kX11_tries rfl rfl ?_
              refine fz_getR (t := 90) kX11_tries rfl rfl ?_
              refine fz_iload kX11_tries rfl rfl ?_
              obtain ⟨v788, e789⟩ : ∃ z, H599 90 (x597.toNat) = z := ⟨_, rfl⟩
              refine fz_ialdV (n := 4) (v := v788) kX11_tries rfl rfl (by omega) (by omega) e789 ?_
              have b790 : 0 ≤ v788 ∧ v788 ≤ 7 := by rw [← e789]; exact hI600.1 90 _
              refine fz_iast (n := 4) kX11_tries rfl rfl (by omega) (by omega) ?_
              refine fz_nmu (S := [(53, 54), (53, 55), (74, 99999), (75, 99999), (89, 99999), (90, 99999)]) (h0 := h) (fz_Iv_up hI600 (by decide) (show (0 : Int) ≤ v788 by omega) (show (v788 : Int) ≤ 7 by omega)) (fz_fr_up hf601 rfl) (fun H791 hI792 hf793 e794 => ?_)
              have hXw795 : fz_Xw H791 := fz_Xw_eq (by rw [e794]; exact fz_up_o (by decide)) (by rw [e794]; exact fz_up_ne (by decide)) (by rw [e794]; exact fz_up_ne (by decide)) (by rw [e794]; exact fz_up_ne (by decide)) (by rw [e794]; exact fz_up_ne (by decide)) hXw598
              clear e794
              refine fz_iincN (ls' := [(6, fz_i (x597 + 1)), (0, fz_r 53), (1, fz_i pe), (2, fz_i t), (3, fz_i hr), (4, fz_i L), (5, fz_i su)]) kX11_tries rfl (by decide) rfl (by omega) rfl ?_
              refine fz_goto (tgt := 42) kX11_tries rfl (by decide) ?_
              exact ih604 (x597 + 1) H791 hI792 hf793 hXw795 (by omega) (by omega)
        exact lp603 _ 0 H590 hI591 hf592 hXw596 (by omega) (Nat.lt_succ_self _)


abbrev qX11_tries_3 (h : fz_H) (pe t hr su : Int) : fz_H → Option fz_V → Prop := fun h' r0 => fz_Iv h' ∧ fz_fr [(53, 54), (53, 55), (74, 99999), (75, 99999), (89, 99999), (90, 99999)] h h' ∧ fz_Xw h' ∧ r0 = none
theorem sX11_tries_3 (h : fz_H) (hI : fz_Iv h) (pe t hr su : Int) (hXw : fz_Xw h) (hp0 : 0 ≤ t ∧ t ≤ 7) : fz_R 5 mX11_tries 0 [(0, fz_r 53), (1, fz_i pe), (2, fz_i t), (3, fz_i hr), (4, fz_i 3), (5, fz_i su)] [] h (qX11_tries_3 h pe t hr su) := sX11_tries_g 3 5 1 ⟨by decide, by decide⟩ ⟨by decide, by decide⟩ (fun h hI pe t hr su hXw hp0 => sX11_tries_4 h hI pe t hr su hXw hp0) h hI pe t hr su hXw hp0
abbrev qX11_tries_2 (h : fz_H) (pe t hr su : Int) : fz_H → Option fz_V → Prop := fun h' r0 => fz_Iv h' ∧ fz_fr [(53, 54), (53, 55), (74, 99999), (75, 99999), (89, 99999), (90, 99999)] h h' ∧ fz_Xw h' ∧ r0 = none
theorem sX11_tries_2 (h : fz_H) (hI : fz_Iv h) (pe t hr su : Int) (hXw : fz_Xw h) (hp0 : 0 ≤ t ∧ t ≤ 7) : fz_R 6 mX11_tries 0 [(0, fz_r 53), (1, fz_i pe), (2, fz_i t), (3, fz_i hr), (4, fz_i 2), (5, fz_i su)] [] h (qX11_tries_2 h pe t hr su) := sX11_tries_g 2 6 5 ⟨by decide, by decide⟩ ⟨by decide, by decide⟩ (fun h hI pe t hr su hXw hp0 => sX11_tries_3 h hI pe t hr su hXw hp0) h hI pe t hr su hXw hp0
abbrev qX11_tries_1 (h : fz_H) (pe t hr su : Int) : fz_H → Option fz_V → Prop := fun h' r0 => fz_Iv h' ∧ fz_fr [(53, 54), (53, 55), (74, 99999), (75, 99999), (89, 99999), (90, 99999)] h h' ∧ fz_Xw h' ∧ r0 = none
theorem sX11_tries_1 (h : fz_H) (hI : fz_Iv h) (pe t hr su : Int) (hXw : fz_Xw h) (hp0 : 0 ≤ t ∧ t ≤ 7) : fz_R 7 mX11_tries 0 [(0, fz_r 53), (1, fz_i pe), (2, fz_i t), (3, fz_i hr), (4, fz_i 1), (5, fz_i su)] [] h (qX11_tries_1 h pe t hr su) := sX11_tries_g 1 7 6 ⟨by decide, by decide⟩ ⟨by decide, by decide⟩ (fun h hI pe t hr su hXw hp0 => sX11_tries_2 h hI pe t hr su hXw hp0) h hI pe t hr su hXw hp0
abbrev qX11_tries_0 (h : fz_H) (pe t hr su : Int) : fz_H → Option fz_V → Prop := fun h' r0 => fz_Iv h' ∧ fz_fr [(53, 54), (53, 55), (74, 99999), (75, 99999), (89, 99999), (90, 99999)] h h' ∧ fz_Xw h' ∧ r0 = none
set_option maxHeartbeats 1000000 in
set_option maxRecDepth 100000 in
theorem sX11_tries_0 (h : fz_H) (hI : fz_Iv h) (pe t hr su : Int) (hXw : fz_Xw h) (hp0 : 0 ≤ t ∧ t ≤ 7) : fz_R 8 mX11_tries 0 [(0, fz_r 53), (1, fz_i pe), (2, fz_i t), (3, fz_i hr), (4, fz_i 0), (5, fz_i su)] [] h (qX11_tries_0 h pe t hr su) := by
  refine fz_knowl (fun hk => ?_)
  have hr_pe : -2147483648 ≤ pe ∧ pe < 2147483648 := hk _ (List.Mem.tail _ (List.Mem.head _))
  have hr_t : -2147483648 ≤ t ∧ t < 2147483648 := hk _ (List.Mem.tail _ (List.Mem.tail _ (List.Mem.head _)))
  have hr_hr : -2147483648 ≤ hr ∧ hr < 2147483648 := hk _ (List.Mem.tail _ (List.Mem.tail _ (List.Mem.tail _ (List.Mem.head _))))
  have hr_su : -2147483648 ≤ su ∧ su < 2147483648 := hk _ (List.Mem.tail _ (List.Mem.tail _ (List.Mem.tail _ (List.Mem.tail _ (List.Mem.tail _ (List.Mem.head _))))))
  clear hk
  have hf : fz_fr [(53, 54), (53, 55), (74, 99999), (75, 99999), (89, 99999), (90, 99999)] h h := fz_fr_rf
  refine fz_iload kX11_tries rfl rfl ?_
  refine fz_aload_n kX11_tries rfl rfl ?_
  refine fz_getV (v := h 53 54) kX11_tries rfl rfl rfl ?_
  have b1 : (-2147483648) ≤ h 53 54 ∧ h 53 54 ≤ 2147483647 := hI.1 53 _
  refine fz_icmp_gt (tgt := 27) kX11_tries rfl (by decide) (fun c2 => ?_) (fun c2 => ?_)
  · refine fz_aload_n kX11_tries rfl rfl ?_
    refine fz_iload kX11_tries rfl rfl ?_
    refine fz_putI kX11_tries rfl rfl rfl ?_
    refine fz_nmu (S := [(53, 54), (53, 55), (74, 99999), (75, 99999), (89, 99999), (90, 99999)]) (h0 := h) (fz_Iv_up hI (by decide) (show ((-2147483648) : Int) ≤ su by omega) (show (su : Int) ≤ 2147483647 by omega)) (fz_fr_up hf rfl) (fun H3 hI4 hf5 e6 => ?_)
    have k7 : H3 53 54 = su := by rw [e6]; exact fz_up_e
    have hXw8 : fz_Xw H3 := fz_Xw_eq (by rw [e6]; exact fz_up_s (by decide)) (by rw [e6]; exact fz_up_ne (by decide)) (by rw [e6]; exact fz_up_ne (by decide)) (by rw [e6]; exact fz_up_ne (by decide)) (by rw [e6]; exact fz_up_ne (by decide)) hXw
    clear e6
    refine fz_aload_n kX11_tries rfl rfl ?_
    refine fz_iload kX11_tries rfl rfl ?_
    refine fz_putI kX11_tries rfl rfl rfl ?_
    refine fz_nmu (S := [(53, 54), (53, 55), (74, 99999), (75, 99999), (89, 99999), (90, 99999)]) (h0 := h) (fz_Iv_up hI4 (by decide) (show (0 : Int) ≤ 0 by decide) (show (0 : Int) ≤ 4 by decide)) (fz_fr_up hf5 rfl) (fun H9 hI10 hf11 e12 => ?_)
    have k13 : H9 53 54 = su := by rw [e12]; exact (fz_up_s (by decide)).trans k7
    have k14 : H9 53 55 = 0 := by rw [e12]; exact fz_up_e
    have hXw15 : fz_Xw H9 := fz_Xw_eq (by rw [e12]; exact fz_up_s (by decide)) (by rw [e12]; exact fz_up_ne (by decide)) (by rw [e12]; exact fz_up_ne (by decide)) (by rw [e12]; exact fz_up_ne (by decide)) (by rw [e12]; exact fz_up_ne (by decide)) hXw8
    clear e12
    refine fz_iconst ⟨by decide, by decide⟩ kX11_tries rfl ?_
    refine fz_istore (ls' := [(6, fz_i 0), (0, fz_r 53), (1, fz_i pe), (2, fz_i t), (3, fz_i hr), (4, fz_i 0), (5, fz_i su)]) kX11_tries rfl (by decide) rfl ?_
    have lp22 : ∀ (n21 : Nat) (x16 : Int) (H18 : fz_H), fz_Iv H18 → fz_fr [(53, 54), (53, 55), (74, 99999), (75, 99999), (89, 99999), (90, 99999)] h H18 → fz_Xw H18 → (0 ≤ x16 ∧ x16 ≤ 2147483647) → (0 - x16).toNat < n21 → fz_R 8 mX11_tries 42 [(6, fz_i x16), (0, fz_r 53), (1, fz_i pe), (2, fz_i t), (3, fz_i hr), (4, fz_i 0), (5, fz_i su)] [] H18 (qX11_tries_0 h pe t hr su) := by
      intro n21
      induction n21 with
      | zero => intro x16 H18 hI19 hf20 hXw17 hv25 hm24; exact absurd hm24 (by omega)
      | succ n21 ih23 =>
        intro x16 H18 hI19 hf20 hXw17 hv25 hm24
        refine fz_iload kX11_tries rfl rfl ?_
        refine fz_iload kX11_tries rfl rfl ?_
        refine fz_icmp_ge (tgt := 69) kX11_tries rfl (by decide) (fun c26 => ?_) (fun c26 => ?_)
        · refine fz_iload kX11_tries rfl rfl ?_
          refine fz_iconst ⟨by decide, by decide⟩ kX11_tries rfl ?_
          refine fz_icmp_ne (tgt := 76) kX11_tries rfl (by decide) (fun c27 => ?_) (fun c27 => ?_)
          · refine fz_iconst ⟨by decide, by decide⟩ kX11_tries rfl ?_
            refine fz_istore (ls' := [(6, fz_i 0), (0, fz_r 53), (1, fz_i pe), (2, fz_i t), (3, fz_i hr), (4, fz_i 0), (5, fz_i su)]) kX11_tries rfl (by decide) rfl ?_
            have lp34 : ∀ (n33 : Nat) (x28 : Int) (H30 : fz_H), fz_Iv H30 → fz_fr [(53, 54), (53, 55), (74, 99999), (75, 99999), (89, 99999), (90, 99999)] h H30 → fz_Xw H30 → (0 ≤ x28 ∧ x28 ≤ 2147483647) → ((h 53 2) - x28).toNat < n33 → fz_R 8 mX11_tries 79 [(6, fz_i x28), (0, fz_r 53), (1, fz_i pe), (2, fz_i t), (3, fz_i hr), (4, fz_i 0), (5, fz_i su)] [] H30 (qX11_tries_0 h pe t hr su) := by
              intro n33
              induction n33 with
              | zero => intro x28 H30 hI31 hf32 hXw29 hv37 hm36; exact absurd hm36 (by omega)
              | succ n33 ih35 =>
                intro x28 H30 hI31 hf32 hXw29 hv37 hm36
                refine fz_iload kX11_tries rfl rfl ?_
                refine fz_aload_n kX11_tries rfl rfl ?_
                refine fz_getV (v := h 53 2) kX11_tries rfl rfl (hf32 53 2 rfl) ?_
                have b38 : 0 ≤ h 53 2 ∧ h 53 2 ≤ 12 := hI.1 53 _
                refine fz_icmp_ge (tgt := 217) kX11_tries rfl (by decide) (fun c39 => ?_) (fun c39 => ?_)
                · exact fz_vret kX11_tries rfl rfl ⟨hI31, hf32, hXw29, rfl⟩
                · refine fz_aload_n kX11_tries rfl rfl ?_
                  refine fz_getR (t := 55) kX11_tries rfl rfl ?_
                  refine fz_iload kX11_tries rfl rfl ?_
                  refine fz_ialdV (n := 12) (v := h 55 (x28.toNat)) kX11_tries rfl rfl (by omega) (by omega) (hf32 55 _ rfl) ?_
                  have b40 : 0 ≤ h 55 (x28.toNat) ∧ h 55 (x28.toNat) ≤ 7 := hI.1 55 _
                  refine fz_iload_n kX11_tries rfl rfl ?_
                  refine fz_icmp_eq (tgt := 113) kX11_tries rfl (by decide) (fun c41 => ?_) (fun c41 => ?_)
                  · refine fz_aload_n kX11_tries rfl rfl ?_
                    refine fz_getR (t := 55) kX11_tries rfl rfl ?_
                    refine fz_iload kX11_tries rfl rfl ?_
                    refine fz_ialdV (n := 12) (v := h 55 (x28.toNat)) kX11_tries rfl rfl (by omega) (by omega) (hf32 55 _ rfl) ?_
                    refine fz_iload_n kX11_tries rfl rfl ?_
                    refine fz_icmp_ne (tgt := 134) kX11_tries rfl (by decide) (fun c42 => ?_) (fun c42 => ?_)
                    · refine fz_aload_n kX11_tries rfl rfl ?_
                      refine fz_getR (t := 55) kX11_tries rfl rfl ?_
                      refine fz_iload kX11_tries rfl rfl ?_
                      refine fz_ialdV (n := 12) (v := h 55 (x28.toNat)) kX11_tries rfl rfl (by omega) (by omega) (hf32 55 _ rfl) ?_
                      refine fz_istore (ls' := [(7, fz_i (h 55 (x28.toNat))), (6, fz_i x28), (0, fz_r 53), (1, fz_i pe), (2, fz_i t), (3, fz_i hr), (4, fz_i 0), (5, fz_i su)]) kX11_tries rfl (by decide) rfl ?_
                      refine fz_iload_n kX11_tries rfl rfl ?_
                      refine fz_aload_n kX11_tries rfl rfl ?_
                      refine fz_getR (t := 57) kX11_tries rfl rfl ?_
                      refine fz_iload kX11_tries rfl rfl ?_
                      refine fz_ialdV (n := 12) (v := h 57 (x28.toNat)) kX11_tries rfl rfl (by omega) (by omega) (hf32 57 _ rfl) ?_
                      have b43 : 0 ≤ h 57 (x28.toNat) ∧ h 57 (x28.toNat) ≤ 24 := hI.1 57 _
                      refine fz_iadd kX11_tries rfl ?_
                      refine fz_nmw (fun z44 e45 => ?_)
                      refine fz_istore (ls' := [(8, fz_i z44), (7, fz_i (h 55 (x28.toNat))), (6, fz_i x28), (0, fz_r 53), (1, fz_i pe), (2, fz_i t), (3, fz_i hr), (4, fz_i 0), (5, fz_i su)]) kX11_tries rfl (by decide) rfl ?_
                      refine fz_iload kX11_tries rfl rfl ?_
                      refine fz_sipush ⟨by decide, by decide⟩ kX11_tries rfl ?_
                      refine fz_icmp_gt (tgt := 211) kX11_tries rfl (by decide) (fun c46 => ?_) (fun c46 => ?_)
                      · refine fz_iincN (ls' := [(6, fz_i (x28 + 1)), (8, fz_i z44), (7, fz_i (h 55 (x28.toNat))), (0, fz_r 53), (1, fz_i pe), (2, fz_i t), (3, fz_i hr), (4, fz_i 0), (5, fz_i su)]) kX11_tries rfl (by decide) rfl (by omega) rfl ?_
                        refine fz_goto (tgt := 79) kX11_tries rfl (by decide) ?_
                        refine fz_sub (fz_pk_sub (ls' := [(6, fz_i (x28 + 1)), (0, fz_r 53), (1, fz_i pe), (2, fz_i t), (3, fz_i hr), (4, fz_i 0), (5, fz_i su)]) [0, 3, 4, 5, 6, 7, 8] rfl) ?_
                        exact ih35 (x28 + 1) H30 hI31 hf32 hXw29 (by omega) (by omega)
                      · refine fz_aload_n kX11_tries rfl rfl ?_
                        refine fz_iload_n kX11_tries rfl rfl ?_
                        refine fz_iload kX11_tries rfl rfl ?_
                        refine fz_iload kX11_tries rfl rfl ?_
                        refine fz_callV (d' := 4) (M' := mX11_isArrested) (As := [fz_i pe, fz_i (h 55 (x28.toNat)), fz_i z44]) (st := []) kX11_tries rfl rfl vX11_isArrested rfl rfl rfl rfl (Nat.le_of_ble_eq_true rfl) (Nat.le_of_ble_eq_true rfl) (by decide) (sX11_isArrested H30 hI31 pe (h 55 (x28.toNat)) z44 hXw29 (by omega)) (fun H47 r48 q49 o50 => ?_)
                        obtain ⟨hI51, hf52, hXw53, y54, rfl, p55⟩ := q49
                        clear o50
                        have hf56 := fz_fr_tr hf32 hf52 (show fz_su [(74, 99999), (75, 99999)] [(53, 54), (53, 55), (74, 99999), (75, 99999), (89, 99999), (90, 99999)] = true from rfl)
                        refine fz_if_eq (tgt := 177) kX11_tries rfl (by decide) (fun c57 => ?_) (fun c57 => ?_)
                        · refine fz_aload_n kX11_tries rfl rfl ?_
                          refine fz_getR (t := 90) kX11_tries rfl rfl ?_
                          refine fz_iload kX11_tries rfl rfl ?_
                          refine fz_iload kX11_tries rfl rfl ?_
                          refine fz_iast (n := 4) kX11_tries rfl rfl (by omega) (by omega) ?_
                          refine fz_nmu (S := [(53, 54), (53, 55), (74, 99999), (75, 99999), (89, 99999), (90, 99999)]) (h0 := h) (fz_Iv_up hI51 (by decide) (show (0 : Int) ≤ (h 55 (x28.toNat)) by omega) (show ((h 55 (x28.toNat)) : Int) ≤ 7 by omega)) (fz_fr_up hf56 rfl) (fun H58 hI59 hf60 e61 => ?_)
                          have hXw62 : fz_Xw H58 := fz_Xw_eq (by rw [e61]; exact fz_up_o (by decide)) (by rw [e61]; exact fz_up_ne (by decide)) (by rw [e61]; exact fz_up_ne (by decide)) (by rw [e61]; exact fz_up_ne (by decide)) (by rw [e61]; exact fz_up_ne (by decide)) hXw53
                          clear e61
                          refine fz_aload_n kX11_tries rfl rfl ?_
                          refine fz_iload_n kX11_tries rfl rfl ?_
                          refine fz_iload kX11_tries rfl rfl ?_
                          refine fz_iload kX11_tries rfl rfl ?_
                          refine fz_iload kX11_tries rfl rfl ?_
                          refine fz_iconst ⟨by decide, by decide⟩ kX11_tries rfl ?_
                          refine fz_iaddN kX11_tries rfl ⟨by decide, by decide⟩ ?_
                          refine fz_eqi (y := 1) rfl ?_
                          refine fz_iload kX11_tries rfl rfl ?_
                          refine fz_aload_n kX11_tries rfl rfl ?_
                          refine fz_iload_n kX11_tries rfl rfl ?_
                          refine fz_iload kX11_tries rfl rfl ?_
                          refine fz_iload kX11_tries rfl rfl ?_
                          refine fz_callV (d' := 4) (M' := mX11_receivedIn) (As := [fz_i pe, fz_i (h 55 (x28.toNat)), fz_i z44]) (st := [fz_i su, fz_i 1, fz_i z44, fz_i (h 55 (x28.toNat)), fz_i pe, fz_r 53]) kX11_tries rfl rfl vX11_receivedIn rfl rfl rfl rfl (Nat.le_of_ble_eq_true rfl) (Nat.le_of_ble_eq_true rfl) (by decide) (sX11_receivedIn H58 hI59 pe (h 55 (x28.toNat)) z44 hXw62 (by omega)) (fun H63 r64 q65 o66 => ?_)
                          obtain ⟨hI67, hf68, hXw69, y71, rfl, f70⟩ := q65
                          clear o66
                          have hf72 := fz_fr_tr hf60 hf68 (show fz_su [(74, 99999), (75, 99999)] [(53, 54), (53, 55), (74, 99999), (75, 99999), (89, 99999), (90, 99999)] = true from rfl)
                          refine fz_iadd kX11_tries rfl ?_
                          refine fz_nmw (fun z73 e74 => ?_)
                          refine fz_callV (d' := 7) (M' := mX11_tries) (As := [fz_i pe, fz_i (h 55 (x28.toNat)), fz_i z44, fz_i 1, fz_i z73]) (st := []) kX11_tries rfl rfl vX11_tries rfl rfl rfl rfl (Nat.le_of_ble_eq_true rfl) (Nat.le_of_ble_eq_true rfl) (by decide) (sX11_tries_1 H63 hI67 pe (h 55 (x28.toNat)) z44 z73 hXw69 (by omega)) (fun H75 r76 q77 o78 => ?_)
                          obtain ⟨hI79, hf80, hXw81, rfl⟩ := q77
                          clear o78
                          have hf82 := fz_fr_tr hf72 hf80 (show fz_su [(53, 54), (53, 55), (74, 99999), (75, 99999), (89, 99999), (90, 99999)] [(53, 54), (53, 55), (74, 99999), (75, 99999), (89, 99999), (90, 99999)] = true from rfl)
                          refine fz_iincN (ls' := [(6, fz_i (x28 + 1)), (8, fz_i z44), (7, fz_i (h 55 (x28.toNat))), (0, fz_r 53), (1, fz_i pe), (2, fz_i t), (3, fz_i hr), (4, fz_i 0), (5, fz_i su)]) kX11_tries rfl (by decide) rfl (by omega) rfl ?_
                          refine fz_goto (tgt := 79) kX11_tries rfl (by decide) ?_
                          refine fz_sub (fz_pk_sub (ls' := [(6, fz_i (x28 + 1)), (0, fz_r 53), (1, fz_i pe), (2, fz_i t), (3, fz_i hr), (4, fz_i 0), (5, fz_i su)]) [0, 3, 4, 5, 6, 7, 8] rfl) ?_
                          exact ih35 (x28 + 1) H75 hI79 hf82 hXw81 (by omega) (by omega)
                        · refine fz_goto (tgt := 211) kX11_tries rfl (by decide) ?_
                          refine fz_iincN (ls' := [(6, fz_i (x28 + 1)), (8, fz_i z44), (7, fz_i (h 55 (x28.toNat))), (0, fz_r 53), (1, fz_i pe), (2, fz_i t), (3, fz_i hr), (4, fz_i 0), (5, fz_i su)]) kX11_tries rfl (by decide) rfl (by omega) rfl ?_
                          refine fz_goto (tgt := 79) kX11_tries rfl (by decide) ?_
                          refine fz_sub (fz_pk_sub (ls' := [(6, fz_i (x28 + 1)), (0, fz_r 53), (1, fz_i pe), (2, fz_i t), (3, fz_i hr), (4, fz_i 0), (5, fz_i su)]) [0, 3, 4, 5, 6, 7, 8] rfl) ?_
                          exact ih35 (x28 + 1) H47 hI51 hf56 hXw53 (by omega) (by omega)
                    · refine fz_aload_n kX11_tries rfl rfl ?_
                      refine fz_getR (t := 56) kX11_tries rfl rfl ?_
                      refine fz_iload kX11_tries rfl rfl ?_
                      refine fz_ialdV (n := 12) (v := h 56 (x28.toNat)) kX11_tries rfl rfl (by omega) (by omega) (hf32 56 _ rfl) ?_
                      have b83 : 0 ≤ h 56 (x28.toNat) ∧ h 56 (x28.toNat) ≤ 7 := hI.1 56 _
                      refine fz_goto (tgt := 141) kX11_tries rfl (by decide) ?_
                      refine fz_istore (ls' := [(7, fz_i (h 56 (x28.toNat))), (6, fz_i x28), (0, fz_r 53), (1, fz_i pe), (2, fz_i t), (3, fz_i hr), (4, fz_i 0), (5, fz_i su)]) kX11_tries rfl (by decide) rfl ?_
                      refine fz_iload_n kX11_tries rfl rfl ?_
                      refine fz_aload_n kX11_tries rfl rfl ?_
                      refine fz_getR (t := 57) kX11_tries rfl rfl ?_
                      refine fz_iload kX11_tries rfl rfl ?_
                      refine fz_ialdV (n := 12) (v := h 57 (x28.toNat)) kX11_tries rfl rfl (by omega) (by omega) (hf32 57 _ rfl) ?_
                      have b84 : 0 ≤ h 57 (x28.toNat) ∧ h 57 (x28.toNat) ≤ 24 := hI.1 57 _
                      refine fz_iadd kX11_tries rfl ?_
                      refine fz_nmw (fun z85 e86 => ?_)
                      refine fz_istore (ls' := [(8, fz_i z85), (7, fz_i (h 56 (x28.toNat))), (6, fz_i x28), (0, fz_r 53), (1, fz_i pe), (2, fz_i t), (3, fz_i hr), (4, fz_i 0), (5, fz_i su)]) kX11_tries rfl (by decide) rfl ?_
                      refine fz_iload kX11_tries rfl rfl ?_
                      refine fz_sipush ⟨by decide, by decide⟩ kX11_tries rfl ?_
                      refine fz_icmp_gt (tgt := 211) kX11_tries rfl (by decide) (fun c87 => ?_) (fun c87 => ?_)
                      · refine fz_iincN (ls' := [(6, fz_i (x28 + 1)), (8, fz_i z85), (7, fz_i (h 56 (x28.toNat))), (0, fz_r 53), (1, fz_i pe), (2, fz_i t), (3, fz_i hr), (4, fz_i 0), (5, fz_i su)]) kX11_tries rfl (by decide) rfl (by omega) rfl ?_
                        refine fz_goto (tgt := 79) kX11_tries rfl (by decide) ?_
                        refine fz_sub (fz_pk_sub (ls' := [(6, fz_i (x28 + 1)), (0, fz_r 53), (1, fz_i pe), (2, fz_i t), (3, fz_i hr), (4, fz_i 0), (5, fz_i su)]) [0, 3, 4, 5, 6, 7, 8] rfl) ?_
                        exact ih35 (x28 + 1) H30 hI31 hf32 hXw29 (by omega) (by omega)
                      · refine fz_aload_n kX11_tries rfl rfl ?_
                        refine fz_iload_n kX11_tries rfl rfl ?_
                        refine fz_iload kX11_tries rfl rfl ?_
                        refine fz_iload kX11_tries rfl rfl ?_
                        refine fz_callV (d' := 4) (M' := mX11_isArrested) (As := [fz_i pe, fz_i (h 56 (x28.toNat)), fz_i z85]) (st := []) kX11_tries rfl rfl vX11_isArrested rfl rfl rfl rfl (Nat.le_of_ble_eq_true rfl) (Nat.le_of_ble_eq_true rfl) (by decide) (sX11_isArrested H30 hI31 pe (h 56 (x28.toNat)) z85 hXw29 (by omega)) (fun H88 r89 q90 o91 => ?_)
                        obtain ⟨hI92, hf93, hXw94, y95, rfl, p96⟩ := q90
                        clear o91
                        have hf97 := fz_fr_tr hf32 hf93 (show fz_su [(74, 99999), (75, 99999)] [(53, 54), (53, 55), (74, 99999), (75, 99999), (89, 99999), (90, 99999)] = true from rfl)
                        refine fz_if_eq (tgt := 177) kX11_tries rfl (by decide) (fun c98 => ?_) (fun c98 => ?_)
                        · refine fz_aload_n kX11_tries rfl rfl ?_
                          refine fz_getR (t := 90) kX11_tries rfl rfl ?_
                          refine fz_iload kX11_tries rfl rfl ?_
                          refine fz_iload kX11_tries rfl rfl ?_
                          refine fz_iast (n := 4) kX11_tries rfl rfl (by omega) (by omega) ?_
                          refine fz_nmu (S := [(53, 54), (53, 55), (74, 99999), (75, 99999), (89, 99999), (90, 99999)]) (h0 := h) (fz_Iv_up hI92 (by decide) (show (0 : Int) ≤ (h 56 (x28.toNat)) by omega) (show ((h 56 (x28.toNat)) : Int) ≤ 7 by omega)) (fz_fr_up hf97 rfl) (fun H99 hI100 hf101 e102 => ?_)
                          have hXw103 : fz_Xw H99 := fz_Xw_eq (by rw [e102]; exact fz_up_o (by decide)) (by rw [e102]; exact fz_up_ne (by decide)) (by rw [e102]; exact fz_up_ne (by decide)) (by rw [e102]; exact fz_up_ne (by decide)) (by rw [e102]; exact fz_up_ne (by decide)) hXw94
                          clear e102
                          refine fz_aload_n kX11_tries rfl rfl ?_
                          refine fz_iload_n kX11_tries rfl rfl ?_
                          refine fz_iload kX11_tries rfl rfl ?_
                          refine fz_iload kX11_tries rfl rfl ?_
                          refine fz_iload kX11_tries rfl rfl ?_
                          refine fz_iconst ⟨by decide, by decide⟩ kX11_tries rfl ?_
                          refine fz_iaddN kX11_tries rfl ⟨by decide, by decide⟩ ?_
                          refine fz_eqi (y := 1) rfl ?_
                          refine fz_iload kX11_tries rfl rfl ?_
                          refine fz_aload_n kX11_tries rfl rfl ?_
                          refine fz_iload_n kX11_tries rfl rfl ?_
                          refine fz_iload kX11_tries rfl rfl ?_
                          refine fz_iload kX11_tries rfl rfl ?_
                          refine fz_callV (d' := 4) (M' := mX11_receivedIn) (As := [fz_i pe, fz_i (h 56 (x28.toNat)), fz_i z85]) (st := [fz_i su, fz_i 1, fz_i z85, fz_i (h 56 (x28.toNat)), fz_i pe, fz_r 53]) kX11_tries rfl rfl vX11_receivedIn rfl rfl rfl rfl (Nat.le_of_ble_eq_true rfl) (Nat.le_of_ble_eq_true rfl) (by decide) (sX11_receivedIn H99 hI100 pe (h 56 (x28.toNat)) z85 hXw103 (by omega)) (fun H104 r105 q106 o107 => ?_)
                          obtain ⟨hI108, hf109, hXw110, y112, rfl, f111⟩ := q106
                          clear o107
                          have hf113 := fz_fr_tr hf101 hf109 (show fz_su [(74, 99999), (75, 99999)] [(53, 54), (53, 55), (74, 99999), (75, 99999), (89, 99999), (90, 99999)] = true from rfl)
                          refine fz_iadd kX11_tries rfl ?_
                          refine fz_nmw (fun z114 e115 => ?_)
                          refine fz_callV (d' := 7) (M' := mX11_tries) (As := [fz_i pe, fz_i (h 56 (x28.toNat)), fz_i z85, fz_i 1, fz_i z114]) (st := []) kX11_tries rfl rfl vX11_tries rfl rfl rfl rfl (Nat.le_of_ble_eq_true rfl) (Nat.le_of_ble_eq_true rfl) (by decide) (sX11_tries_1 H104 hI108 pe (h 56 (x28.toNat)) z85 z114 hXw110 (by omega)) (fun H116 r117 q118 o119 => ?_)
                          obtain ⟨hI120, hf121, hXw122, rfl⟩ := q118
                          clear o119
                          have hf123 := fz_fr_tr hf113 hf121 (show fz_su [(53, 54), (53, 55), (74, 99999), (75, 99999), (89, 99999), (90, 99999)] [(53, 54), (53, 55), (74, 99999), (75, 99999), (89, 99999), (90, 99999)] = true from rfl)
                          refine fz_iincN (ls' := [(6, fz_i (x28 + 1)), (8, fz_i z85), (7, fz_i (h 56 (x28.toNat))), (0, fz_r 53), (1, fz_i pe), (2, fz_i t), (3, fz_i hr), (4, fz_i 0), (5, fz_i su)]) kX11_tries rfl (by decide) rfl (by omega) rfl ?_
                          refine fz_goto (tgt := 79) kX11_tries rfl (by decide) ?_
                          refine fz_sub (fz_pk_sub (ls' := [(6, fz_i (x28 + 1)), (0, fz_r 53), (1, fz_i pe), (2, fz_i t), (3, fz_i hr), (4, fz_i 0), (5, fz_i su)]) [0, 3, 4, 5, 6, 7, 8] rfl) ?_
                          exact ih35 (x28 + 1) H116 hI120 hf123 hXw122 (by omega) (by omega)
                        · refine fz_goto (tgt := 211) kX11_tries rfl (by decide) ?_
                          refine fz_iincN (ls' := [(6, fz_i (x28 + 1)), (8, fz_i z85), (7, fz_i (h 56 (x28.toNat))), (0, fz_r 53), (1, fz_i pe), (2, fz_i t), (3, fz_i hr), (4, fz_i 0), (5, fz_i su)]) kX11_tries rfl (by decide) rfl (by omega) rfl ?_
                          refine fz_goto (tgt := 79) kX11_tries rfl (by decide) ?_
                          refine fz_sub (fz_pk_sub (ls' := [(6, fz_i (x28 + 1)), (0, fz_r 53), (1, fz_i pe), (2, fz_i t), (3, fz_i hr), (4, fz_i 0), (5, fz_i su)]) [0, 3, 4, 5, 6, 7, 8] rfl) ?_
                          exact ih35 (x28 + 1) H88 hI92 hf97 hXw94 (by omega) (by omega)
                  · refine fz_aload_n kX11_tries rfl rfl ?_
                    refine fz_getR (t := 56) kX11_tries rfl rfl ?_
                    refine fz_iload kX11_tries rfl rfl ?_
                    refine fz_ialdV (n := 12) (v := h 56 (x28.toNat)) kX11_tries rfl rfl (by omega) (by omega) (hf32 56 _ rfl) ?_
                    have b124 : 0 ≤ h 56 (x28.toNat) ∧ h 56 (x28.toNat) ≤ 7 := hI.1 56 _
                    refine fz_iload_n kX11_tries rfl rfl ?_
                    refine fz_icmp_eq (tgt := 113) kX11_tries rfl (by decide) (fun c125 => ?_) (fun c125 => ?_)
                    · refine fz_aload_n kX11_tries rfl rfl ?_
                      refine fz_getR (t := 55) kX11_tries rfl rfl ?_
                      refine fz_iload kX11_tries rfl rfl ?_
                      refine fz_ialdV (n := 12) (v := h 55 (x28.toNat)) kX11_tries rfl rfl (by omega) (by omega) (hf32 55 _ rfl) ?_
                      refine fz_iload_n kX11_tries rfl rfl ?_
                      refine fz_icmp_ne (tgt := 134) kX11_tries rfl (by decide) (fun c126 => ?_) (fun c126 => ?_)
                      · refine fz_aload_n kX11_tries rfl rfl ?_
                        refine fz_getR (t := 55) kX11_tries rfl rfl ?_
                        refine fz_iload kX11_tries rfl rfl ?_
                        refine fz_ialdV (n := 12) (v := h 55 (x28.toNat)) kX11_tries rfl rfl (by omega) (by omega) (hf32 55 _ rfl) ?_
                        refine fz_istore (ls' := [(7, fz_i (h 55 (x28.toNat))), (6, fz_i x28), (0, fz_r 53), (1, fz_i pe), (2, fz_i t), (3, fz_i hr), (4, fz_i 0), (5, fz_i su)]) kX11_tries rfl (by decide) rfl ?_
                        refine fz_iload_n kX11_tries rfl rfl ?_
                        refine fz_aload_n kX11_tries rfl rfl ?_
                        refine fz_getR (t := 57) kX11_tries rfl rfl ?_
                        refine fz_iload kX11_tries rfl rfl ?_
                        refine fz_ialdV (n := 12) (v := h 57 (x28.toNat)) kX11_tries rfl rfl (by omega) (by omega) (hf32 57 _ rfl) ?_
                        have b127 : 0 ≤ h 57 (x28.toNat) ∧ h 57 (x28.toNat) ≤ 24 := hI.1 57 _
                        refine fz_iadd kX11_tries rfl ?_
                        refine fz_nmw (fun z128 e129 => ?_)
                        refine fz_istore (ls' := [(8, fz_i z128), (7, fz_i (h 55 (x28.toNat))), (6, fz_i x28), (0, fz_r 53), (1, fz_i pe), (2, fz_i t), (3, fz_i hr), (4, fz_i 0), (5, fz_i su)]) kX11_tries rfl (by decide) rfl ?_
                        refine fz_iload kX11_tries rfl rfl ?_
                        refine fz_sipush ⟨by decide, by decide⟩ kX11_tries rfl ?_
                        refine fz_icmp_gt (tgt := 211) kX11_tries rfl (by decide) (fun c130 => ?_) (fun c130 => ?_)
                        · refine fz_iincN (ls' := [(6, fz_i (x28 + 1)), (8, fz_i z128), (7, fz_i (h 55 (x28.toNat))), (0, fz_r 53), (1, fz_i pe), (2, fz_i t), (3, fz_i hr), (4, fz_i 0), (5, fz_i su)]) kX11_tries rfl (by decide) rfl (by omega) rfl ?_
                          refine fz_goto (tgt := 79) kX11_tries rfl (by decide) ?_
                          refine fz_sub (fz_pk_sub (ls' := [(6, fz_i (x28 + 1)), (0, fz_r 53), (1, fz_i pe), (2, fz_i t), (3, fz_i hr), (4, fz_i 0), (5, fz_i su)]) [0, 3, 4, 5, 6, 7, 8] rfl) ?_
                          exact ih35 (x28 + 1) H30 hI31 hf32 hXw29 (by omega) (by omega)
                        · refine fz_aload_n kX11_tries rfl rfl ?_
                          refine fz_iload_n kX11_tries rfl rfl ?_
                          refine fz_iload kX11_tries rfl rfl ?_
                          refine fz_iload kX11_tries rfl rfl ?_
                          refine fz_callV (d' := 4) (M' := mX11_isArrested) (As := [fz_i pe, fz_i (h 55 (x28.toNat)), fz_i z128]) (st := []) kX11_tries rfl rfl vX11_isArrested rfl rfl rfl rfl (Nat.le_of_ble_eq_true rfl) (Nat.le_of_ble_eq_true rfl) (by decide) (sX11_isArrested H30 hI31 pe (h 55 (x28.toNat)) z128 hXw29 (by omega)) (fun H131 r132 q133 o134 => ?_)
                          obtain ⟨hI135, hf136, hXw137, y138, rfl, p139⟩ := q133
                          clear o134
                          have hf140 := fz_fr_tr hf32 hf136 (show fz_su [(74, 99999), (75, 99999)] [(53, 54), (53, 55), (74, 99999), (75, 99999), (89, 99999), (90, 99999)] = true from rfl)
                          refine fz_if_eq (tgt := 177) kX11_tries rfl (by decide) (fun c141 => ?_) (fun c141 => ?_)
                          · refine fz_aload_n kX11_tries rfl rfl ?_
                            refine fz_getR (t := 90) kX11_tries rfl rfl ?_
                            refine fz_iload kX11_tries rfl rfl ?_
                            refine fz_iload kX11_tries rfl rfl ?_
                            refine fz_iast (n := 4) kX11_tries rfl rfl (by omega) (by omega) ?_
                            refine fz_nmu (S := [(53, 54), (53, 55), (74, 99999), (75, 99999), (89, 99999), (90, 99999)]) (h0 := h) (fz_Iv_up hI135 (by decide) (show (0 : Int) ≤ (h 55 (x28.toNat)) by omega) (show ((h 55 (x28.toNat)) : Int) ≤ 7 by omega)) (fz_fr_up hf140 rfl) (fun H142 hI143 hf144 e145 => ?_)
                            have hXw146 : fz_Xw H142 := fz_Xw_eq (by rw [e145]; exact fz_up_o (by decide)) (by rw [e145]; exact fz_up_ne (by decide)) (by rw [e145]; exact fz_up_ne (by decide)) (by rw [e145]; exact fz_up_ne (by decide)) (by rw [e145]; exact fz_up_ne (by decide)) hXw137
                            clear e145
                            refine fz_aload_n kX11_tries rfl rfl ?_
                            refine fz_iload_n kX11_tries rfl rfl ?_
                            refine fz_iload kX11_tries rfl rfl ?_
                            refine fz_iload kX11_tries rfl rfl ?_
                            refine fz_iload kX11_tries rfl rfl ?_
                            refine fz_iconst ⟨by decide, by decide⟩ kX11_tries rfl ?_
                            refine fz_iaddN kX11_tries rfl ⟨by decide, by decide⟩ ?_
                            refine fz_eqi (y := 1) rfl ?_
                            refine fz_iload kX11_tries rfl rfl ?_
                            refine fz_aload_n kX11_tries rfl rfl ?_
                            refine fz_iload_n kX11_tries rfl rfl ?_
                            refine fz_iload kX11_tries rfl rfl ?_
                            refine fz_iload kX11_tries rfl rfl ?_
                            refine fz_callV (d' := 4) (M' := mX11_receivedIn) (As := [fz_i pe, fz_i (h 55 (x28.toNat)), fz_i z128]) (st := [fz_i su, fz_i 1, fz_i z128, fz_i (h 55 (x28.toNat)), fz_i pe, fz_r 53]) kX11_tries rfl rfl vX11_receivedIn rfl rfl rfl rfl (Nat.le_of_ble_eq_true rfl) (Nat.le_of_ble_eq_true rfl) (by decide) (sX11_receivedIn H142 hI143 pe (h 55 (x28.toNat)) z128 hXw146 (by omega)) (fun H147 r148 q149 o150 => ?_)
                            obtain ⟨hI151, hf152, hXw153, y155, rfl, f154⟩ := q149
                            clear o150
                            have hf156 := fz_fr_tr hf144 hf152 (show fz_su [(74, 99999), (75, 99999)] [(53, 54), (53, 55), (74, 99999), (75, 99999), (89, 99999), (90, 99999)] = true from rfl)
                            refine fz_iadd kX11_tries rfl ?_
                            refine fz_nmw (fun z157 e158 => ?_)
                            refine fz_callV (d' := 7) (M' := mX11_tries) (As := [fz_i pe, fz_i (h 55 (x28.toNat)), fz_i z128, fz_i 1, fz_i z157]) (st := []) kX11_tries rfl rfl vX11_tries rfl rfl rfl rfl (Nat.le_of_ble_eq_true rfl) (Nat.le_of_ble_eq_true rfl) (by decide) (sX11_tries_1 H147 hI151 pe (h 55 (x28.toNat)) z128 z157 hXw153 (by omega)) (fun H159 r160 q161 o162 => ?_)
                            obtain ⟨hI163, hf164, hXw165, rfl⟩ := q161
                            clear o162
                            have hf166 := fz_fr_tr hf156 hf164 (show fz_su [(53, 54), (53, 55), (74, 99999), (75, 99999), (89, 99999), (90, 99999)] [(53, 54), (53, 55), (74, 99999), (75, 99999), (89, 99999), (90, 99999)] = true from rfl)
                            refine fz_iincN (ls' := [(6, fz_i (x28 + 1)), (8, fz_i z128), (7, fz_i (h 55 (x28.toNat))), (0, fz_r 53), (1, fz_i pe), (2, fz_i t), (3, fz_i hr), (4, fz_i 0), (5, fz_i su)]) kX11_tries rfl (by decide) rfl (by omega) rfl ?_
                            refine fz_goto (tgt := 79) kX11_tries rfl (by decide) ?_
                            refine fz_sub (fz_pk_sub (ls' := [(6, fz_i (x28 + 1)), (0, fz_r 53), (1, fz_i pe), (2, fz_i t), (3, fz_i hr), (4, fz_i 0), (5, fz_i su)]) [0, 3, 4, 5, 6, 7, 8] rfl) ?_
                            exact ih35 (x28 + 1) H159 hI163 hf166 hXw165 (by omega) (by omega)
                          · refine fz_goto (tgt := 211) kX11_tries rfl (by decide) ?_
                            refine fz_iincN (ls' := [(6, fz_i (x28 + 1)), (8, fz_i z128), (7, fz_i (h 55 (x28.toNat))), (0, fz_r 53), (1, fz_i pe), (2, fz_i t), (3, fz_i hr), (4, fz_i 0), (5, fz_i su)]) kX11_tries rfl (by decide) rfl (by omega) rfl ?_
                            refine fz_goto (tgt := 79) kX11_tries rfl (by decide) ?_
                            refine fz_sub (fz_pk_sub (ls' := [(6, fz_i (x28 + 1)), (0, fz_r 53), (1, fz_i pe), (2, fz_i t), (3, fz_i hr), (4, fz_i 0), (5, fz_i su)]) [0, 3, 4, 5, 6, 7, 8] rfl) ?_
                            exact ih35 (x28 + 1) H131 hI135 hf140 hXw137 (by omega) (by omega)
                      · refine fz_aload_n kX11_tries rfl rfl ?_
                        refine fz_getR (t := 56) kX11_tries rfl rfl ?_
                        refine fz_iload kX11_tries rfl rfl ?_
                        refine fz_ialdV (n := 12) (v := h 56 (x28.toNat)) kX11_tries rfl rfl (by omega) (by omega) (hf32 56 _ rfl) ?_
                        refine fz_goto (tgt := 141) kX11_tries rfl (by decide) ?_
                        refine fz_istore (ls' := [(7, fz_i (h 56 (x28.toNat))), (6, fz_i x28), (0, fz_r 53), (1, fz_i pe), (2, fz_i t), (3, fz_i hr), (4, fz_i 0), (5, fz_i su)]) kX11_tries rfl (by decide) rfl ?_
                        refine fz_iload_n kX11_tries rfl rfl ?_
                        refine fz_aload_n kX11_tries rfl rfl ?_
                        refine fz_getR (t := 57) kX11_tries rfl rfl ?_
                        refine fz_iload kX11_tries rfl rfl ?_
                        refine fz_ialdV (n := 12) (v := h 57 (x28.toNat)) kX11_tries rfl rfl (by omega) (by omega) (hf32 57 _ rfl) ?_
                        have b167 : 0 ≤ h 57 (x28.toNat) ∧ h 57 (x28.toNat) ≤ 24 := hI.1 57 _
                        refine fz_iadd kX11_tries rfl ?_
                        refine fz_nmw (fun z168 e169 => ?_)
                        refine fz_istore (ls' := [(8, fz_i z168), (7, fz_i (h 56 (x28.toNat))), (6, fz_i x28), (0, fz_r 53), (1, fz_i pe), (2, fz_i t), (3, fz_i hr), (4, fz_i 0), (5, fz_i su)]) kX11_tries rfl (by decide) rfl ?_
                        refine fz_iload kX11_tries rfl rfl ?_
                        refine fz_sipush ⟨by decide, by decide⟩ kX11_tries rfl ?_
                        refine fz_icmp_gt (tgt := 211) kX11_tries rfl (by decide) (fun c170 => ?_) (fun c170 => ?_)
                        · refine fz_iincN (ls' := [(6, fz_i (x28 + 1)), (8, fz_i z168), (7, fz_i (h 56 (x28.toNat))), (0, fz_r 53), (1, fz_i pe), (2, fz_i t), (3, fz_i hr), (4, fz_i 0), (5, fz_i su)]) kX11_tries rfl (by decide) rfl (by omega) rfl ?_
                          refine fz_goto (tgt := 79) kX11_tries rfl (by decide) ?_
                          refine fz_sub (fz_pk_sub (ls' := [(6, fz_i (x28 + 1)), (0, fz_r 53), (1, fz_i pe), (2, fz_i t), (3, fz_i hr), (4, fz_i 0), (5, fz_i su)]) [0, 3, 4, 5, 6, 7, 8] rfl) ?_
                          exact ih35 (x28 + 1) H30 hI31 hf32 hXw29 (by omega) (by omega)
                        · refine fz_aload_n kX11_tries rfl rfl ?_
                          refine fz_iload_n kX11_tries rfl rfl ?_
                          refine fz_iload kX11_tries rfl rfl ?_
                          refine fz_iload kX11_tries rfl rfl ?_
                          refine fz_callV (d' := 4) (M' := mX11_isArrested) (As := [fz_i pe, fz_i (h 56 (x28.toNat)), fz_i z168]) (st := []) kX11_tries rfl rfl vX11_isArrested rfl rfl rfl rfl (Nat.le_of_ble_eq_true rfl) (Nat.le_of_ble_eq_true rfl) (by decide) (sX11_isArrested H30 hI31 pe (h 56 (x28.toNat)) z168 hXw29 (by omega)) (fun H171 r172 q173 o174 => ?_)
                          obtain ⟨hI175, hf176, hXw177, y178, rfl, p179⟩ := q173
                          clear o174
                          have hf180 := fz_fr_tr hf32 hf176 (show fz_su [(74, 99999), (75, 99999)] [(53, 54), (53, 55), (74, 99999), (75, 99999), (89, 99999), (90, 99999)] = true from rfl)
                          refine fz_if_eq (tgt := 177) kX11_tries rfl (by decide) (fun c181 => ?_) (fun c181 => ?_)
                          · refine fz_aload_n kX11_tries rfl rfl ?_
                            refine fz_getR (t := 90) kX11_tries rfl rfl ?_
                            refine fz_iload kX11_tries rfl rfl ?_
                            refine fz_iload kX11_tries rfl rfl ?_
                            refine fz_iast (n := 4) kX11_tries rfl rfl (by omega) (by omega) ?_
                            refine fz_nmu (S := [(53, 54), (53, 55), (74, 99999), (75, 99999), (89, 99999), (90, 99999)]) (h0 := h) (fz_Iv_up hI175 (by decide) (show (0 : Int) ≤ (h 56 (x28.toNat)) by omega) (show ((h 56 (x28.toNat)) : Int) ≤ 7 by omega)) (fz_fr_up hf180 rfl) (fun H182 hI183 hf184 e185 => ?_)
                            have hXw186 : fz_Xw H182 := fz_Xw_eq (by rw [e185]; exact fz_up_o (by decide)) (by rw [e185]; exact fz_up_ne (by decide)) (by rw [e185]; exact fz_up_ne (by decide)) (by rw [e185]; exact fz_up_ne (by decide)) (by rw [e185]; exact fz_up_ne (by decide)) hXw177
                            clear e185
                            refine fz_aload_n kX11_tries rfl rfl ?_
                            refine fz_iload_n kX11_tries rfl rfl ?_
                            refine fz_iload kX11_tries rfl rfl ?_
                            refine fz_iload kX11_tries rfl rfl ?_
                            refine fz_iload kX11_tries rfl rfl ?_
                            refine fz_iconst ⟨by decide, by decide⟩ kX11_tries rfl ?_
                            refine fz_iaddN kX11_tries rfl ⟨by decide, by decide⟩ ?_
                            refine fz_eqi (y := 1) rfl ?_
                            refine fz_iload kX11_tries rfl rfl ?_
                            refine fz_aload_n kX11_tries rfl rfl ?_
                            refine fz_iload_n kX11_tries rfl rfl ?_
                            refine fz_iload kX11_tries rfl rfl ?_
                            refine fz_iload kX11_tries rfl rfl ?_
                            refine fz_callV (d' := 4) (M' := mX11_receivedIn) (As := [fz_i pe, fz_i (h 56 (x28.toNat)), fz_i z168]) (st := [fz_i su, fz_i 1, fz_i z168, fz_i (h 56 (x28.toNat)), fz_i pe, fz_r 53]) kX11_tries rfl rfl vX11_receivedIn rfl rfl rfl rfl (Nat.le_of_ble_eq_true rfl) (Nat.le_of_ble_eq_true rfl) (by decide) (sX11_receivedIn H182 hI183 pe (h 56 (x28.toNat)) z168 hXw186 (by omega)) (fun H187 r188 q189 o190 => ?_)
                            obtain ⟨hI191, hf192, hXw193, y195, rfl, f194⟩ := q189
                            clear o190
                            have hf196 := fz_fr_tr hf184 hf192 (show fz_su [(74, 99999), (75, 99999)] [(53, 54), (53, 55), (74, 99999), (75, 99999), (89, 99999), (90, 99999)] = true from rfl)
                            refine fz_iadd kX11_tries rfl ?_
                            refine fz_nmw (fun z197 e198 => ?_)
                            refine fz_callV (d' := 7) (M' := mX11_tries) (As := [fz_i pe, fz_i (h 56 (x28.toNat)), fz_i z168, fz_i 1, fz_i z197]) (st := []) kX11_tries rfl rfl vX11_tries rfl rfl rfl rfl (Nat.le_of_ble_eq_true rfl) (Nat.le_of_ble_eq_true rfl) (by decide) (sX11_tries_1 H187 hI191 pe (h 56 (x28.toNat)) z168 z197 hXw193 (by omega)) (fun H199 r200 q201 o202 => ?_)
                            obtain ⟨hI203, hf204, hXw205, rfl⟩ := q201
                            clear o202
                            have hf206 := fz_fr_tr hf196 hf204 (show fz_su [(53, 54), (53, 55), (74, 99999), (75, 99999), (89, 99999), (90, 99999)] [(53, 54), (53, 55), (74, 99999), (75, 99999), (89, 99999), (90, 99999)] = true from rfl)
                            refine fz_iincN (ls' := [(6, fz_i (x28 + 1)), (8, fz_i z168), (7, fz_i (h 56 (x28.toNat))), (0, fz_r 53), (1, fz_i pe), (2, fz_i t), (3, fz_i hr), (4, fz_i 0), (5, fz_i su)]) kX11_tries rfl (by decide) rfl (by omega) rfl ?_
                            refine fz_goto (tgt := 79) kX11_tries rfl (by decide) ?_
                            refine fz_sub (fz_pk_sub (ls' := [(6, fz_i (x28 + 1)), (0, fz_r 53), (1, fz_i pe), (2, fz_i t), (3, fz_i hr), (4, fz_i 0), (5, fz_i su)]) [0, 3, 4, 5, 6, 7, 8] rfl) ?_
                            exact ih35 (x28 + 1) H199 hI203 hf206 hXw205 (by omega) (by omega)
                          · refine fz_goto (tgt := 211) kX11_tries rfl (by decide) ?_
                            refine fz_iincN (ls' := [(6, fz_i (x28 + 1)), (8, fz_i z168), (7, fz_i (h 56 (x28.toNat))), (0, fz_r 53), (1, fz_i pe), (2, fz_i t), (3, fz_i hr), (4, fz_i 0), (5, fz_i su)]) kX11_tries rfl (by decide) rfl (by omega) rfl ?_
                            refine fz_goto (tgt := 79) kX11_tries rfl (by decide) ?_
                            refine fz_sub (fz_pk_sub (ls' := [(6, fz_i (x28 + 1)), (0, fz_r 53), (1, fz_i pe), (2, fz_i t), (3, fz_i hr), (4, fz_i 0), (5, fz_i su)]) [0, 3, 4, 5, 6, 7, 8] rfl) ?_
                            exact ih35 (x28 + 1) H171 hI175 hf180 hXw177 (by omega) (by omega)
                    · refine fz_goto (tgt := 211) kX11_tries rfl (by decide) ?_
                      refine fz_iincN (ls' := [(6, fz_i (x28 + 1)), (0, fz_r 53), (1, fz_i pe), (2, fz_i t), (3, fz_i hr), (4, fz_i 0), (5, fz_i su)]) kX11_tries rfl (by decide) rfl (by omega) rfl ?_
                      refine fz_goto (tgt := 79) kX11_tries rfl (by decide) ?_
                      exact ih35 (x28 + 1) H30 hI31 hf32 hXw29 (by omega) (by omega)
            exact lp34 _ 0 H18 hI19 hf20 hXw17 (by omega) (Nat.lt_succ_self _)
          · exfalso; omega
        · exfalso; omega
    exact lp22 _ 0 H9 hI10 hf11 hXw15 (by omega) (Nat.lt_succ_self _)
  · refine fz_iload kX11_tries rfl rfl ?_
    refine fz_aload_n kX11_tries rfl rfl ?_
    refine fz_getV (v := h 53 54) kX11_tries rfl rfl rfl ?_
    refine fz_icmp_ne (tgt := 69) kX11_tries rfl (by decide) (fun c207 => ?_) (fun c207 => ?_)
    · refine fz_iload kX11_tries rfl rfl ?_
      refine fz_iconst ⟨by decide, by decide⟩ kX11_tries rfl ?_
      refine fz_icmp_ne (tgt := 76) kX11_tries rfl (by decide) (fun c208 => ?_) (fun c208 => ?_)
      · refine fz_iconst ⟨by decide, by decide⟩ kX11_tries rfl ?_
        refine fz_istore (ls' := [(6, fz_i 0), (0, fz_r 53), (1, fz_i pe), (2, fz_i t), (3, fz_i hr), (4, fz_i 0), (5, fz_i su)]) kX11_tries rfl (by decide) rfl ?_
        have lp215 : ∀ (n214 : Nat) (x209 : Int) (H211 : fz_H), fz_Iv H211 → fz_fr [(53, 54), (53, 55), (74, 99999), (75, 99999), (89, 99999), (90, 99999)] h H211 → fz_Xw H211 → (0 ≤ x209 ∧ x209 ≤ 2147483647) → ((h 53 2) - x209).toNat < n214 → fz_R 8 mX11_tries 79 [(6, fz_i x209), (0, fz_r 53), (1, fz_i pe), (2, fz_i t), (3, fz_i hr), (4, fz_i 0), (5, fz_i su)] [] H211 (qX11_tries_0 h pe t hr su) := by
          intro n214
          induction n214 with
          | zero => intro x209 H211 hI212 hf213 hXw210 hv218 hm217; exact absurd hm217 (by omega)
          | succ n214 ih216 =>
            intro x209 H211 hI212 hf213 hXw210 hv218 hm217
            refine fz_iload kX11_tries rfl rfl ?_
            refine fz_aload_n kX11_tries rfl rfl ?_
            refine fz_getV (v := h 53 2) kX11_tries rfl rfl (hf213 53 2 rfl) ?_
            have b219 : 0 ≤ h 53 2 ∧ h 53 2 ≤ 12 := hI.1 53 _
            refine fz_icmp_ge (tgt := 217) kX11_tries rfl (by decide) (fun c220 => ?_) (fun c220 => ?_)
            · exact fz_vret kX11_tries rfl rfl ⟨hI212, hf213, hXw210, rfl⟩
            · refine fz_aload_n kX11_tries rfl rfl ?_
              refine fz_getR (t := 55) kX11_tries rfl rfl ?_
              refine fz_iload kX11_tries rfl rfl ?_
              refine fz_ialdV (n := 12) (v := h 55 (x209.toNat)) kX11_tries rfl rfl (by omega) (by omega) (hf213 55 _ rfl) ?_
              have b221 : 0 ≤ h 55 (x209.toNat) ∧ h 55 (x209.toNat) ≤ 7 := hI.1 55 _
              refine fz_iload_n kX11_tries rfl rfl ?_
              refine fz_icmp_eq (tgt := 113) kX11_tries rfl (by decide) (fun c222 => ?_) (fun c222 => ?_)
              · refine fz_aload_n kX11_tries rfl rfl ?_
                refine fz_getR (t := 55) kX11_tries rfl rfl ?_
                refine fz_iload kX11_tries rfl rfl ?_
                refine fz_ialdV (n := 12) (v := h 55 (x209.toNat)) kX11_tries rfl rfl (by omega) (by omega) (hf213 55 _ rfl) ?_
                refine fz_iload_n kX11_tries rfl rfl ?_
                refine fz_icmp_ne (tgt := 134) kX11_tries rfl (by decide) (fun c223 => ?_) (fun c223 => ?_)
                · refine fz_aload_n kX11_tries rfl rfl ?_
                  refine fz_getR (t := 55) kX11_tries rfl rfl ?_
                  refine fz_iload kX11_tries rfl rfl ?_
                  refine fz_ialdV (n := 12) (v := h 55 (x209.toNat)) kX11_tries rfl rfl (by omega) (by omega) (hf213 55 _ rfl) ?_
                  refine fz_istore (ls' := [(7, fz_i (h 55 (x209.toNat))), (6, fz_i x209), (0, fz_r 53), (1, fz_i pe), (2, fz_i t), (3, fz_i hr), (4, fz_i 0), (5, fz_i su)]) kX11_tries rfl (by decide) rfl ?_
                  refine fz_iload_n kX11_tries rfl rfl ?_
                  refine fz_aload_n kX11_tries rfl rfl ?_
                  refine fz_getR (t := 57) kX11_tries rfl rfl ?_
                  refine fz_iload kX11_tries rfl rfl ?_
                  refine fz_ialdV (n := 12) (v := h 57 (x209.toNat)) kX11_tries rfl rfl (by omega) (by omega) (hf213 57 _ rfl) ?_
                  have b224 : 0 ≤ h 57 (x209.toNat) ∧ h 57 (x209.toNat) ≤ 24 := hI.1 57 _
                  refine fz_iadd kX11_tries rfl ?_
                  refine fz_nmw (fun z225 e226 => ?_)
                  refine fz_istore (ls' := [(8, fz_i z225), (7, fz_i (h 55 (x209.toNat))), (6, fz_i x209), (0, fz_r 53), (1, fz_i pe), (2, fz_i t), (3, fz_i hr), (4, fz_i 0), (5, fz_i su)]) kX11_tries rfl (by decide) rfl ?_
                  refine fz_iload kX11_tries rfl rfl ?_
                  refine fz_sipush ⟨by decide, by decide⟩ kX11_tries rfl ?_
                  refine fz_icmp_gt (tgt := 211) kX11_tries rfl (by decide) (fun c227 => ?_) (fun c227 => ?_)
                  · refine fz_iincN (ls' := [(6, fz_i (x209 + 1)), (8, fz_i z225), (7, fz_i (h 55 (x209.toNat))), (0, fz_r 53), (1, fz_i pe), (2, fz_i t), (3, fz_i hr), (4, fz_i 0), (5, fz_i su)]) kX11_tries rfl (by decide) rfl (by omega) rfl ?_
                    refine fz_goto (tgt := 79) kX11_tries rfl (by decide) ?_
                    refine fz_sub (fz_pk_sub (ls' := [(6, fz_i (x209 + 1)), (0, fz_r 53), (1, fz_i pe), (2, fz_i t), (3, fz_i hr), (4, fz_i 0), (5, fz_i su)]) [0, 3, 4, 5, 6, 7, 8] rfl) ?_
                    exact ih216 (x209 + 1) H211 hI212 hf213 hXw210 (by omega) (by omega)
                  · refine fz_aload_n kX11_tries rfl rfl ?_
                    refine fz_iload_n kX11_tries rfl rfl ?_
                    refine fz_iload kX11_tries rfl rfl ?_
                    refine fz_iload kX11_tries rfl rfl ?_
                    refine fz_callV (d' := 4) (M' := mX11_isArrested) (As := [fz_i pe, fz_i (h 55 (x209.toNat)), fz_i z225]) (st := []) kX11_tries rfl rfl vX11_isArrested rfl rfl rfl rfl (Nat.le_of_ble_eq_true rfl) (Nat.le_of_ble_eq_true rfl) (by decide) (sX11_isArrested H211 hI212 pe (h 55 (x209.toNat)) z225 hXw210 (by omega)) (fun H228 r229 q230 o231 => ?_)
                    obtain ⟨hI232, hf233, hXw234, y235, rfl, p236⟩ := q230
                    clear o231
                    have hf237 := fz_fr_tr hf213 hf233 (show fz_su [(74, 99999), (75, 99999)] [(53, 54), (53, 55), (74, 99999), (75, 99999), (89, 99999), (90, 99999)] = true from rfl)
                    refine fz_if_eq (tgt := 177) kX11_tries rfl (by decide) (fun c238 => ?_) (fun c238 => ?_)
                    · refine fz_aload_n kX11_tries rfl rfl ?_
                      refine fz_getR (t := 90) kX11_tries rfl rfl ?_
                      refine fz_iload kX11_tries rfl rfl ?_
                      refine fz_iload kX11_tries rfl rfl ?_
                      refine fz_iast (n := 4) kX11_tries rfl rfl (by omega) (by omega) ?_
                      refine fz_nmu (S := [(53, 54), (53, 55), (74, 99999), (75, 99999), (89, 99999), (90, 99999)]) (h0 := h) (fz_Iv_up hI232 (by decide) (show (0 : Int) ≤ (h 55 (x209.toNat)) by omega) (show ((h 55 (x209.toNat)) : Int) ≤ 7 by omega)) (fz_fr_up hf237 rfl) (fun H239 hI240 hf241 e242 => ?_)
                      have hXw243 : fz_Xw H239 := fz_Xw_eq (by rw [e242]; exact fz_up_o (by decide)) (by rw [e242]; exact fz_up_ne (by decide)) (by rw [e242]; exact fz_up_ne (by decide)) (by rw [e242]; exact fz_up_ne (by decide)) (by rw [e242]; exact fz_up_ne (by decide)) hXw234
                      clear e242
                      refine fz_aload_n kX11_tries rfl rfl ?_
                      refine fz_iload_n kX11_tries rfl rfl ?_
                      refine fz_iload kX11_tries rfl rfl ?_
                      refine fz_iload kX11_tries rfl rfl ?_
                      refine fz_iload kX11_tries rfl rfl ?_
                      refine fz_iconst ⟨by decide, by decide⟩ kX11_tries rfl ?_
                      refine fz_iaddN kX11_tries rfl ⟨by decide, by decide⟩ ?_
                      refine fz_eqi (y := 1) rfl ?_
                      refine fz_iload kX11_tries rfl rfl ?_
                      refine fz_aload_n kX11_tries rfl rfl ?_
                      refine fz_iload_n kX11_tries rfl rfl ?_
                      refine fz_iload kX11_tries rfl rfl ?_
                      refine fz_iload kX11_tries rfl rfl ?_
                      refine fz_callV (d' := 4) (M' := mX11_receivedIn) (As := [fz_i pe, fz_i (h 55 (x209.toNat)), fz_i z225]) (st := [fz_i su, fz_i 1, fz_i z225, fz_i (h 55 (x209.toNat)), fz_i pe, fz_r 53]) kX11_tries rfl rfl vX11_receivedIn rfl rfl rfl rfl (Nat.le_of_ble_eq_true rfl) (Nat.le_of_ble_eq_true rfl) (by decide) (sX11_receivedIn H239 hI240 pe (h 55 (x209.toNat)) z225 hXw243 (by omega)) (fun H244 r245 q246 o247 => ?_)
                      obtain ⟨hI248, hf249, hXw250, y252, rfl, f251⟩ := q246
                      clear o247
                      have hf253 := fz_fr_tr hf241 hf249 (show fz_su [(74, 99999), (75, 99999)] [(53, 54), (53, 55), (74, 99999), (75, 99999), (89, 99999), (90, 99999)] = true from rfl)
                      refine fz_iadd kX11_tries rfl ?_
                      refine fz_nmw (fun z254 e255 => ?_)
                      refine fz_callV (d' := 7) (M' := mX11_tries) (As := [fz_i pe, fz_i (h 55 (x209.toNat)), fz_i z225, fz_i 1, fz_i z254]) (st := []) kX11_tries rfl rfl vX11_tries rfl rfl rfl rfl (Nat.le_of_ble_eq_true rfl) (Nat.le_of_ble_eq_true rfl) (by decide) (sX11_tries_1 H244 hI248 pe (h 55 (x209.toNat)) z225 z254 hXw250 (by omega)) (fun H256 r257 q258 o259 => ?_)
                      obtain ⟨hI260, hf261, hXw262, rfl⟩ := q258
                      clear o259
                      have hf263 := fz_fr_tr hf253 hf261 (show fz_su [(53, 54), (53, 55), (74, 99999), (75, 99999), (89, 99999), (90, 99999)] [(53, 54), (53, 55), (74, 99999), (75, 99999), (89, 99999), (90, 99999)] = true from rfl)
                      refine fz_iincN (ls' := [(6, fz_i (x209 + 1)), (8, fz_i z225), (7, fz_i (h 55 (x209.toNat))), (0, fz_r 53), (1, fz_i pe), (2, fz_i t), (3, fz_i hr), (4, fz_i 0), (5, fz_i su)]) kX11_tries rfl (by decide) rfl (by omega) rfl ?_
                      refine fz_goto (tgt := 79) kX11_tries rfl (by decide) ?_
                      refine fz_sub (fz_pk_sub (ls' := [(6, fz_i (x209 + 1)), (0, fz_r 53), (1, fz_i pe), (2, fz_i t), (3, fz_i hr), (4, fz_i 0), (5, fz_i su)]) [0, 3, 4, 5, 6, 7, 8] rfl) ?_
                      exact ih216 (x209 + 1) H256 hI260 hf263 hXw262 (by omega) (by omega)
                    · refine fz_goto (tgt := 211) kX11_tries rfl (by decide) ?_
                      refine fz_iincN (ls' := [(6, fz_i (x209 + 1)), (8, fz_i z225), (7, fz_i (h 55 (x209.toNat))), (0, fz_r 53), (1, fz_i pe), (2, fz_i t), (3, fz_i hr), (4, fz_i 0), (5, fz_i su)]) kX11_tries rfl (by decide) rfl (by omega) rfl ?_
                      refine fz_goto (tgt := 79) kX11_tries rfl (by decide) ?_
                      refine fz_sub (fz_pk_sub (ls' := [(6, fz_i (x209 + 1)), (0, fz_r 53), (1, fz_i pe), (2, fz_i t), (3, fz_i hr), (4, fz_i 0), (5, fz_i su)]) [0, 3, 4, 5, 6, 7, 8] rfl) ?_
                      exact ih216 (x209 + 1) H228 hI232 hf237 hXw234 (by omega) (by omega)
                · refine fz_aload_n kX11_tries rfl rfl ?_
                  refine fz_getR (t := 56) kX11_tries rfl rfl ?_
                  refine fz_iload kX11_tries rfl rfl ?_
                  refine fz_ialdV (n := 12) (v := h 56 (x209.toNat)) kX11_tries rfl rfl (by omega) (by omega) (hf213 56 _ rfl) ?_
                  have b264 : 0 ≤ h 56 (x209.toNat) ∧ h 56 (x209.toNat) ≤ 7 := hI.1 56 _
                  refine fz_goto (tgt := 141) kX11_tries rfl (by decide) ?_
                  refine fz_istore (ls' := [(7, fz_i (h 56 (x209.toNat))), (6, fz_i x209), (0, fz_r 53), (1, fz_i pe), (2, fz_i t), (3, fz_i hr), (4, fz_i 0), (5, fz_i su)]) kX11_tries rfl (by decide) rfl ?_
                  refine fz_iload_n kX11_tries rfl rfl ?_
                  refine fz_aload_n kX11_tries rfl rfl ?_
                  refine fz_getR (t := 57) kX11_tries rfl rfl ?_
                  refine fz_iload kX11_tries rfl rfl ?_
                  refine fz_ialdV (n := 12) (v := h 57 (x209.toNat)) kX11_tries rfl rfl (by omega) (by omega) (hf213 57 _ rfl) ?_
                  have b265 : 0 ≤ h 57 (x209.toNat) ∧ h 57 (x209.toNat) ≤ 24 := hI.1 57 _
                  refine fz_iadd kX11_tries rfl ?_
                  refine fz_nmw (fun z266 e267 => ?_)
                  refine fz_istore (ls' := [(8, fz_i z266), (7, fz_i (h 56 (x209.toNat))), (6, fz_i x209), (0, fz_r 53), (1, fz_i pe), (2, fz_i t), (3, fz_i hr), (4, fz_i 0), (5, fz_i su)]) kX11_tries rfl (by decide) rfl ?_
                  refine fz_iload kX11_tries rfl rfl ?_
                  refine fz_sipush ⟨by decide, by decide⟩ kX11_tries rfl ?_
                  refine fz_icmp_gt (tgt := 211) kX11_tries rfl (by decide) (fun c268 => ?_) (fun c268 => ?_)
                  · refine fz_iincN (ls' := [(6, fz_i (x209 + 1)), (8, fz_i z266), (7, fz_i (h 56 (x209.toNat))), (0, fz_r 53), (1, fz_i pe), (2, fz_i t), (3, fz_i hr), (4, fz_i 0), (5, fz_i su)]) kX11_tries rfl (by decide) rfl (by omega) rfl ?_
                    refine fz_goto (tgt := 79) kX11_tries rfl (by decide) ?_
                    refine fz_sub (fz_pk_sub (ls' := [(6, fz_i (x209 + 1)), (0, fz_r 53), (1, fz_i pe), (2, fz_i t), (3, fz_i hr), (4, fz_i 0), (5, fz_i su)]) [0, 3, 4, 5, 6, 7, 8] rfl) ?_
                    exact ih216 (x209 + 1) H211 hI212 hf213 hXw210 (by omega) (by omega)
                  · refine fz_aload_n kX11_tries rfl rfl ?_
                    refine fz_iload_n kX11_tries rfl rfl ?_
                    refine fz_iload kX11_tries rfl rfl ?_
                    refine fz_iload kX11_tries rfl rfl ?_
                    refine fz_callV (d' := 4) (M' := mX11_isArrested) (As := [fz_i pe, fz_i (h 56 (x209.toNat)), fz_i z266]) (st := []) kX11_tries rfl rfl vX11_isArrested rfl rfl rfl rfl (Nat.le_of_ble_eq_true rfl) (Nat.le_of_ble_eq_true rfl) (by decide) (sX11_isArrested H211 hI212 pe (h 56 (x209.toNat)) z266 hXw210 (by omega)) (fun H269 r270 q271 o272 => ?_)
                    obtain ⟨hI273, hf274, hXw275, y276, rfl, p277⟩ := q271
                    clear o272
                    have hf278 := fz_fr_tr hf213 hf274 (show fz_su [(74, 99999), (75, 99999)] [(53, 54), (53, 55), (74, 99999), (75, 99999), (89, 99999), (90, 99999)] = true from rfl)
                    refine fz_if_eq (tgt := 177) kX11_tries rfl (by decide) (fun c279 => ?_) (fun c279 => ?_)
                    · refine fz_aload_n kX11_tries rfl rfl ?_
                      refine fz_getR (t := 90) kX11_tries rfl rfl ?_
                      refine fz_iload kX11_tries rfl rfl ?_
                      refine fz_iload kX11_tries rfl rfl ?_
                      refine fz_iast (n := 4) kX11_tries rfl rfl (by omega) (by omega) ?_
                      refine fz_nmu (S := [(53, 54), (53, 55), (74, 99999), (75, 99999), (89, 99999), (90, 99999)]) (h0 := h) (fz_Iv_up hI273 (by decide) (show (0 : Int) ≤ (h 56 (x209.toNat)) by omega) (show ((h 56 (x209.toNat)) : Int) ≤ 7 by omega)) (fz_fr_up hf278 rfl) (fun H280 hI281 hf282 e283 => ?_)
                      have hXw284 : fz_Xw H280 := fz_Xw_eq (by rw [e283]; exact fz_up_o (by decide)) (by rw [e283]; exact fz_up_ne (by decide)) (by rw [e283]; exact fz_up_ne (by decide)) (by rw [e283]; exact fz_up_ne (by decide)) (by rw [e283]; exact fz_up_ne (by decide)) hXw275
                      clear e283
                      refine fz_aload_n kX11_tries rfl rfl ?_
                      refine fz_iload_n kX11_tries rfl rfl ?_
                      refine fz_iload kX11_tries rfl rfl ?_
                      refine fz_iload kX11_tries rfl rfl ?_
                      refine fz_iload kX11_tries rfl rfl ?_
                      refine fz_iconst ⟨by decide, by decide⟩ kX11_tries rfl ?_
                      refine fz_iaddN kX11_tries rfl ⟨by decide, by decide⟩ ?_
                      refine fz_eqi (y := 1) rfl ?_
                      refine fz_iload kX11_tries rfl rfl ?_
                      refine fz_aload_n kX11_tries rfl rfl ?_
                      refine fz_iload_n kX11_tries rfl rfl ?_
                      refine fz_iload kX11_tries rfl rfl ?_
                      refine fz_iload kX11_tries rfl rfl ?_
                      refine fz_callV (d' := 4) (M' := mX11_receivedIn) (As := [fz_i pe, fz_i (h 56 (x209.toNat)), fz_i z266]) (st := [fz_i su, fz_i 1, fz_i z266, fz_i (h 56 (x209.toNat)), fz_i pe, fz_r 53]) kX11_tries rfl rfl vX11_receivedIn rfl rfl rfl rfl (Nat.le_of_ble_eq_true rfl) (Nat.le_of_ble_eq_true rfl) (by decide) (sX11_receivedIn H280 hI281 pe (h 56 (x209.toNat)) z266 hXw284 (by omega)) (fun H285 r286 q287 o288 => ?_)
                      obtain ⟨hI289, hf290, hXw291, y293, rfl, f292⟩ := q287
                      clear o288
                      have hf294 := fz_fr_tr hf282 hf290 (show fz_su [(74, 99999), (75, 99999)] [(53, 54), (53, 55), (74, 99999), (75, 99999), (89, 99999), (90, 99999)] = true from rfl)
                      refine fz_iadd kX11_tries rfl ?_
                      refine fz_nmw (fun z295 e296 => ?_)
                      refine fz_callV (d' := 7) (M' := mX11_tries) (As := [fz_i pe, fz_i (h 56 (x209.toNat)), fz_i z266, fz_i 1, fz_i z295]) (st := []) kX11_tries rfl rfl vX11_tries rfl rfl rfl rfl (Nat.le_of_ble_eq_true rfl) (Nat.le_of_ble_eq_true rfl) (by decide) (sX11_tries_1 H285 hI289 pe (h 56 (x209.toNat)) z266 z295 hXw291 (by omega)) (fun H297 r298 q299 o300 => ?_)
                      obtain ⟨hI301, hf302, hXw303, rfl⟩ := q299
                      clear o300
                      have hf304 := fz_fr_tr hf294 hf302 (show fz_su [(53, 54), (53, 55), (74, 99999), (75, 99999), (89, 99999), (90, 99999)] [(53, 54), (53, 55), (74, 99999), (75, 99999), (89, 99999), (90, 99999)] = true from rfl)
                      refine fz_iincN (ls' := [(6, fz_i (x209 + 1)), (8, fz_i z266), (7, fz_i (h 56 (x209.toNat))), (0, fz_r 53), (1, fz_i pe), (2, fz_i t), (3, fz_i hr), (4, fz_i 0), (5, fz_i su)]) kX11_tries rfl (by decide) rfl (by omega) rfl ?_
                      refine fz_goto (tgt := 79) kX11_tries rfl (by decide) ?_
                      refine fz_sub (fz_pk_sub (ls' := [(6, fz_i (x209 + 1)), (0, fz_r 53), (1, fz_i pe), (2, fz_i t), (3, fz_i hr), (4, fz_i 0), (5, fz_i su)]) [0, 3, 4, 5, 6, 7, 8] rfl) ?_
                      exact ih216 (x209 + 1) H297 hI301 hf304 hXw303 (by omega) (by omega)
                    · refine fz_goto (tgt := 211) kX11_tries rfl (by decide) ?_
                      refine fz_iincN (ls' := [(6, fz_i (x209 + 1)), (8, fz_i z266), (7, fz_i (h 56 (x209.toNat))), (0, fz_r 53), (1, fz_i pe), (2, fz_i t), (3, fz_i hr), (4, fz_i 0), (5, fz_i su)]) kX11_tries rfl (by decide) rfl (by omega) rfl ?_
                      refine fz_goto (tgt := 79) kX11_tries rfl (by decide) ?_
                      refine fz_sub (fz_pk_sub (ls' := [(6, fz_i (x209 + 1)), (0, fz_r 53), (1, fz_i pe), (2, fz_i t), (3, fz_i hr), (4, fz_i 0), (5, fz_i su)]) [0, 3, 4, 5, 6, 7, 8] rfl) ?_
                      exact ih216 (x209 + 1) H269 hI273 hf278 hXw275 (by omega) (by omega)
              · refine fz_aload_n kX11_tries rfl rfl ?_
                refine fz_getR (t := 56) kX11_tries rfl rfl ?_
                refine fz_iload kX11_tries rfl rfl ?_
                refine fz_ialdV (n := 12) (v := h 56 (x209.toNat)) kX11_tries rfl rfl (by omega) (by omega) (hf213 56 _ rfl) ?_
                have b305 : 0 ≤ h 56 (x209.toNat) ∧ h 56 (x209.toNat) ≤ 7 := hI.1 56 _
                refine fz_iload_n kX11_tries rfl rfl ?_
                refine fz_icmp_eq (tgt := 113) kX11_tries rfl (by decide) (fun c306 => ?_) (fun c306 => ?_)
                · refine fz_aload_n kX11_tries rfl rfl ?_
                  refine fz_getR (t := 55) kX11_tries rfl rfl ?_
                  refine fz_iload kX11_tries rfl rfl ?_
                  refine fz_ialdV (n := 12) (v := h 55 (x209.toNat)) kX11_tries rfl rfl (by omega) (by omega) (hf213 55 _ rfl) ?_
                  refine fz_iload_n kX11_tries rfl rfl ?_
                  refine fz_icmp_ne (tgt := 134) kX11_tries rfl (by decide) (fun c307 => ?_) (fun c307 => ?_)
                  · refine fz_aload_n kX11_tries rfl rfl ?_
                    refine fz_getR (t := 55) kX11_tries rfl rfl ?_
                    refine fz_iload kX11_tries rfl rfl ?_
                    refine fz_ialdV (n := 12) (v := h 55 (x209.toNat)) kX11_tries rfl rfl (by omega) (by omega) (hf213 55 _ rfl) ?_
                    refine fz_istore (ls' := [(7, fz_i (h 55 (x209.toNat))), (6, fz_i x209), (0, fz_r 53), (1, fz_i pe), (2, fz_i t), (3, fz_i hr), (4, fz_i 0), (5, fz_i su)]) kX11_tries rfl (by decide) rfl ?_
                    refine fz_iload_n kX11_tries rfl rfl ?_
                    refine fz_aload_n kX11_tries rfl rfl ?_
                    refine fz_getR (t := 57) kX11_tries rfl rfl ?_
                    refine fz_iload kX11_tries rfl rfl ?_
                    refine fz_ialdV (n := 12) (v := h 57 (x209.toNat)) kX11_tries rfl rfl (by omega) (by omega) (hf213 57 _ rfl) ?_
                    have b308 : 0 ≤ h 57 (x209.toNat) ∧ h 57 (x209.toNat) ≤ 24 := hI.1 57 _
                    refine fz_iadd kX11_tries rfl ?_
                    refine fz_nmw (fun z309 e310 => ?_)
                    refine fz_istore (ls' := [(8, fz_i z309), (7, fz_i (h 55 (x209.toNat))), (6, fz_i x209), (0, fz_r 53), (1, fz_i pe), (2, fz_i t), (3, fz_i hr), (4, fz_i 0), (5, fz_i su)]) kX11_tries rfl (by decide) rfl ?_
                    refine fz_iload kX11_tries rfl rfl ?_
                    refine fz_sipush ⟨by decide, by decide⟩ kX11_tries rfl ?_
                    refine fz_icmp_gt (tgt := 211) kX11_tries rfl (by decide) (fun c311 => ?_) (fun c311 => ?_)
                    · refine fz_iincN (ls' := [(6, fz_i (x209 + 1)), (8, fz_i z309), (7, fz_i (h 55 (x209.toNat))), (0, fz_r 53), (1, fz_i pe), (2, fz_i t), (3, fz_i hr), (4, fz_i 0), (5, fz_i su)]) kX11_tries rfl (by decide) rfl (by omega) rfl ?_
                      refine fz_goto (tgt := 79) kX11_tries rfl (by decide) ?_
                      refine fz_sub (fz_pk_sub (ls' := [(6, fz_i (x209 + 1)), (0, fz_r 53), (1, fz_i pe), (2, fz_i t), (3, fz_i hr), (4, fz_i 0), (5, fz_i su)]) [0, 3, 4, 5, 6, 7, 8] rfl) ?_
                      exact ih216 (x209 + 1) H211 hI212 hf213 hXw210 (by omega) (by omega)
                    · refine fz_aload_n kX11_tries rfl rfl ?_
                      refine fz_iload_n kX11_tries rfl rfl ?_
                      refine fz_iload kX11_tries rfl rfl ?_
                      refine fz_iload kX11_tries rfl rfl ?_
                      refine fz_callV (d' := 4) (M' := mX11_isArrested) (As := [fz_i pe, fz_i (h 55 (x209.toNat)), fz_i z309]) (st := []) kX11_tries rfl rfl vX11_isArrested rfl rfl rfl rfl (Nat.le_of_ble_eq_true rfl) (Nat.le_of_ble_eq_true rfl) (by decide) (sX11_isArrested H211 hI212 pe (h 55 (x209.toNat)) z309 hXw210 (by omega)) (fun H312 r313 q314 o315 => ?_)
                      obtain ⟨hI316, hf317, hXw318, y319, rfl, p320⟩ := q314
                      clear o315
                      have hf321 := fz_fr_tr hf213 hf317 (show fz_su [(74, 99999), (75, 99999)] [(53, 54), (53, 55), (74, 99999), (75, 99999), (89, 99999), (90, 99999)] = true from rfl)
                      refine fz_if_eq (tgt := 177) kX11_tries rfl (by decide) (fun c322 => ?_) (fun c322 => ?_)
                      · refine fz_aload_n kX11_tries rfl rfl ?_
                        refine fz_getR (t := 90) kX11_tries rfl rfl ?_
                        refine fz_iload kX11_tries rfl rfl ?_
                        refine fz_iload kX11_tries rfl rfl ?_
                        refine fz_iast (n := 4) kX11_tries rfl rfl (by omega) (by omega) ?_
                        refine fz_nmu (S := [(53, 54), (53, 55), (74, 99999), (75, 99999), (89, 99999), (90, 99999)]) (h0 := h) (fz_Iv_up hI316 (by decide) (show (0 : Int) ≤ (h 55 (x209.toNat)) by omega) (show ((h 55 (x209.toNat)) : Int) ≤ 7 by omega)) (fz_fr_up hf321 rfl) (fun H323 hI324 hf325 e326 => ?_)
                        have hXw327 : fz_Xw H323 := fz_Xw_eq (by rw [e326]; exact fz_up_o (by decide)) (by rw [e326]; exact fz_up_ne (by decide)) (by rw [e326]; exact fz_up_ne (by decide)) (by rw [e326]; exact fz_up_ne (by decide)) (by rw [e326]; exact fz_up_ne (by decide)) hXw318
                        clear e326
                        refine fz_aload_n kX11_tries rfl rfl ?_
                        refine fz_iload_n kX11_tries rfl rfl ?_
                        refine fz_iload kX11_tries rfl rfl ?_
                        refine fz_iload kX11_tries rfl rfl ?_
                        refine fz_iload kX11_tries rfl rfl ?_
                        refine fz_iconst ⟨by decide, by decide⟩ kX11_tries rfl ?_
                        refine fz_iaddN kX11_tries rfl ⟨by decide, by decide⟩ ?_
                        refine fz_eqi (y := 1) rfl ?_
                        refine fz_iload kX11_tries rfl rfl ?_
                        refine fz_aload_n kX11_tries rfl rfl ?_
                        refine fz_iload_n kX11_tries rfl rfl ?_
                        refine fz_iload kX11_tries rfl rfl ?_
                        refine fz_iload kX11_tries rfl rfl ?_
                        refine fz_callV (d' := 4) (M' := mX11_receivedIn) (As := [fz_i pe, fz_i (h 55 (x209.toNat)), fz_i z309]) (st := [fz_i su, fz_i 1, fz_i z309, fz_i (h 55 (x209.toNat)), fz_i pe, fz_r 53]) kX11_tries rfl rfl vX11_receivedIn rfl rfl rfl rfl (Nat.le_of_ble_eq_true rfl) (Nat.le_of_ble_eq_true rfl) (by decide) (sX11_receivedIn H323 hI324 pe (h 55 (x209.toNat)) z309 hXw327 (by omega)) (fun H328 r329 q330 o331 => ?_)
                        obtain ⟨hI332, hf333, hXw334, y336, rfl, f335⟩ := q330
                        clear o331
                        have hf337 := fz_fr_tr hf325 hf333 (show fz_su [(74, 99999), (75, 99999)] [(53, 54), (53, 55), (74, 99999), (75, 99999), (89, 99999), (90, 99999)] = true from rfl)
                        refine fz_iadd kX11_tries rfl ?_
                        refine fz_nmw (fun z338 e339 => ?_)
                        refine fz_callV (d' := 7) (M' := mX11_tries) (As := [fz_i pe, fz_i (h 55 (x209.toNat)), fz_i z309, fz_i 1, fz_i z338]) (st := []) kX11_tries rfl rfl vX11_tries rfl rfl rfl rfl (Nat.le_of_ble_eq_true rfl) (Nat.le_of_ble_eq_true rfl) (by decide) (sX11_tries_1 H328 hI332 pe (h 55 (x209.toNat)) z309 z338 hXw334 (by omega)) (fun H340 r341 q342 o343 => ?_)
                        obtain ⟨hI344, hf345, hXw346, rfl⟩ := q342
                        clear o343
                        have hf347 := fz_fr_tr hf337 hf345 (show fz_su [(53, 54), (53, 55), (74, 99999), (75, 99999), (89, 99999), (90, 99999)] [(53, 54), (53, 55), (74, 99999), (75, 99999), (89, 99999), (90, 99999)] = true from rfl)
                        refine fz_iincN (ls' := [(6, fz_i (x209 + 1)), (8, fz_i z309), (7, fz_i (h 55 (x209.toNat))), (0, fz_r 53), (1, fz_i pe), (2, fz_i t), (3, fz_i hr), (4, fz_i 0), (5, fz_i su)]) kX11_tries rfl (by decide) rfl (by omega) rfl ?_
                        refine fz_goto (tgt := 79) kX11_tries rfl (by decide) ?_
                        refine fz_sub (fz_pk_sub (ls' := [(6, fz_i (x209 + 1)), (0, fz_r 53), (1, fz_i pe), (2, fz_i t), (3, fz_i hr), (4, fz_i 0), (5, fz_i su)]) [0, 3, 4, 5, 6, 7, 8] rfl) ?_
                        exact ih216 (x209 + 1) H340 hI344 hf347 hXw346 (by omega) (by omega)
                      · refine fz_goto (tgt := 211) kX11_tries rfl (by decide) ?_
                        refine fz_iincN (ls' := [(6, fz_i (x209 + 1)), (8, fz_i z309), (7, fz_i (h 55 (x209.toNat))), (0, fz_r 53), (1, fz_i pe), (2, fz_i t), (3, fz_i hr), (4, fz_i 0), (5, fz_i su)]) kX11_tries rfl (by decide) rfl (by omega) rfl ?_
                        refine fz_goto (tgt := 79) kX11_tries rfl (by decide) ?_
                        refine fz_sub (fz_pk_sub (ls' := [(6, fz_i (x209 + 1)), (0, fz_r 53), (1, fz_i pe), (2, fz_i t), (3, fz_i hr), (4, fz_i 0), (5, fz_i su)]) [0, 3, 4, 5, 6, 7, 8] rfl) ?_
                        exact ih216 (x209 + 1) H312 hI316 hf321 hXw318 (by omega) (by omega)
                  · refine fz_aload_n kX11_tries rfl rfl ?_
                    refine fz_getR (t := 56) kX11_tries rfl rfl ?_
                    refine fz_iload kX11_tries rfl rfl ?_
                    refine fz_ialdV (n := 12) (v := h 56 (x209.toNat)) kX11_tries rfl rfl (by omega) (by omega) (hf213 56 _ rfl) ?_
                    refine fz_goto (tgt := 141) kX11_tries rfl (by decide) ?_
                    refine fz_istore (ls' := [(7, fz_i (h 56 (x209.toNat))), (6, fz_i x209), (0, fz_r 53), (1, fz_i pe), (2, fz_i t), (3, fz_i hr), (4, fz_i 0), (5, fz_i su)]) kX11_tries rfl (by decide) rfl ?_
                    refine fz_iload_n kX11_tries rfl rfl ?_
                    refine fz_aload_n kX11_tries rfl rfl ?_
                    refine fz_getR (t := 57) kX11_tries rfl rfl ?_
                    refine fz_iload kX11_tries rfl rfl ?_
                    refine fz_ialdV (n := 12) (v := h 57 (x209.toNat)) kX11_tries rfl rfl (by omega) (by omega) (hf213 57 _ rfl) ?_
                    have b348 : 0 ≤ h 57 (x209.toNat) ∧ h 57 (x209.toNat) ≤ 24 := hI.1 57 _
                    refine fz_iadd kX11_tries rfl ?_
                    refine fz_nmw (fun z349 e350 => ?_)
                    refine fz_istore (ls' := [(8, fz_i z349), (7, fz_i (h 56 (x209.toNat))), (6, fz_i x209), (0, fz_r 53), (1, fz_i pe), (2, fz_i t), (3, fz_i hr), (4, fz_i 0), (5, fz_i su)]) kX11_tries rfl (by decide) rfl ?_
                    refine fz_iload kX11_tries rfl rfl ?_
                    refine fz_sipush ⟨by decide, by decide⟩ kX11_tries rfl ?_
                    refine fz_icmp_gt (tgt := 211) kX11_tries rfl (by decide) (fun c351 => ?_) (fun c351 => ?_)
                    · refine fz_iincN (ls' := [(6, fz_i (x209 + 1)), (8, fz_i z349), (7, fz_i (h 56 (x209.toNat))), (0, fz_r 53), (1, fz_i pe), (2, fz_i t), (3, fz_i hr), (4, fz_i 0), (5, fz_i su)]) kX11_tries rfl (by decide) rfl (by omega) rfl ?_
                      refine fz_goto (tgt := 79) kX11_tries rfl (by decide) ?_
                      refine fz_sub (fz_pk_sub (ls' := [(6, fz_i (x209 + 1)), (0, fz_r 53), (1, fz_i pe), (2, fz_i t), (3, fz_i hr), (4, fz_i 0), (5, fz_i su)]) [0, 3, 4, 5, 6, 7, 8] rfl) ?_
                      exact ih216 (x209 + 1) H211 hI212 hf213 hXw210 (by omega) (by omega)
                    · refine fz_aload_n kX11_tries rfl rfl ?_
                      refine fz_iload_n kX11_tries rfl rfl ?_
                      refine fz_iload kX11_tries rfl rfl ?_
                      refine fz_iload kX11_tries rfl rfl ?_
                      refine fz_callV (d' := 4) (M' := mX11_isArrested) (As := [fz_i pe, fz_i (h 56 (x209.toNat)), fz_i z349]) (st := []) kX11_tries rfl rfl vX11_isArrested rfl rfl rfl rfl (Nat.le_of_ble_eq_true rfl) (Nat.le_of_ble_eq_true rfl) (by decide) (sX11_isArrested H211 hI212 pe (h 56 (x209.toNat)) z349 hXw210 (by omega)) (fun H352 r353 q354 o355 => ?_)
                      obtain ⟨hI356, hf357, hXw358, y359, rfl, p360⟩ := q354
                      clear o355
                      have hf361 := fz_fr_tr hf213 hf357 (show fz_su [(74, 99999), (75, 99999)] [(53, 54), (53, 55), (74, 99999), (75, 99999), (89, 99999), (90, 99999)] = true from rfl)
                      refine fz_if_eq (tgt := 177) kX11_tries rfl (by decide) (fun c362 => ?_) (fun c362 => ?_)
                      · refine fz_aload_n kX11_tries rfl rfl ?_
                        refine fz_getR (t := 90) kX11_tries rfl rfl ?_
                        refine fz_iload kX11_tries rfl rfl ?_
                        refine fz_iload kX11_tries rfl rfl ?_
                        refine fz_iast (n := 4) kX11_tries rfl rfl (by omega) (by omega) ?_
                        refine fz_nmu (S := [(53, 54), (53, 55), (74, 99999), (75, 99999), (89, 99999), (90, 99999)]) (h0 := h) (fz_Iv_up hI356 (by decide) (show (0 : Int) ≤ (h 56 (x209.toNat)) by omega) (show ((h 56 (x209.toNat)) : Int) ≤ 7 by omega)) (fz_fr_up hf361 rfl) (fun H363 hI364 hf365 e366 => ?_)
                        have hXw367 : fz_Xw H363 := fz_Xw_eq (by rw [e366]; exact fz_up_o (by decide)) (by rw [e366]; exact fz_up_ne (by decide)) (by rw [e366]; exact fz_up_ne (by decide)) (by rw [e366]; exact fz_up_ne (by decide)) (by rw [e366]; exact fz_up_ne (by decide)) hXw358
                        clear e366
                        refine fz_aload_n kX11_tries rfl rfl ?_
                        refine fz_iload_n kX11_tries rfl rfl ?_
                        refine fz_iload kX11_tries rfl rfl ?_
                        refine fz_iload kX11_tries rfl rfl ?_
                        refine fz_iload kX11_tries rfl rfl ?_
                        refine fz_iconst ⟨by decide, by decide⟩ kX11_tries rfl ?_
                        refine fz_iaddN kX11_tries rfl ⟨by decide, by decide⟩ ?_
                        refine fz_eqi (y := 1) rfl ?_
                        refine fz_iload kX11_tries rfl rfl ?_
                        refine fz_aload_n kX11_tries rfl rfl ?_
                        refine fz_iload_n kX11_tries rfl rfl ?_
                        refine fz_iload kX11_tries rfl rfl ?_
                        refine fz_iload kX11_tries rfl rfl ?_
                        refine fz_callV (d' := 4) (M' := mX11_receivedIn) (As := [fz_i pe, fz_i (h 56 (x209.toNat)), fz_i z349]) (st := [fz_i su, fz_i 1, fz_i z349, fz_i (h 56 (x209.toNat)), fz_i pe, fz_r 53]) kX11_tries rfl rfl vX11_receivedIn rfl rfl rfl rfl (Nat.le_of_ble_eq_true rfl) (Nat.le_of_ble_eq_true rfl) (by decide) (sX11_receivedIn H363 hI364 pe (h 56 (x209.toNat)) z349 hXw367 (by omega)) (fun H368 r369 q370 o371 => ?_)
                        obtain ⟨hI372, hf373, hXw374, y376, rfl, f375⟩ := q370
                        clear o371
                        have hf377 := fz_fr_tr hf365 hf373 (show fz_su [(74, 99999), (75, 99999)] [(53, 54), (53, 55), (74, 99999), (75, 99999), (89, 99999), (90, 99999)] = true from rfl)
                        refine fz_iadd kX11_tries rfl ?_
                        refine fz_nmw (fun z378 e379 => ?_)
                        refine fz_callV (d' := 7) (M' := mX11_tries) (As := [fz_i pe, fz_i (h 56 (x209.toNat)), fz_i z349, fz_i 1, fz_i z378]) (st := []) kX11_tries rfl rfl vX11_tries rfl rfl rfl rfl (Nat.le_of_ble_eq_true rfl) (Nat.le_of_ble_eq_true rfl) (by decide) (sX11_tries_1 H368 hI372 pe (h 56 (x209.toNat)) z349 z378 hXw374 (by omega)) (fun H380 r381 q382 o383 => ?_)
                        obtain ⟨hI384, hf385, hXw386, rfl⟩ := q382
                        clear o383
                        have hf387 := fz_fr_tr hf377 hf385 (show fz_su [(53, 54), (53, 55), (74, 99999), (75, 99999), (89, 99999), (90, 99999)] [(53, 54), (53, 55), (74, 99999), (75, 99999), (89, 99999), (90, 99999)] = true from rfl)
                        refine fz_iincN (ls' := [(6, fz_i (x209 + 1)), (8, fz_i z349), (7, fz_i (h 56 (x209.toNat))), (0, fz_r 53), (1, fz_i pe), (2, fz_i t), (3, fz_i hr), (4, fz_i 0), (5, fz_i su)]) kX11_tries rfl (by decide) rfl (by omega) rfl ?_
                        refine fz_goto (tgt := 79) kX11_tries rfl (by decide) ?_
                        refine fz_sub (fz_pk_sub (ls' := [(6, fz_i (x209 + 1)), (0, fz_r 53), (1, fz_i pe), (2, fz_i t), (3, fz_i hr), (4, fz_i 0), (5, fz_i su)]) [0, 3, 4, 5, 6, 7, 8] rfl) ?_
                        exact ih216 (x209 + 1) H380 hI384 hf387 hXw386 (by omega) (by omega)
                      · refine fz_goto (tgt := 211) kX11_tries rfl (by decide) ?_
                        refine fz_iincN (ls' := [(6, fz_i (x209 + 1)), (8, fz_i z349), (7, fz_i (h 56 (x209.toNat))), (0, fz_r 53), (1, fz_i pe), (2, fz_i t), (3, fz_i hr), (4, fz_i 0), (5, fz_i su)]) kX11_tries rfl (by decide) rfl (by omega) rfl ?_
                        refine fz_goto (tgt := 79) kX11_tries rfl (by decide) ?_
                        refine fz_sub (fz_pk_sub (ls' := [(6, fz_i (x209 + 1)), (0, fz_r 53), (1, fz_i pe), (2, fz_i t), (3, fz_i hr), (4, fz_i 0), (5, fz_i su)]) [0, 3, 4, 5, 6, 7, 8] rfl) ?_
                        exact ih216 (x209 + 1) H352 hI356 hf361 hXw358 (by omega) (by omega)
                · refine fz_goto (tgt := 211) kX11_tries rfl (by decide) ?_
                  refine fz_iincN (ls' := [(6, fz_i (x209 + 1)), (0, fz_r 53), (1, fz_i pe), (2, fz_i t), (3, fz_i hr), (4, fz_i 0), (5, fz_i su)]) kX11_tries rfl (by decide) rfl (by omega) rfl ?_
                  refine fz_goto (tgt := 79) kX11_tries rfl (by decide) ?_
                  exact ih216 (x209 + 1) H211 hI212 hf213 hXw210 (by omega) (by omega)
        exact lp215 _ 0 h hI hf hXw (by omega) (Nat.lt_succ_self _)
      · exfalso; omega
    · refine fz_aload_n kX11_tries rfl rfl ?_
      refine fz_iload kX11_tries rfl rfl ?_
      refine fz_callV (d' := 0) (M' := mX11_isAhead) (As := [fz_i 0]) (st := []) kX11_tries rfl rfl vX11_isAhead rfl rfl rfl rfl (Nat.le_of_ble_eq_true rfl) (Nat.le_of_ble_eq_true rfl) (by decide) (sX11_isAhead h hI 0 (by omega)) (fun H388 r389 q390 o391 => ?_)
      obtain ⟨e392, y393, rfl, p394⟩ := q390
      subst H388
      clear o391
      refine fz_if_eq (tgt := 69) kX11_tries rfl (by decide) (fun c395 => ?_) (fun c395 => ?_)
      · refine fz_iload kX11_tries rfl rfl ?_
        refine fz_iconst ⟨by decide, by decide⟩ kX11_tries rfl ?_
        refine fz_icmp_ne (tgt := 76) kX11_tries rfl (by decide) (fun c396 => ?_) (fun c396 => ?_)
        · refine fz_iconst ⟨by decide, by decide⟩ kX11_tries rfl ?_
          refine fz_istore (ls' := [(6, fz_i 0), (0, fz_r 53), (1, fz_i pe), (2, fz_i t), (3, fz_i hr), (4, fz_i 0), (5, fz_i su)]) kX11_tries rfl (by decide) rfl ?_
          have lp403 : ∀ (n402 : Nat) (x397 : Int) (H399 : fz_H), fz_Iv H399 → fz_fr [(53, 54), (53, 55), (74, 99999), (75, 99999), (89, 99999), (90, 99999)] h H399 → fz_Xw H399 → (0 ≤ x397 ∧ x397 ≤ 2147483647) → ((h 53 2) - x397).toNat < n402 → fz_R 8 mX11_tries 79 [(6, fz_i x397), (0, fz_r 53), (1, fz_i pe), (2, fz_i t), (3, fz_i hr), (4, fz_i 0), (5, fz_i su)] [] H399 (qX11_tries_0 h pe t hr su) := by
            intro n402
            induction n402 with
            | zero => intro x397 H399 hI400 hf401 hXw398 hv406 hm405; exact absurd hm405 (by omega)
            | succ n402 ih404 =>
              intro x397 H399 hI400 hf401 hXw398 hv406 hm405
              refine fz_iload kX11_tries rfl rfl ?_
              refine fz_aload_n kX11_tries rfl rfl ?_
              refine fz_getV (v := h 53 2) kX11_tries rfl rfl (hf401 53 2 rfl) ?_
              have b407 : 0 ≤ h 53 2 ∧ h 53 2 ≤ 12 := hI.1 53 _
              refine fz_icmp_ge (tgt := 217) kX11_tries rfl (by decide) (fun c408 => ?_) (fun c408 => ?_)
              · exact fz_vret kX11_tries rfl rfl ⟨hI400, hf401, hXw398, rfl⟩
              · refine fz_aload_n kX11_tries rfl rfl ?_
                refine fz_getR (t := 55) kX11_tries rfl rfl ?_
                refine fz_iload kX11_tries rfl rfl ?_
                refine fz_ialdV (n := 12) (v := h 55 (x397.toNat)) kX11_tries rfl rfl (by omega) (by omega) (hf401 55 _ rfl) ?_
                have b409 : 0 ≤ h 55 (x397.toNat) ∧ h 55 (x397.toNat) ≤ 7 := hI.1 55 _
                refine fz_iload_n kX11_tries rfl rfl ?_
                refine fz_icmp_eq (tgt := 113) kX11_tries rfl (by decide) (fun c410 => ?_) (fun c410 => ?_)
                · refine fz_aload_n kX11_tries rfl rfl ?_
                  refine fz_getR (t := 55) kX11_tries rfl rfl ?_
                  refine fz_iload kX11_tries rfl rfl ?_
                  refine fz_ialdV (n := 12) (v := h 55 (x397.toNat)) kX11_tries rfl rfl (by omega) (by omega) (hf401 55 _ rfl) ?_
                  refine fz_iload_n kX11_tries rfl rfl ?_
                  refine fz_icmp_ne (tgt := 134) kX11_tries rfl (by decide) (fun c411 => ?_) (fun c411 => ?_)
                  · refine fz_aload_n kX11_tries rfl rfl ?_
                    refine fz_getR (t := 55) kX11_tries rfl rfl ?_
                    refine fz_iload kX11_tries rfl rfl ?_
                    refine fz_ialdV (n := 12) (v := h 55 (x397.toNat)) kX11_tries rfl rfl (by omega) (by omega) (hf401 55 _ rfl) ?_
                    refine fz_istore (ls' := [(7, fz_i (h 55 (x397.toNat))), (6, fz_i x397), (0, fz_r 53), (1, fz_i pe), (2, fz_i t), (3, fz_i hr), (4, fz_i 0), (5, fz_i su)]) kX11_tries rfl (by decide) rfl ?_
                    refine fz_iload_n kX11_tries rfl rfl ?_
                    refine fz_aload_n kX11_tries rfl rfl ?_
                    refine fz_getR (t := 57) kX11_tries rfl rfl ?_
                    refine fz_iload kX11_tries rfl rfl ?_
                    refine fz_ialdV (n := 12) (v := h 57 (x397.toNat)) kX11_tries rfl rfl (by omega) (by omega) (hf401 57 _ rfl) ?_
                    have b412 : 0 ≤ h 57 (x397.toNat) ∧ h 57 (x397.toNat) ≤ 24 := hI.1 57 _
                    refine fz_iadd kX11_tries rfl ?_
                    refine fz_nmw (fun z413 e414 => ?_)
                    refine fz_istore (ls' := [(8, fz_i z413), (7, fz_i (h 55 (x397.toNat))), (6, fz_i x397), (0, fz_r 53), (1, fz_i pe), (2, fz_i t), (3, fz_i hr), (4, fz_i 0), (5, fz_i su)]) kX11_tries rfl (by decide) rfl ?_
                    refine fz_iload kX11_tries rfl rfl ?_
                    refine fz_sipush ⟨by decide, by decide⟩ kX11_tries rfl ?_
                    refine fz_icmp_gt (tgt := 211) kX11_tries rfl (by decide) (fun c415 => ?_) (fun c415 => ?_)
                    · refine fz_iincN (ls' := [(6, fz_i (x397 + 1)), (8, fz_i z413), (7, fz_i (h 55 (x397.toNat))), (0, fz_r 53), (1, fz_i pe), (2, fz_i t), (3, fz_i hr), (4, fz_i 0), (5, fz_i su)]) kX11_tries rfl (by decide) rfl (by omega) rfl ?_
                      refine fz_goto (tgt := 79) kX11_tries rfl (by decide) ?_
                      refine fz_sub (fz_pk_sub (ls' := [(6, fz_i (x397 + 1)), (0, fz_r 53), (1, fz_i pe), (2, fz_i t), (3, fz_i hr), (4, fz_i 0), (5, fz_i su)]) [0, 3, 4, 5, 6, 7, 8] rfl) ?_
                      exact ih404 (x397 + 1) H399 hI400 hf401 hXw398 (by omega) (by omega)
                    · refine fz_aload_n kX11_tries rfl rfl ?_
                      refine fz_iload_n kX11_tries rfl rfl ?_
                      refine fz_iload kX11_tries rfl rfl ?_
                      refine fz_iload kX11_tries rfl rfl ?_
                      refine fz_callV (d' := 4) (M' := mX11_isArrested) (As := [fz_i pe, fz_i (h 55 (x397.toNat)), fz_i z413]) (st := []) kX11_tries rfl rfl vX11_isArrested rfl rfl rfl rfl (Nat.le_of_ble_eq_true rfl) (Nat.le_of_ble_eq_true rfl) (by decide) (sX11_isArrested H399 hI400 pe (h 55 (x397.toNat)) z413 hXw398 (by omega)) (fun H416 r417 q418 o419 => ?_)
                      obtain ⟨hI420, hf421, hXw422, y423, rfl, p424⟩ := q418
                      clear o419
                      have hf425 := fz_fr_tr hf401 hf421 (show fz_su [(74, 99999), (75, 99999)] [(53, 54), (53, 55), (74, 99999), (75, 99999), (89, 99999), (90, 99999)] = true from rfl)
                      refine fz_if_eq (tgt := 177) kX11_tries rfl (by decide) (fun c426 => ?_) (fun c426 => ?_)
                      · refine fz_aload_n kX11_tries rfl rfl ?_
                        refine fz_getR (t := 90) kX11_tries rfl rfl ?_
                        refine fz_iload kX11_tries rfl rfl ?_
                        refine fz_iload kX11_tries rfl rfl ?_
                        refine fz_iast (n := 4) kX11_tries rfl rfl (by omega) (by omega) ?_
                        refine fz_nmu (S := [(53, 54), (53, 55), (74, 99999), (75, 99999), (89, 99999), (90, 99999)]) (h0 := h) (fz_Iv_up hI420 (by decide) (show (0 : Int) ≤ (h 55 (x397.toNat)) by omega) (show ((h 55 (x397.toNat)) : Int) ≤ 7 by omega)) (fz_fr_up hf425 rfl) (fun H427 hI428 hf429 e430 => ?_)
                        have hXw431 : fz_Xw H427 := fz_Xw_eq (by rw [e430]; exact fz_up_o (by decide)) (by rw [e430]; exact fz_up_ne (by decide)) (by rw [e430]; exact fz_up_ne (by decide)) (by rw [e430]; exact fz_up_ne (by decide)) (by rw [e430]; exact fz_up_ne (by decide)) hXw422
                        clear e430
                        refine fz_aload_n kX11_tries rfl rfl ?_
                        refine fz_iload_n kX11_tries rfl rfl ?_
                        refine fz_iload kX11_tries rfl rfl ?_
                        refine fz_iload kX11_tries rfl rfl ?_
                        refine fz_iload kX11_tries rfl rfl ?_
                        refine fz_iconst ⟨by decide, by decide⟩ kX11_tries rfl ?_
                        refine fz_iaddN kX11_tries rfl ⟨by decide, by decide⟩ ?_
                        refine fz_eqi (y := 1) rfl ?_
                        refine fz_iload kX11_tries rfl rfl ?_
                        refine fz_aload_n kX11_tries rfl rfl ?_
                        refine fz_iload_n kX11_tries rfl rfl ?_
                        refine fz_iload kX11_tries rfl rfl ?_
                        refine fz_iload kX11_tries rfl rfl ?_
                        refine fz_callV (d' := 4) (M' := mX11_receivedIn) (As := [fz_i pe, fz_i (h 55 (x397.toNat)), fz_i z413]) (st := [fz_i su, fz_i 1, fz_i z413, fz_i (h 55 (x397.toNat)), fz_i pe, fz_r 53]) kX11_tries rfl rfl vX11_receivedIn rfl rfl rfl rfl (Nat.le_of_ble_eq_true rfl) (Nat.le_of_ble_eq_true rfl) (by decide) (sX11_receivedIn H427 hI428 pe (h 55 (x397.toNat)) z413 hXw431 (by omega)) (fun H432 r433 q434 o435 => ?_)
                        obtain ⟨hI436, hf437, hXw438, y440, rfl, f439⟩ := q434
                        clear o435
                        have hf441 := fz_fr_tr hf429 hf437 (show fz_su [(74, 99999), (75, 99999)] [(53, 54), (53, 55), (74, 99999), (75, 99999), (89, 99999), (90, 99999)] = true from rfl)
                        refine fz_iadd kX11_tries rfl ?_
                        refine fz_nmw (fun z442 e443 => ?_)
                        refine fz_callV (d' := 7) (M' := mX11_tries) (As := [fz_i pe, fz_i (h 55 (x397.toNat)), fz_i z413, fz_i 1, fz_i z442]) (st := []) kX11_tries rfl rfl vX11_tries rfl rfl rfl rfl (Nat.le_of_ble_eq_true rfl) (Nat.le_of_ble_eq_true rfl) (by decide) (sX11_tries_1 H432 hI436 pe (h 55 (x397.toNat)) z413 z442 hXw438 (by omega)) (fun H444 r445 q446 o447 => ?_)
                        obtain ⟨hI448, hf449, hXw450, rfl⟩ := q446
                        clear o447
                        have hf451 := fz_fr_tr hf441 hf449 (show fz_su [(53, 54), (53, 55), (74, 99999), (75, 99999), (89, 99999), (90, 99999)] [(53, 54), (53, 55), (74, 99999), (75, 99999), (89, 99999), (90, 99999)] = true from rfl)
                        refine fz_iincN (ls' := [(6, fz_i (x397 + 1)), (8, fz_i z413), (7, fz_i (h 55 (x397.toNat))), (0, fz_r 53), (1, fz_i pe), (2, fz_i t), (3, fz_i hr), (4, fz_i 0), (5, fz_i su)]) kX11_tries rfl (by decide) rfl (by omega) rfl ?_
                        refine fz_goto (tgt := 79) kX11_tries rfl (by decide) ?_
                        refine fz_sub (fz_pk_sub (ls' := [(6, fz_i (x397 + 1)), (0, fz_r 53), (1, fz_i pe), (2, fz_i t), (3, fz_i hr), (4, fz_i 0), (5, fz_i su)]) [0, 3, 4, 5, 6, 7, 8] rfl) ?_
                        exact ih404 (x397 + 1) H444 hI448 hf451 hXw450 (by omega) (by omega)
                      · refine fz_goto (tgt := 211) kX11_tries rfl (by decide) ?_
                        refine fz_iincN (ls' := [(6, fz_i (x397 + 1)), (8, fz_i z413), (7, fz_i (h 55 (x397.toNat))), (0, fz_r 53), (1, fz_i pe), (2, fz_i t), (3, fz_i hr), (4, fz_i 0), (5, fz_i su)]) kX11_tries rfl (by decide) rfl (by omega) rfl ?_
                        refine fz_goto (tgt := 79) kX11_tries rfl (by decide) ?_
                        refine fz_sub (fz_pk_sub (ls' := [(6, fz_i (x397 + 1)), (0, fz_r 53), (1, fz_i pe), (2, fz_i t), (3, fz_i hr), (4, fz_i 0), (5, fz_i su)]) [0, 3, 4, 5, 6, 7, 8] rfl) ?_
                        exact ih404 (x397 + 1) H416 hI420 hf425 hXw422 (by omega) (by omega)
                  · refine fz_aload_n kX11_tries rfl rfl ?_
                    refine fz_getR (t := 56) kX11_tries rfl rfl ?_
                    refine fz_iload kX11_tries rfl rfl ?_
                    refine fz_ialdV (n := 12) (v := h 56 (x397.toNat)) kX11_tries rfl rfl (by omega) (by omega) (hf401 56 _ rfl) ?_
                    have b452 : 0 ≤ h 56 (x397.toNat) ∧ h 56 (x397.toNat) ≤ 7 := hI.1 56 _
                    refine fz_goto (tgt := 141) kX11_tries rfl (by decide) ?_
                    refine fz_istore (ls' := [(7, fz_i (h 56 (x397.toNat))), (6, fz_i x397), (0, fz_r 53), (1, fz_i pe), (2, fz_i t), (3, fz_i hr), (4, fz_i 0), (5, fz_i su)]) kX11_tries rfl (by decide) rfl ?_
                    refine fz_iload_n kX11_tries rfl rfl ?_
                    refine fz_aload_n kX11_tries rfl rfl ?_
                    refine fz_getR (t := 57) kX11_tries rfl rfl ?_
                    refine fz_iload kX11_tries rfl rfl ?_
                    refine fz_ialdV (n := 12) (v := h 57 (x397.toNat)) kX11_tries rfl rfl (by omega) (by omega) (hf401 57 _ rfl) ?_
                    have b453 : 0 ≤ h 57 (x397.toNat) ∧ h 57 (x397.toNat) ≤ 24 := hI.1 57 _
                    refine fz_iadd kX11_tries rfl ?_
                    refine fz_nmw (fun z454 e455 => ?_)
                    refine fz_istore (ls' := [(8, fz_i z454), (7, fz_i (h 56 (x397.toNat))), (6, fz_i x397), (0, fz_r 53), (1, fz_i pe), (2, fz_i t), (3, fz_i hr), (4, fz_i 0), (5, fz_i su)]) kX11_tries rfl (by decide) rfl ?_
                    refine fz_iload kX11_tries rfl rfl ?_
                    refine fz_sipush ⟨by decide, by decide⟩ kX11_tries rfl ?_
                    refine fz_icmp_gt (tgt := 211) kX11_tries rfl (by decide) (fun c456 => ?_) (fun c456 => ?_)
                    · refine fz_iincN (ls' := [(6, fz_i (x397 + 1)), (8, fz_i z454), (7, fz_i (h 56 (x397.toNat))), (0, fz_r 53), (1, fz_i pe), (2, fz_i t), (3, fz_i hr), (4, fz_i 0), (5, fz_i su)]) kX11_tries rfl (by decide) rfl (by omega) rfl ?_
                      refine fz_goto (tgt := 79) kX11_tries rfl (by decide) ?_
                      refine fz_sub (fz_pk_sub (ls' := [(6, fz_i (x397 + 1)), (0, fz_r 53), (1, fz_i pe), (2, fz_i t), (3, fz_i hr), (4, fz_i 0), (5, fz_i su)]) [0, 3, 4, 5, 6, 7, 8] rfl) ?_
                      exact ih404 (x397 + 1) H399 hI400 hf401 hXw398 (by omega) (by omega)
                    · refine fz_aload_n kX11_tries rfl rfl ?_
                      refine fz_iload_n kX11_tries rfl rfl ?_
                      refine fz_iload kX11_tries rfl rfl ?_
                      refine fz_iload kX11_tries rfl rfl ?_
                      refine fz_callV (d' := 4) (M' := mX11_isArrested) (As := [fz_i pe, fz_i (h 56 (x397.toNat)), fz_i z454]) (st := []) kX11_tries rfl rfl vX11_isArrested rfl rfl rfl rfl (Nat.le_of_ble_eq_true rfl) (Nat.le_of_ble_eq_true rfl) (by decide) (sX11_isArrested H399 hI400 pe (h 56 (x397.toNat)) z454 hXw398 (by omega)) (fun H457 r458 q459 o460 => ?_)
                      obtain ⟨hI461, hf462, hXw463, y464, rfl, p465⟩ := q459
                      clear o460
                      have hf466 := fz_fr_tr hf401 hf462 (show fz_su [(74, 99999), (75, 99999)] [(53, 54), (53, 55), (74, 99999), (75, 99999), (89, 99999), (90, 99999)] = true from rfl)
                      refine fz_if_eq (tgt := 177) kX11_tries rfl (by decide) (fun c467 => ?_) (fun c467 => ?_)
                      · refine fz_aload_n kX11_tries rfl rfl ?_
                        refine fz_getR (t := 90) kX11_tries rfl rfl ?_
                        refine fz_iload kX11_tries rfl rfl ?_
                        refine fz_iload kX11_tries rfl rfl ?_
                        refine fz_iast (n := 4) kX11_tries rfl rfl (by omega) (by omega) ?_
                        refine fz_nmu (S := [(53, 54), (53, 55), (74, 99999), (75, 99999), (89, 99999), (90, 99999)]) (h0 := h) (fz_Iv_up hI461 (by decide) (show (0 : Int) ≤ (h 56 (x397.toNat)) by omega) (show ((h 56 (x397.toNat)) : Int) ≤ 7 by omega)) (fz_fr_up hf466 rfl) (fun H468 hI469 hf470 e471 => ?_)
                        have hXw472 : fz_Xw H468 := fz_Xw_eq (by rw [e471]; exact fz_up_o (by decide)) (by rw [e471]; exact fz_up_ne (by decide)) (by rw [e471]; exact fz_up_ne (by decide)) (by rw [e471]; exact fz_up_ne (by decide)) (by rw [e471]; exact fz_up_ne (by decide)) hXw463
                        clear e471
                        refine fz_aload_n kX11_tries rfl rfl ?_
                        refine fz_iload_n kX11_tries rfl rfl ?_
                        refine fz_iload kX11_tries rfl rfl ?_
                        refine fz_iload kX11_tries rfl rfl ?_
                        refine fz_iload kX11_tries rfl rfl ?_
                        refine fz_iconst ⟨by decide, by decide⟩ kX11_tries rfl ?_
                        refine fz_iaddN kX11_tries rfl ⟨by decide, by decide⟩ ?_
                        refine fz_eqi (y := 1) rfl ?_
                        refine fz_iload kX11_tries rfl rfl ?_
                        refine fz_aload_n kX11_tries rfl rfl ?_
                        refine fz_iload_n kX11_tries rfl rfl ?_
                        refine fz_iload kX11_tries rfl rfl ?_
                        refine fz_iload kX11_tries rfl rfl ?_
                        refine fz_callV (d' := 4) (M' := mX11_receivedIn) (As := [fz_i pe, fz_i (h 56 (x397.toNat)), fz_i z454]) (st := [fz_i su, fz_i 1, fz_i z454, fz_i (h 56 (x397.toNat)), fz_i pe, fz_r 53]) kX11_tries rfl rfl vX11_receivedIn rfl rfl rfl rfl (Nat.le_of_ble_eq_true rfl) (Nat.le_of_ble_eq_true rfl) (by decide) (sX11_receivedIn H468 hI469 pe (h 56 (x397.toNat)) z454 hXw472 (by omega)) (fun H473 r474 q475 o476 => ?_)
                        obtain ⟨hI477, hf478, hXw479, y481, rfl, f480⟩ := q475
                        clear o476
                        have hf482 := fz_fr_tr hf470 hf478 (show fz_su [(74, 99999), (75, 99999)] [(53, 54), (53, 55), (74, 99999), (75, 99999), (89, 99999), (90, 99999)] = true from rfl)
                        refine fz_iadd kX11_tries rfl ?_
                        refine fz_nmw (fun z483 e484 => ?_)
                        refine fz_callV (d' := 7) (M' := mX11_tries) (As := [fz_i pe, fz_i (h 56 (x397.toNat)), fz_i z454, fz_i 1, fz_i z483]) (st := []) kX11_tries rfl rfl vX11_tries rfl rfl rfl rfl (Nat.le_of_ble_eq_true rfl) (Nat.le_of_ble_eq_true rfl) (by decide) (sX11_tries_1 H473 hI477 pe (h 56 (x397.toNat)) z454 z483 hXw479 (by omega)) (fun H485 r486 q487 o488 => ?_)
                        obtain ⟨hI489, hf490, hXw491, rfl⟩ := q487
                        clear o488
                        have hf492 := fz_fr_tr hf482 hf490 (show fz_su [(53, 54), (53, 55), (74, 99999), (75, 99999), (89, 99999), (90, 99999)] [(53, 54), (53, 55), (74, 99999), (75, 99999), (89, 99999), (90, 99999)] = true from rfl)
                        refine fz_iincN (ls' := [(6, fz_i (x397 + 1)), (8, fz_i z454), (7, fz_i (h 56 (x397.toNat))), (0, fz_r 53), (1, fz_i pe), (2, fz_i t), (3, fz_i hr), (4, fz_i 0), (5, fz_i su)]) kX11_tries rfl (by decide) rfl (by omega) rfl ?_
                        refine fz_goto (tgt := 79) kX11_tries rfl (by decide) ?_
                        refine fz_sub (fz_pk_sub (ls' := [(6, fz_i (x397 + 1)), (0, fz_r 53), (1, fz_i pe), (2, fz_i t), (3, fz_i hr), (4, fz_i 0), (5, fz_i su)]) [0, 3, 4, 5, 6, 7, 8] rfl) ?_
                        exact ih404 (x397 + 1) H485 hI489 hf492 hXw491 (by omega) (by omega)
                      · refine fz_goto (tgt := 211) kX11_tries rfl (by decide) ?_
                        refine fz_iincN (ls' := [(6, fz_i (x397 + 1)), (8, fz_i z454), (7, fz_i (h 56 (x397.toNat))), (0, fz_r 53), (1, fz_i pe), (2, fz_i t), (3, fz_i hr), (4, fz_i 0), (5, fz_i su)]) kX11_tries rfl (by decide) rfl (by omega) rfl ?_
                        refine fz_goto (tgt := 79) kX11_tries rfl (by decide) ?_
                        refine fz_sub (fz_pk_sub (ls' := [(6, fz_i (x397 + 1)), (0, fz_r 53), (1, fz_i pe), (2, fz_i t), (3, fz_i hr), (4, fz_i 0), (5, fz_i su)]) [0, 3, 4, 5, 6, 7, 8] rfl) ?_
                        exact ih404 (x397 + 1) H457 hI461 hf466 hXw463 (by omega) (by omega)
                · refine fz_aload_n kX11_tries rfl rfl ?_
                  refine fz_getR (t := 56) kX11_tries rfl rfl ?_
                  refine fz_iload kX11_tries rfl rfl ?_
                  refine fz_ialdV (n := 12) (v := h 56 (x397.toNat)) kX11_tries rfl rfl (by omega) (by omega) (hf401 56 _ rfl) ?_
                  have b493 : 0 ≤ h 56 (x397.toNat) ∧ h 56 (x397.toNat) ≤ 7 := hI.1 56 _
                  refine fz_iload_n kX11_tries rfl rfl ?_
                  refine fz_icmp_eq (tgt := 113) kX11_tries rfl (by decide) (fun c494 => ?_) (fun c494 => ?_)
                  · refine fz_aload_n kX11_tries rfl rfl ?_
                    refine fz_getR (t := 55) kX11_tries rfl rfl ?_
                    refine fz_iload kX11_tries rfl rfl ?_
                    refine fz_ialdV (n := 12) (v := h 55 (x397.toNat)) kX11_tries rfl rfl (by omega) (by omega) (hf401 55 _ rfl) ?_
                    refine fz_iload_n kX11_tries rfl rfl ?_
                    refine fz_icmp_ne (tgt := 134) kX11_tries rfl (by decide) (fun c495 => ?_) (fun c495 => ?_)
                    · refine fz_aload_n kX11_tries rfl rfl ?_
                      refine fz_getR (t := 55) kX11_tries rfl rfl ?_
                      refine fz_iload kX11_tries rfl rfl ?_
                      refine fz_ialdV (n := 12) (v := h 55 (x397.toNat)) kX11_tries rfl rfl (by omega) (by omega) (hf401 55 _ rfl) ?_
                      refine fz_istore (ls' := [(7, fz_i (h 55 (x397.toNat))), (6, fz_i x397), (0, fz_r 53), (1, fz_i pe), (2, fz_i t), (3, fz_i hr), (4, fz_i 0), (5, fz_i su)]) kX11_tries rfl (by decide) rfl ?_
                      refine fz_iload_n kX11_tries rfl rfl ?_
                      refine fz_aload_n kX11_tries rfl rfl ?_
                      refine fz_getR (t := 57) kX11_tries rfl rfl ?_
                      refine fz_iload kX11_tries rfl rfl ?_
                      refine fz_ialdV (n := 12) (v := h 57 (x397.toNat)) kX11_tries rfl rfl (by omega) (by omega) (hf401 57 _ rfl) ?_
                      have b496 : 0 ≤ h 57 (x397.toNat) ∧ h 57 (x397.toNat) ≤ 24 := hI.1 57 _
                      refine fz_iadd kX11_tries rfl ?_
                      refine fz_nmw (fun z497 e498 => ?_)
                      refine fz_istore (ls' := [(8, fz_i z497), (7, fz_i (h 55 (x397.toNat))), (6, fz_i x397), (0, fz_r 53), (1, fz_i pe), (2, fz_i t), (3, fz_i hr), (4, fz_i 0), (5, fz_i su)]) kX11_tries rfl (by decide) rfl ?_
                      refine fz_iload kX11_tries rfl rfl ?_
                      refine fz_sipush ⟨by decide, by decide⟩ kX11_tries rfl ?_
                      refine fz_icmp_gt (tgt := 211) kX11_tries rfl (by decide) (fun c499 => ?_) (fun c499 => ?_)
                      · refine fz_iincN (ls' := [(6, fz_i (x397 + 1)), (8, fz_i z497), (7, fz_i (h 55 (x397.toNat))), (0, fz_r 53), (1, fz_i pe), (2, fz_i t), (3, fz_i hr), (4, fz_i 0), (5, fz_i su)]) kX11_tries rfl (by decide) rfl (by omega) rfl ?_
                        refine fz_goto (tgt := 79) kX11_tries rfl (by decide) ?_
                        refine fz_sub (fz_pk_sub (ls' := [(6, fz_i (x397 + 1)), (0, fz_r 53), (1, fz_i pe), (2, fz_i t), (3, fz_i hr), (4, fz_i 0), (5, fz_i su)]) [0, 3, 4, 5, 6, 7, 8] rfl) ?_
                        exact ih404 (x397 + 1) H399 hI400 hf401 hXw398 (by omega) (by omega)
                      · refine fz_aload_n kX11_tries rfl rfl ?_
                        refine fz_iload_n kX11_tries rfl rfl ?_
                        refine fz_iload kX11_tries rfl rfl ?_
                        refine fz_iload kX11_tries rfl rfl ?_
                        refine fz_callV (d' := 4) (M' := mX11_isArrested) (As := [fz_i pe, fz_i (h 55 (x397.toNat)), fz_i z497]) (st := []) kX11_tries rfl rfl vX11_isArrested rfl rfl rfl rfl (Nat.le_of_ble_eq_true rfl) (Nat.le_of_ble_eq_true rfl) (by decide) (sX11_isArrested H399 hI400 pe (h 55 (x397.toNat)) z497 hXw398 (by omega)) (fun H500 r501 q502 o503 => ?_)
                        obtain ⟨hI504, hf505, hXw506, y507, rfl, p508⟩ := q502
                        clear o503
                        have hf509 := fz_fr_tr hf401 hf505 (show fz_su [(74, 99999), (75, 99999)] [(53, 54), (53, 55), (74, 99999), (75, 99999), (89, 99999), (90, 99999)] = true from rfl)
                        refine fz_if_eq (tgt := 177) kX11_tries rfl (by decide) (fun c510 => ?_) (fun c510 => ?_)
                        · refine fz_aload_n kX11_tries rfl rfl ?_
                          refine fz_getR (t := 90) kX11_tries rfl rfl ?_
                          refine fz_iload kX11_tries rfl rfl ?_
                          refine fz_iload kX11_tries rfl rfl ?_
                          refine fz_iast (n := 4) kX11_tries rfl rfl (by omega) (by omega) ?_
                          refine fz_nmu (S := [(53, 54), (53, 55), (74, 99999), (75, 99999), (89, 99999), (90, 99999)]) (h0 := h) (fz_Iv_up hI504 (by decide) (show (0 : Int) ≤ (h 55 (x397.toNat)) by omega) (show ((h 55 (x397.toNat)) : Int) ≤ 7 by omega)) (fz_fr_up hf509 rfl) (fun H511 hI512 hf513 e514 => ?_)
                          have hXw515 : fz_Xw H511 := fz_Xw_eq (by rw [e514]; exact fz_up_o (by decide)) (by rw [e514]; exact fz_up_ne (by decide)) (by rw [e514]; exact fz_up_ne (by decide)) (by rw [e514]; exact fz_up_ne (by decide)) (by rw [e514]; exact fz_up_ne (by decide)) hXw506
                          clear e514
                          refine fz_aload_n kX11_tries rfl rfl ?_
                          refine fz_iload_n kX11_tries rfl rfl ?_
                          refine fz_iload kX11_tries rfl rfl ?_
                          refine fz_iload kX11_tries rfl rfl ?_
                          refine fz_iload kX11_tries rfl rfl ?_
                          refine fz_iconst ⟨by decide, by decide⟩ kX11_tries rfl ?_
                          refine fz_iaddN kX11_tries rfl ⟨by decide, by decide⟩ ?_
                          refine fz_eqi (y := 1) rfl ?_
                          refine fz_iload kX11_tries rfl rfl ?_
                          refine fz_aload_n kX11_tries rfl rfl ?_
                          refine fz_iload_n kX11_tries rfl rfl ?_
                          refine fz_iload kX11_tries rfl rfl ?_
                          refine fz_iload kX11_tries rfl rfl ?_
                          refine fz_callV (d' := 4) (M' := mX11_receivedIn) (As := [fz_i pe, fz_i (h 55 (x397.toNat)), fz_i z497]) (st := [fz_i su, fz_i 1, fz_i z497, fz_i (h 55 (x397.toNat)), fz_i pe, fz_r 53]) kX11_tries rfl rfl vX11_receivedIn rfl rfl rfl rfl (Nat.le_of_ble_eq_true rfl) (Nat.le_of_ble_eq_true rfl) (by decide) (sX11_receivedIn H511 hI512 pe (h 55 (x397.toNat)) z497 hXw515 (by omega)) (fun H516 r517 q518 o519 => ?_)
                          obtain ⟨hI520, hf521, hXw522, y524, rfl, f523⟩ := q518
                          clear o519
                          have hf525 := fz_fr_tr hf513 hf521 (show fz_su [(74, 99999), (75, 99999)] [(53, 54), (53, 55), (74, 99999), (75, 99999), (89, 99999), (90, 99999)] = true from rfl)
                          refine fz_iadd kX11_tries rfl ?_
                          refine fz_nmw (fun z526 e527 => ?_)
                          refine fz_callV (d' := 7) (M' := mX11_tries) (As := [fz_i pe, fz_i (h 55 (x397.toNat)), fz_i z497, fz_i 1, fz_i z526]) (st := []) kX11_tries rfl rfl vX11_tries rfl rfl rfl rfl (Nat.le_of_ble_eq_true rfl) (Nat.le_of_ble_eq_true rfl) (by decide) (sX11_tries_1 H516 hI520 pe (h 55 (x397.toNat)) z497 z526 hXw522 (by omega)) (fun H528 r529 q530 o531 => ?_)
                          obtain ⟨hI532, hf533, hXw534, rfl⟩ := q530
                          clear o531
                          have hf535 := fz_fr_tr hf525 hf533 (show fz_su [(53, 54), (53, 55), (74, 99999), (75, 99999), (89, 99999), (90, 99999)] [(53, 54), (53, 55), (74, 99999), (75, 99999), (89, 99999), (90, 99999)] = true from rfl)
                          refine fz_iincN (ls' := [(6, fz_i (x397 + 1)), (8, fz_i z497), (7, fz_i (h 55 (x397.toNat))), (0, fz_r 53), (1, fz_i pe), (2, fz_i t), (3, fz_i hr), (4, fz_i 0), (5, fz_i su)]) kX11_tries rfl (by decide) rfl (by omega) rfl ?_
                          refine fz_goto (tgt := 79) kX11_tries rfl (by decide) ?_
                          refine fz_sub (fz_pk_sub (ls' := [(6, fz_i (x397 + 1)), (0, fz_r 53), (1, fz_i pe), (2, fz_i t), (3, fz_i hr), (4, fz_i 0), (5, fz_i su)]) [0, 3, 4, 5, 6, 7, 8] rfl) ?_
                          exact ih404 (x397 + 1) H528 hI532 hf535 hXw534 (by omega) (by omega)
                        · refine fz_goto (tgt := 211) kX11_tries rfl (by decide) ?_
                          refine fz_iincN (ls' := [(6, fz_i (x397 + 1)), (8, fz_i z497), (7, fz_i (h 55 (x397.toNat))), (0, fz_r 53), (1, fz_i pe), (2, fz_i t), (3, fz_i hr), (4, fz_i 0), (5, fz_i su)]) kX11_tries rfl (by decide) rfl (by omega) rfl ?_
                          refine fz_goto (tgt := 79) kX11_tries rfl (by decide) ?_
                          refine fz_sub (fz_pk_sub (ls' := [(6, fz_i (x397 + 1)), (0, fz_r 53), (1, fz_i pe), (2, fz_i t), (3, fz_i hr), (4, fz_i 0), (5, fz_i su)]) [0, 3, 4, 5, 6, 7, 8] rfl) ?_
                          exact ih404 (x397 + 1) H500 hI504 hf509 hXw506 (by omega) (by omega)
                    · refine fz_aload_n kX11_tries rfl rfl ?_
                      refine fz_getR (t := 56) kX11_tries rfl rfl ?_
                      refine fz_iload kX11_tries rfl rfl ?_
                      refine fz_ialdV (n := 12) (v := h 56 (x397.toNat)) kX11_tries rfl rfl (by omega) (by omega) (hf401 56 _ rfl) ?_
                      refine fz_goto (tgt := 141) kX11_tries rfl (by decide) ?_
                      refine fz_istore (ls' := [(7, fz_i (h 56 (x397.toNat))), (6, fz_i x397), (0, fz_r 53), (1, fz_i pe), (2, fz_i t), (3, fz_i hr), (4, fz_i 0), (5, fz_i su)]) kX11_tries rfl (by decide) rfl ?_
                      refine fz_iload_n kX11_tries rfl rfl ?_
                      refine fz_aload_n kX11_tries rfl rfl ?_
                      refine fz_getR (t := 57) kX11_tries rfl rfl ?_
                      refine fz_iload kX11_tries rfl rfl ?_
                      refine fz_ialdV (n := 12) (v := h 57 (x397.toNat)) kX11_tries rfl rfl (by omega) (by omega) (hf401 57 _ rfl) ?_
                      have b536 : 0 ≤ h 57 (x397.toNat) ∧ h 57 (x397.toNat) ≤ 24 := hI.1 57 _
                      refine fz_iadd kX11_tries rfl ?_
                      refine fz_nmw (fun z537 e538 => ?_)
                      refine fz_istore (ls' := [(8, fz_i z537), (7, fz_i (h 56 (x397.toNat))), (6, fz_i x397), (0, fz_r 53), (1, fz_i pe), (2, fz_i t), (3, fz_i hr), (4, fz_i 0), (5, fz_i su)]) kX11_tries rfl (by decide) rfl ?_
                      refine fz_iload kX11_tries rfl rfl ?_
                      refine fz_sipush ⟨by decide, by decide⟩ kX11_tries rfl ?_
                      refine fz_icmp_gt (tgt := 211) kX11_tries rfl (by decide) (fun c539 => ?_) (fun c539 => ?_)
                      · refine fz_iincN (ls' := [(6, fz_i (x397 + 1)), (8, fz_i z537), (7, fz_i (h 56 (x397.toNat))), (0, fz_r 53), (1, fz_i pe), (2, fz_i t), (3, fz_i hr), (4, fz_i 0), (5, fz_i su)]) kX11_tries rfl (by decide) rfl (by omega) rfl ?_
                        refine fz_goto (tgt := 79) kX11_tries rfl (by decide) ?_
                        refine fz_sub (fz_pk_sub (ls' := [(6, fz_i (x397 + 1)), (0, fz_r 53), (1, fz_i pe), (2, fz_i t), (3, fz_i hr), (4, fz_i 0), (5, fz_i su)]) [0, 3, 4, 5, 6, 7, 8] rfl) ?_
                        exact ih404 (x397 + 1) H399 hI400 hf401 hXw398 (by omega) (by omega)
                      · refine fz_aload_n kX11_tries rfl rfl ?_
                        refine fz_iload_n kX11_tries rfl rfl ?_
                        refine fz_iload kX11_tries rfl rfl ?_
                        refine fz_iload kX11_tries rfl rfl ?_
                        refine fz_callV (d' := 4) (M' := mX11_isArrested) (As := [fz_i pe, fz_i (h 56 (x397.toNat)), fz_i z537]) (st := []) kX11_tries rfl rfl vX11_isArrested rfl rfl rfl rfl (Nat.le_of_ble_eq_true rfl) (Nat.le_of_ble_eq_true rfl) (by decide) (sX11_isArrested H399 hI400 pe (h 56 (x397.toNat)) z537 hXw398 (by omega)) (fun H540 r541 q542 o543 => ?_)
                        obtain ⟨hI544, hf545, hXw546, y547, rfl, p548⟩ := q542
                        clear o543
                        have hf549 := fz_fr_tr hf401 hf545 (show fz_su [(74, 99999), (75, 99999)] [(53, 54), (53, 55), (74, 99999), (75, 99999), (89, 99999), (90, 99999)] = true from rfl)
                        refine fz_if_eq (tgt := 177) kX11_tries rfl (by decide) (fun c550 => ?_) (fun c550 => ?_)
                        · refine fz_aload_n kX11_tries rfl rfl ?_
                          refine fz_getR (t := 90) kX11_tries rfl rfl ?_
                          refine fz_iload kX11_tries rfl rfl ?_
                          refine fz_iload kX11_tries rfl rfl ?_
                          refine fz_iast (n := 4) kX11_tries rfl rfl (by omega) (by omega) ?_
                          refine fz_nmu (S := [(53, 54), (53, 55), (74, 99999), (75, 99999), (89, 99999), (90, 99999)]) (h0 := h) (fz_Iv_up hI544 (by decide) (show (0 : Int) ≤ (h 56 (x397.toNat)) by omega) (show ((h 56 (x397.toNat)) : Int) ≤ 7 by omega)) (fz_fr_up hf549 rfl) (fun H551 hI552 hf553 e554 => ?_)
                          have hXw555 : fz_Xw H551 := fz_Xw_eq (by rw [e554]; exact fz_up_o (by decide)) (by rw [e554]; exact fz_up_ne (by decide)) (by rw [e554]; exact fz_up_ne (by decide)) (by rw [e554]; exact fz_up_ne (by decide)) (by rw [e554]; exact fz_up_ne (by decide)) hXw546
                          clear e554
                          refine fz_aload_n kX11_tries rfl rfl ?_
                          refine fz_iload_n kX11_tries rfl rfl ?_
                          refine fz_iload kX11_tries rfl rfl ?_
                          refine fz_iload kX11_tries rfl rfl ?_
                          refine fz_iload kX11_tries rfl rfl ?_
                          refine fz_iconst ⟨by decide, by decide⟩ kX11_tries rfl ?_
                          refine fz_iaddN kX11_tries rfl ⟨by decide, by decide⟩ ?_
                          refine fz_eqi (y := 1) rfl ?_
                          refine fz_iload kX11_tries rfl rfl ?_
                          refine fz_aload_n kX11_tries rfl rfl ?_
                          refine fz_iload_n kX11_tries rfl rfl ?_
                          refine fz_iload kX11_tries rfl rfl ?_
                          refine fz_iload kX11_tries rfl rfl ?_
                          refine fz_callV (d' := 4) (M' := mX11_receivedIn) (As := [fz_i pe, fz_i (h 56 (x397.toNat)), fz_i z537]) (st := [fz_i su, fz_i 1, fz_i z537, fz_i (h 56 (x397.toNat)), fz_i pe, fz_r 53]) kX11_tries rfl rfl vX11_receivedIn rfl rfl rfl rfl (Nat.le_of_ble_eq_true rfl) (Nat.le_of_ble_eq_true rfl) (by decide) (sX11_receivedIn H551 hI552 pe (h 56 (x397.toNat)) z537 hXw555 (by omega)) (fun H556 r557 q558 o559 => ?_)
                          obtain ⟨hI560, hf561, hXw562, y564, rfl, f563⟩ := q558
                          clear o559
                          have hf565 := fz_fr_tr hf553 hf561 (show fz_su [(74, 99999), (75, 99999)] [(53, 54), (53, 55), (74, 99999), (75, 99999), (89, 99999), (90, 99999)] = true from rfl)
                          refine fz_iadd kX11_tries rfl ?_
                          refine fz_nmw (fun z566 e567 => ?_)
                          refine fz_callV (d' := 7) (M' := mX11_tries) (As := [fz_i pe, fz_i (h 56 (x397.toNat)), fz_i z537, fz_i 1, fz_i z566]) (st := []) kX11_tries rfl rfl vX11_tries rfl rfl rfl rfl (Nat.le_of_ble_eq_true rfl) (Nat.le_of_ble_eq_true rfl) (by decide) (sX11_tries_1 H556 hI560 pe (h 56 (x397.toNat)) z537 z566 hXw562 (by omega)) (fun H568 r569 q570 o571 => ?_)
                          obtain ⟨hI572, hf573, hXw574, rfl⟩ := q570
                          clear o571
                          have hf575 := fz_fr_tr hf565 hf573 (show fz_su [(53, 54), (53, 55), (74, 99999), (75, 99999), (89, 99999), (90, 99999)] [(53, 54), (53, 55), (74, 99999), (75, 99999), (89, 99999), (90, 99999)] = true from rfl)
                          refine fz_iincN (ls' := [(6, fz_i (x397 + 1)), (8, fz_i z537), (7, fz_i (h 56 (x397.toNat))), (0, fz_r 53), (1, fz_i pe), (2, fz_i t), (3, fz_i hr), (4, fz_i 0), (5, fz_i su)]) kX11_tries rfl (by decide) rfl (by omega) rfl ?_
                          refine fz_goto (tgt := 79) kX11_tries rfl (by decide) ?_
                          refine fz_sub (fz_pk_sub (ls' := [(6, fz_i (x397 + 1)), (0, fz_r 53), (1, fz_i pe), (2, fz_i t), (3, fz_i hr), (4, fz_i 0), (5, fz_i su)]) [0, 3, 4, 5, 6, 7, 8] rfl) ?_
                          exact ih404 (x397 + 1) H568 hI572 hf575 hXw574 (by omega) (by omega)
                        · refine fz_goto (tgt := 211) kX11_tries rfl (by decide) ?_
                          refine fz_iincN (ls' := [(6, fz_i (x397 + 1)), (8, fz_i z537), (7, fz_i (h 56 (x397.toNat))), (0, fz_r 53), (1, fz_i pe), (2, fz_i t), (3, fz_i hr), (4, fz_i 0), (5, fz_i su)]) kX11_tries rfl (by decide) rfl (by omega) rfl ?_
                          refine fz_goto (tgt := 79) kX11_tries rfl (by decide) ?_
                          refine fz_sub (fz_pk_sub (ls' := [(6, fz_i (x397 + 1)), (0, fz_r 53), (1, fz_i pe), (2, fz_i t), (3, fz_i hr), (4, fz_i 0), (5, fz_i su)]) [0, 3, 4, 5, 6, 7, 8] rfl) ?_
                          exact ih404 (x397 + 1) H540 hI544 hf549 hXw546 (by omega) (by omega)
                  · refine fz_goto (tgt := 211) kX11_tries rfl (by decide) ?_
                    refine fz_iincN (ls' := [(6, fz_i (x397 + 1)), (0, fz_r 53), (1, fz_i pe), (2, fz_i t), (3, fz_i hr), (4, fz_i 0), (5, fz_i su)]) kX11_tries rfl (by decide) rfl (by omega) rfl ?_
                    refine fz_goto (tgt := 79) kX11_tries rfl (by decide) ?_
                    exact ih404 (x397 + 1) H399 hI400 hf401 hXw398 (by omega) (by omega)
          exact lp403 _ 0 h hI hf hXw (by omega) (Nat.lt_succ_self _)
        · exfalso; omega
      · refine fz_aload_n kX11_tries rfl rfl ?_
        refine fz_iload kX11_tries rfl rfl ?_
        refine fz_putI kX11_tries rfl rfl rfl ?_
        refine fz_nmu (S := [(53, 54), (53, 55), (74, 99999), (75, 99999), (89, 99999), (90, 99999)]) (h0 := h) (fz_Iv_up hI (by decide) (show ((-2147483648) : Int) ≤ su by omega) (show (su : Int) ≤ 2147483647 by omega)) (fz_fr_up hf rfl) (fun H576 hI577 hf578 e579 => ?_)
        have k580 : H576 53 54 = su := by rw [e579]; exact fz_up_e
        have hXw581 : fz_Xw H576 := fz_Xw_eq (by rw [e579]; exact fz_up_s (by decide)) (by rw [e579]; exact fz_up_ne (by decide)) (by rw [e579]; exact fz_up_ne (by decide)) (by rw [e579]; exact fz_up_ne (by decide)) (by rw [e579]; exact fz_up_ne (by decide)) hXw
        clear e579
        refine fz_aload_n kX11_tries rfl rfl ?_
        refine fz_iload kX11_tries rfl rfl ?_
        refine fz_putI kX11_tries rfl rfl rfl ?_
        refine fz_nmu (S := [(53, 54), (53, 55), (74, 99999), (75, 99999), (89, 99999), (90, 99999)]) (h0 := h) (fz_Iv_up hI577 (by decide) (show (0 : Int) ≤ 0 by decide) (show (0 : Int) ≤ 4 by decide)) (fz_fr_up hf578 rfl) (fun H582 hI583 hf584 e585 => ?_)
        have k586 : H582 53 54 = su := by rw [e585]; exact (fz_up_s (by decide)).trans k580
        have k587 : H582 53 55 = 0 := by rw [e585]; exact fz_up_e
        have hXw588 : fz_Xw H582 := fz_Xw_eq (by rw [e585]; exact fz_up_s (by decide)) (by rw [e585]; exact fz_up_ne (by decide)) (by rw [e585]; exact fz_up_ne (by decide)) (by rw [e585]; exact fz_up_ne (by decide)) (by rw [e585]; exact fz_up_ne (by decide)) hXw581
        clear e585
        refine fz_iconst ⟨by decide, by decide⟩ kX11_tries rfl ?_
        refine fz_istore (ls' := [(6, fz_i 0), (0, fz_r 53), (1, fz_i pe), (2, fz_i t), (3, fz_i hr), (4, fz_i 0), (5, fz_i su)]) kX11_tries rfl (by decide) rfl ?_
        have lp595 : ∀ (n594 : Nat) (x589 : Int) (H591 : fz_H), fz_Iv H591 → fz_fr [(53, 54), (53, 55), (74, 99999), (75, 99999), (89, 99999), (90, 99999)] h H591 → fz_Xw H591 → (0 ≤ x589 ∧ x589 ≤ 2147483647) → (0 - x589).toNat < n594 → fz_R 8 mX11_tries 42 [(6, fz_i x589), (0, fz_r 53), (1, fz_i pe), (2, fz_i t), (3, fz_i hr), (4, fz_i 0), (5, fz_i su)] [] H591 (qX11_tries_0 h pe t hr su) := by
          intro n594
          induction n594 with
          | zero => intro x589 H591 hI592 hf593 hXw590 hv598 hm597; exact absurd hm597 (by omega)
          | succ n594 ih596 =>
            intro x589 H591 hI592 hf593 hXw590 hv598 hm597
            refine fz_iload kX11_tries rfl rfl ?_
            refine fz_iload kX11_tries rfl rfl ?_
            refine fz_icmp_ge (tgt := 69) kX11_tries rfl (by decide) (fun c599 => ?_) (fun c599 => ?_)
            · refine fz_iload kX11_tries rfl rfl ?_
              refine fz_iconst ⟨by decide, by decide⟩ kX11_tries rfl ?_
              refine fz_icmp_ne (tgt := 76) kX11_tries rfl (by decide) (fun c600 => ?_) (fun c600 => ?_)
              · refine fz_iconst ⟨by decide, by decide⟩ kX11_tries rfl ?_
                refine fz_istore (ls' := [(6, fz_i 0), (0, fz_r 53), (1, fz_i pe), (2, fz_i t), (3, fz_i hr), (4, fz_i 0), (5, fz_i su)]) kX11_tries rfl (by decide) rfl ?_
                have lp607 : ∀ (n606 : Nat) (x601 : Int) (H603 : fz_H), fz_Iv H603 → fz_fr [(53, 54), (53, 55), (74, 99999), (75, 99999), (89, 99999), (90, 99999)] h H603 → fz_Xw H603 → (0 ≤ x601 ∧ x601 ≤ 2147483647) → ((h 53 2) - x601).toNat < n606 → fz_R 8 mX11_tries 79 [(6, fz_i x601), (0, fz_r 53), (1, fz_i pe), (2, fz_i t), (3, fz_i hr), (4, fz_i 0), (5, fz_i su)] [] H603 (qX11_tries_0 h pe t hr su) := by
                  intro n606
                  induction n606 with
                  | zero => intro x601 H603 hI604 hf605 hXw602 hv610 hm609; exact absurd hm609 (by omega)
                  | succ n606 ih608 =>
                    intro x601 H603 hI604 hf605 hXw602 hv610 hm609
                    refine fz_iload kX11_tries rfl rfl ?_
                    refine fz_aload_n kX11_tries rfl rfl ?_
                    refine fz_getV (v := h 53 2) kX11_tries rfl rfl (hf605 53 2 rfl) ?_
                    have b611 : 0 ≤ h 53 2 ∧ h 53 2 ≤ 12 := hI.1 53 _
                    refine fz_icmp_ge (tgt := 217) kX11_tries rfl (by decide) (fun c612 => ?_) (fun c612 => ?_)
                    · exact fz_vret kX11_tries rfl rfl ⟨hI604, hf605, hXw602, rfl⟩
                    · refine fz_aload_n kX11_tries rfl rfl ?_
                      refine fz_getR (t := 55) kX11_tries rfl rfl ?_
                      refine fz_iload kX11_tries rfl rfl ?_
                      refine fz_ialdV (n := 12) (v := h 55 (x601.toNat)) kX11_tries rfl rfl (by omega) (by omega) (hf605 55 _ rfl) ?_
                      have b613 : 0 ≤ h 55 (x601.toNat) ∧ h 55 (x601.toNat) ≤ 7 := hI.1 55 _
                      refine fz_iload_n kX11_tries rfl rfl ?_
                      refine fz_icmp_eq (tgt := 113) kX11_tries rfl (by decide) (fun c614 => ?_) (fun c614 => ?_)
                      · refine fz_aload_n kX11_tries rfl rfl ?_
                        refine fz_getR (t := 55) kX11_tries rfl rfl ?_
                        refine fz_iload kX11_tries rfl rfl ?_
                        refine fz_ialdV (n := 12) (v := h 55 (x601.toNat)) kX11_tries rfl rfl (by omega) (by omega) (hf605 55 _ rfl) ?_
                        refine fz_iload_n kX11_tries rfl rfl ?_
                        refine fz_icmp_ne (tgt := 134) kX11_tries rfl (by decide) (fun c615 => ?_) (fun c615 => ?_)
                        · refine fz_aload_n kX11_tries rfl rfl ?_
                          refine fz_getR (t := 55) kX11_tries rfl rfl ?_
                          refine fz_iload kX11_tries rfl rfl ?_
                          refine fz_ialdV (n := 12) (v := h 55 (x601.toNat)) kX11_tries rfl rfl (by omega) (by omega) (hf605 55 _ rfl) ?_
                          refine fz_istore (ls' := [(7, fz_i (h 55 (x601.toNat))), (6, fz_i x601), (0, fz_r 53), (1, fz_i pe), (2, fz_i t), (3, fz_i hr), (4, fz_i 0), (5, fz_i su)]) kX11_tries rfl (by decide) rfl ?_
                          refine fz_iload_n kX11_tries rfl rfl ?_
                          refine fz_aload_n kX11_tries rfl rfl ?_
                          refine fz_getR (t := 57) kX11_tries rfl rfl ?_
                          refine fz_iload kX11_tries rfl rfl ?_
                          refine fz_ialdV (n := 12) (v := h 57 (x601.toNat)) kX11_tries rfl rfl (by omega) (by omega) (hf605 57 _ rfl) ?_
                          have b616 : 0 ≤ h 57 (x601.toNat) ∧ h 57 (x601.toNat) ≤ 24 := hI.1 57 _
                          refine fz_iadd kX11_tries rfl ?_
                          refine fz_nmw (fun z617 e618 => ?_)
                          refine fz_istore (ls' := [(8, fz_i z617), (7, fz_i (h 55 (x601.toNat))), (6, fz_i x601), (0, fz_r 53), (1, fz_i pe), (2, fz_i t), (3, fz_i hr), (4, fz_i 0), (5, fz_i su)]) kX11_tries rfl (by decide) rfl ?_
                          refine fz_iload kX11_tries rfl rfl ?_
                          refine fz_sipush ⟨by decide, by decide⟩ kX11_tries rfl ?_
                          refine fz_icmp_gt (tgt := 211) kX11_tries rfl (by decide) (fun c619 => ?_) (fun c619 => ?_)
                          · refine fz_iincN (ls' := [(6, fz_i (x601 + 1)), (8, fz_i z617), (7, fz_i (h 55 (x601.toNat))), (0, fz_r 53), (1, fz_i pe), (2, fz_i t), (3, fz_i hr), (4, fz_i 0), (5, fz_i su)]) kX11_tries rfl (by decide) rfl (by omega) rfl ?_
                            refine fz_goto (tgt := 79) kX11_tries rfl (by decide) ?_
                            refine fz_sub (fz_pk_sub (ls' := [(6, fz_i (x601 + 1)), (0, fz_r 53), (1, fz_i pe), (2, fz_i t), (3, fz_i hr), (4, fz_i 0), (5, fz_i su)]) [0, 3, 4, 5, 6, 7, 8] rfl) ?_
                            exact ih608 (x601 + 1) H603 hI604 hf605 hXw602 (by omega) (by omega)
                          · refine fz_aload_n kX11_tries rfl rfl ?_
                            refine fz_iload_n kX11_tries rfl rfl ?_
                            refine fz_iload kX11_tries rfl rfl ?_
                            refine fz_iload kX11_tries rfl rfl ?_
                            refine fz_callV (d' := 4) (M' := mX11_isArrested) (As := [fz_i pe, fz_i (h 55 (x601.toNat)), fz_i z617]) (st := []) kX11_tries rfl rfl vX11_isArrested rfl rfl rfl rfl (Nat.le_of_ble_eq_true rfl) (Nat.le_of_ble_eq_true rfl) (by decide) (sX11_isArrested H603 hI604 pe (h 55 (x601.toNat)) z617 hXw602 (by omega)) (fun H620 r621 q622 o623 => ?_)
                            obtain ⟨hI624, hf625, hXw626, y627, rfl, p628⟩ := q622
                            clear o623
                            have hf629 := fz_fr_tr hf605 hf625 (show fz_su [(74, 99999), (75, 99999)] [(53, 54), (53, 55), (74, 99999), (75, 99999), (89, 99999), (90, 99999)] = true from rfl)
                            refine fz_if_eq (tgt := 177) kX11_tries rfl (by decide) (fun c630 => ?_) (fun c630 => ?_)
                            · refine fz_aload_n kX11_tries rfl rfl ?_
                              refine fz_getR (t := 90) kX11_tries rfl rfl ?_
                              refine fz_iload kX11_tries rfl rfl ?_
                              refine fz_iload kX11_tries rfl rfl ?_
                              refine fz_iast (n := 4) kX11_tries rfl rfl (by omega) (by omega) ?_
                              refine fz_nmu (S := [(53, 54), (53, 55), (74, 99999), (75, 99999), (89, 99999), (90, 99999)]) (h0 := h) (fz_Iv_up hI624 (by decide) (show (0 : Int) ≤ (h 55 (x601.toNat)) by omega) (show ((h 55 (x601.toNat)) : Int) ≤ 7 by omega)) (fz_fr_up hf629 rfl) (fun H631 hI632 hf633 e634 => ?_)
                              have hXw635 : fz_Xw H631 := fz_Xw_eq (by rw [e634]; exact fz_up_o (by decide)) (by rw [e634]; exact fz_up_ne (by decide)) (by rw [e634]; exact fz_up_ne (by decide)) (by rw [e634]; exact fz_up_ne (by decide)) (by rw [e634]; exact fz_up_ne (by decide)) hXw626
                              clear e634
                              refine fz_aload_n kX11_tries rfl rfl ?_
                              refine fz_iload_n kX11_tries rfl rfl ?_
                              refine fz_iload kX11_tries rfl rfl ?_
                              refine fz_iload kX11_tries rfl rfl ?_
                              refine fz_iload kX11_tries rfl rfl ?_
                              refine fz_iconst ⟨by decide, by decide⟩ kX11_tries rfl ?_
                              refine fz_iaddN kX11_tries rfl ⟨by decide, by decide⟩ ?_
                              refine fz_eqi (y := 1) rfl ?_
                              refine fz_iload kX11_tries rfl rfl ?_
                              refine fz_aload_n kX11_tries rfl rfl ?_
                              refine fz_iload_n kX11_tries rfl rfl ?_
                              refine fz_iload kX11_tries rfl rfl ?_
                              refine fz_iload kX11_tries rfl rfl ?_
                              refine fz_callV (d' := 4) (M' := mX11_receivedIn) (As := [fz_i pe, fz_i (h 55 (x601.toNat)), fz_i z617]) (st := [fz_i su, fz_i 1, fz_i z617, fz_i (h 55 (x601.toNat)), fz_i pe, fz_r 53]) kX11_tries rfl rfl vX11_receivedIn rfl rfl rfl rfl (Nat.le_of_ble_eq_true rfl) (Nat.le_of_ble_eq_true rfl) (by decide) (sX11_receivedIn H631 hI632 pe (h 55 (x601.toNat)) z617 hXw635 (by omega)) (fun H636 r637 q638 o639 => ?_)
                              obtain ⟨hI640, hf641, hXw642, y644, rfl, f643⟩ := q638
                              clear o639
                              have hf645 := fz_fr_tr hf633 hf641 (show fz_su [(74, 99999), (75, 99999)] [(53, 54), (53, 55), (74, 99999), (75, 99999), (89, 99999), (90, 99999)] = true from rfl)
                              refine fz_iadd kX11_tries rfl ?_
                              refine fz_nmw (fun z646 e647 => ?_)
                              refine fz_callV (d' := 7) (M' := mX11_tries) (As := [fz_i pe, fz_i (h 55 (x601.toNat)), fz_i z617, fz_i 1, fz_i z646]) (st := []) kX11_tries rfl rfl vX11_tries rfl rfl rfl rfl (Nat.le_of_ble_eq_true rfl) (Nat.le_of_ble_eq_true rfl) (by decide) (sX11_tries_1 H636 hI640 pe (h 55 (x601.toNat)) z617 z646 hXw642 (by omega)) (fun H648 r649 q650 o651 => ?_)
                              obtain ⟨hI652, hf653, hXw654, rfl⟩ := q650
                              clear o651
                              have hf655 := fz_fr_tr hf645 hf653 (show fz_su [(53, 54), (53, 55), (74, 99999), (75, 99999), (89, 99999), (90, 99999)] [(53, 54), (53, 55), (74, 99999), (75, 99999), (89, 99999), (90, 99999)] = true from rfl)
                              refine fz_iincN (ls' := [(6, fz_i (x601 + 1)), (8, fz_i z617), (7, fz_i (h 55 (x601.toNat))), (0, fz_r 53), (1, fz_i pe), (2, fz_i t), (3, fz_i hr), (4, fz_i 0), (5, fz_i su)]) kX11_tries rfl (by decide) rfl (by omega) rfl ?_
                              refine fz_goto (tgt := 79) kX11_tries rfl (by decide) ?_
                              refine fz_sub (fz_pk_sub (ls' := [(6, fz_i (x601 + 1)), (0, fz_r 53), (1, fz_i pe), (2, fz_i t), (3, fz_i hr), (4, fz_i 0), (5, fz_i su)]) [0, 3, 4, 5, 6, 7, 8] rfl) ?_
                              exact ih608 (x601 + 1) H648 hI652 hf655 hXw654 (by omega) (by omega)
                            · refine fz_goto (tgt := 211) kX11_tries rfl (by decide) ?_
                              refine fz_iincN (ls' := [(6, fz_i (x601 + 1)), (8, fz_i z617), (7, fz_i (h 55 (x601.toNat))), (0, fz_r 53), (1, fz_i pe), (2, fz_i t), (3, fz_i hr), (4, fz_i 0), (5, fz_i su)]) kX11_tries rfl (by decide) rfl (by omega) rfl ?_
                              refine fz_goto (tgt := 79) kX11_tries rfl (by decide) ?_
                              refine fz_sub (fz_pk_sub (ls' := [(6, fz_i (x601 + 1)), (0, fz_r 53), (1, fz_i pe), (2, fz_i t), (3, fz_i hr), (4, fz_i 0), (5, fz_i su)]) [0, 3, 4, 5, 6, 7, 8] rfl) ?_
                              exact ih608 (x601 + 1) H620 hI624 hf629 hXw626 (by omega) (by omega)
                        · refine fz_aload_n kX11_tries rfl rfl ?_
                          refine fz_getR (t := 56) kX11_tries rfl rfl ?_
                          refine fz_iload kX11_tries rfl rfl ?_
                          refine fz_ialdV (n := 12) (v := h 56 (x601.toNat)) kX11_tries rfl rfl (by omega) (by omega) (hf605 56 _ rfl) ?_
                          have b656 : 0 ≤ h 56 (x601.toNat) ∧ h 56 (x601.toNat) ≤ 7 := hI.1 56 _
                          refine fz_goto (tgt := 141) kX11_tries rfl (by decide) ?_
                          refine fz_istore (ls' := [(7, fz_i (h 56 (x601.toNat))), (6, fz_i x601), (0, fz_r 53), (1, fz_i pe), (2, fz_i t), (3, fz_i hr), (4, fz_i 0), (5, fz_i su)]) kX11_tries rfl (by decide) rfl ?_
                          refine fz_iload_n kX11_tries rfl rfl ?_
                          refine fz_aload_n kX11_tries rfl rfl ?_
                          refine fz_getR (t := 57) kX11_tries rfl rfl ?_
                          refine fz_iload kX11_tries rfl rfl ?_
                          refine fz_ialdV (n := 12) (v := h 57 (x601.toNat)) kX11_tries rfl rfl (by omega) (by omega) (hf605 57 _ rfl) ?_
                          have b657 : 0 ≤ h 57 (x601.toNat) ∧ h 57 (x601.toNat) ≤ 24 := hI.1 57 _
                          refine fz_iadd kX11_tries rfl ?_
                          refine fz_nmw (fun z658 e659 => ?_)
                          refine fz_istore (ls' := [(8, fz_i z658), (7, fz_i (h 56 (x601.toNat))), (6, fz_i x601), (0, fz_r 53), (1, fz_i pe), (2, fz_i t), (3, fz_i hr), (4, fz_i 0), (5, fz_i su)]) kX11_tries rfl (by decide) rfl ?_
                          refine fz_iload kX11_tries rfl rfl ?_
                          refine fz_sipush ⟨by decide, by decide⟩ kX11_tries rfl ?_
                          refine fz_icmp_gt (tgt := 211) kX11_tries rfl (by decide) (fun c660 => ?_) (fun c660 => ?_)
                          · refine fz_iincN (ls' := [(6, fz_i (x601 + 1)), (8, fz_i z658), (7, fz_i (h 56 (x601.toNat))), (0, fz_r 53), (1, fz_i pe), (2, fz_i t), (3, fz_i hr), (4, fz_i 0), (5, fz_i su)]) kX11_tries rfl (by decide) rfl (by omega) rfl ?_
                            refine fz_goto (tgt := 79) kX11_tries rfl (by decide) ?_
                            refine fz_sub (fz_pk_sub (ls' := [(6, fz_i (x601 + 1)), (0, fz_r 53), (1, fz_i pe), (2, fz_i t), (3, fz_i hr), (4, fz_i 0), (5, fz_i su)]) [0, 3, 4, 5, 6, 7, 8] rfl) ?_
                            exact ih608 (x601 + 1) H603 hI604 hf605 hXw602 (by omega) (by omega)
                          · refine fz_aload_n kX11_tries rfl rfl ?_
                            refine fz_iload_n kX11_tries rfl rfl ?_
                            refine fz_iload kX11_tries rfl rfl ?_
                            refine fz_iload kX11_tries rfl rfl ?_
                            refine fz_callV (d' := 4) (M' := mX11_isArrested) (As := [fz_i pe, fz_i (h 56 (x601.toNat)), fz_i z658]) (st := []) kX11_tries rfl rfl vX11_isArrested rfl rfl rfl rfl (Nat.le_of_ble_eq_true rfl) (Nat.le_of_ble_eq_true rfl) (by decide) (sX11_isArrested H603 hI604 pe (h 56 (x601.toNat)) z658 hXw602 (by omega)) (fun H661 r662 q663 o664 => ?_)
                            obtain ⟨hI665, hf666, hXw667, y668, rfl, p669⟩ := q663
                            clear o664
                            have hf670 := fz_fr_tr hf605 hf666 (show fz_su [(74, 99999), (75, 99999)] [(53, 54), (53, 55), (74, 99999), (75, 99999), (89, 99999), (90, 99999)] = true from rfl)
                            refine fz_if_eq (tgt := 177) kX11_tries rfl (by decide) (fun c671 => ?_) (fun c671 => ?_)
                            · refine fz_aload_n kX11_tries rfl rfl ?_
                              refine fz_getR (t := 90) kX11_tries rfl rfl ?_
                              refine fz_iload kX11_tries rfl rfl ?_
                              refine fz_iload kX11_tries rfl rfl ?_
                              refine fz_iast (n := 4) kX11_tries rfl rfl (by omega) (by omega) ?_
                              refine fz_nmu (S := [(53, 54), (53, 55), (74, 99999), (75, 99999), (89, 99999), (90, 99999)]) (h0 := h) (fz_Iv_up hI665 (by decide) (show (0 : Int) ≤ (h 56 (x601.toNat)) by omega) (show ((h 56 (x601.toNat)) : Int) ≤ 7 by omega)) (fz_fr_up hf670 rfl) (fun H672 hI673 hf674 e675 => ?_)
                              have hXw676 : fz_Xw H672 := fz_Xw_eq (by rw [e675]; exact fz_up_o (by decide)) (by rw [e675]; exact fz_up_ne (by decide)) (by rw [e675]; exact fz_up_ne (by decide)) (by rw [e675]; exact fz_up_ne (by decide)) (by rw [e675]; exact fz_up_ne (by decide)) hXw667
                              clear e675
                              refine fz_aload_n kX11_tries rfl rfl ?_
                              refine fz_iload_n kX11_tries rfl rfl ?_
                              refine fz_iload kX11_tries rfl rfl ?_
                              refine fz_iload kX11_tries rfl rfl ?_
                              refine fz_iload kX11_tries rfl rfl ?_
                              refine fz_iconst ⟨by decide, by decide⟩ kX11_tries rfl ?_
                              refine fz_iaddN kX11_tries rfl ⟨by decide, by decide⟩ ?_
                              refine fz_eqi (y := 1) rfl ?_
                              refine fz_iload kX11_tries rfl rfl ?_
                              refine fz_aload_n kX11_tries rfl rfl ?_
                              refine fz_iload_n kX11_tries rfl rfl ?_
                              refine fz_iload kX11_tries rfl rfl ?_
                              refine fz_iload kX11_tries rfl rfl ?_
                              refine fz_callV (d' := 4) (M' := mX11_receivedIn) (As := [fz_i pe, fz_i (h 56 (x601.toNat)), fz_i z658]) (st := [fz_i su, fz_i 1, fz_i z658, fz_i (h 56 (x601.toNat)), fz_i pe, fz_r 53]) kX11_tries rfl rfl vX11_receivedIn rfl rfl rfl rfl (Nat.le_of_ble_eq_true rfl) (Nat.le_of_ble_eq_true rfl) (by decide) (sX11_receivedIn H672 hI673 pe (h 56 (x601.toNat)) z658 hXw676 (by omega)) (fun H677 r678 q679 o680 => ?_)
                              obtain ⟨hI681, hf682, hXw683, y685, rfl, f684⟩ := q679
                              clear o680
                              have hf686 := fz_fr_tr hf674 hf682 (show fz_su [(74, 99999), (75, 99999)] [(53, 54), (53, 55), (74, 99999), (75, 99999), (89, 99999), (90, 99999)] = true from rfl)
                              refine fz_iadd kX11_tries rfl ?_
                              refine fz_nmw (fun z687 e688 => ?_)
                              refine fz_callV (d' := 7) (M' := mX11_tries) (As := [fz_i pe, fz_i (h 56 (x601.toNat)), fz_i z658, fz_i 1, fz_i z687]) (st := []) kX11_tries rfl rfl vX11_tries rfl rfl rfl rfl (Nat.le_of_ble_eq_true rfl) (Nat.le_of_ble_eq_true rfl) (by decide) (sX11_tries_1 H677 hI681 pe (h 56 (x601.toNat)) z658 z687 hXw683 (by omega)) (fun H689 r690 q691 o692 => ?_)
                              obtain ⟨hI693, hf694, hXw695, rfl⟩ := q691
                              clear o692
                              have hf696 := fz_fr_tr hf686 hf694 (show fz_su [(53, 54), (53, 55), (74, 99999), (75, 99999), (89, 99999), (90, 99999)] [(53, 54), (53, 55), (74, 99999), (75, 99999), (89, 99999), (90, 99999)] = true from rfl)
                              refine fz_iincN (ls' := [(6, fz_i (x601 + 1)), (8, fz_i z658), (7, fz_i (h 56 (x601.toNat))), (0, fz_r 53), (1, fz_i pe), (2, fz_i t), (3, fz_i hr), (4, fz_i 0), (5, fz_i su)]) kX11_tries rfl (by decide) rfl (by omega) rfl ?_
                              refine fz_goto (tgt := 79) kX11_tries rfl (by decide) ?_
                              refine fz_sub (fz_pk_sub (ls' := [(6, fz_i (x601 + 1)), (0, fz_r 53), (1, fz_i pe), (2, fz_i t), (3, fz_i hr), (4, fz_i 0), (5, fz_i su)]) [0, 3, 4, 5, 6, 7, 8] rfl) ?_
                              exact ih608 (x601 + 1) H689 hI693 hf696 hXw695 (by omega) (by omega)
                            · refine fz_goto (tgt := 211) kX11_tries rfl (by decide) ?_
                              refine fz_iincN (ls' := [(6, fz_i (x601 + 1)), (8, fz_i z658), (7, fz_i (h 56 (x601.toNat))), (0, fz_r 53), (1, fz_i pe), (2, fz_i t), (3, fz_i hr), (4, fz_i 0), (5, fz_i su)]) kX11_tries rfl (by decide) rfl (by omega) rfl ?_
                              refine fz_goto (tgt := 79) kX11_tries rfl (by decide) ?_
                              refine fz_sub (fz_pk_sub (ls' := [(6, fz_i (x601 + 1)), (0, fz_r 53), (1, fz_i pe), (2, fz_i t), (3, fz_i hr), (4, fz_i 0), (5, fz_i su)]) [0, 3, 4, 5, 6, 7, 8] rfl) ?_
                              exact ih608 (x601 + 1) H661 hI665 hf670 hXw667 (by omega) (by omega)
                      · refine fz_aload_n kX11_tries rfl rfl ?_
                        refine fz_getR (t := 56) kX11_tries rfl rfl ?_
                        refine fz_iload kX11_tries rfl rfl ?_
                        refine fz_ialdV (n := 12) (v := h 56 (x601.toNat)) kX11_tries rfl rfl (by omega) (by omega) (hf605 56 _ rfl) ?_
                        have b697 : 0 ≤ h 56 (x601.toNat) ∧ h 56 (x601.toNat) ≤ 7 := hI.1 56 _
                        refine fz_iload_n kX11_tries rfl rfl ?_
                        refine fz_icmp_eq (tgt := 113) kX11_tries rfl (by decide) (fun c698 => ?_) (fun c698 => ?_)
                        · refine fz_aload_n kX11_tries rfl rfl ?_
                          refine fz_getR (t := 55) kX11_tries rfl rfl ?_
                          refine fz_iload kX11_tries rfl rfl ?_
                          refine fz_ialdV (n := 12) (v := h 55 (x601.toNat)) kX11_tries rfl rfl (by omega) (by omega) (hf605 55 _ rfl) ?_
                          refine fz_iload_n kX11_tries rfl rfl ?_
                          refine fz_icmp_ne (tgt := 134) kX11_tries rfl (by decide) (fun c699 => ?_) (fun c699 => ?_)
                          · refine fz_aload_n kX11_tries rfl rfl ?_
                            refine fz_getR (t := 55) kX11_tries rfl rfl ?_
                            refine fz_iload kX11_tries rfl rfl ?_
                            refine fz_ialdV (n := 12) (v := h 55 (x601.toNat)) kX11_tries rfl rfl (by omega) (by omega) (hf605 55 _ rfl) ?_
                            refine fz_istore (ls' := [(7, fz_i (h 55 (x601.toNat))), (6, fz_i x601), (0, fz_r 53), (1, fz_i pe), (2, fz_i t), (3, fz_i hr), (4, fz_i 0), (5, fz_i su)]) kX11_tries rfl (by decide) rfl ?_
                            refine fz_iload_n kX11_tries rfl rfl ?_
                            refine fz_aload_n kX11_tries rfl rfl ?_
                            refine fz_getR (t := 57) kX11_tries rfl rfl ?_
                            refine fz_iload kX11_tries rfl rfl ?_
                            refine fz_ialdV (n := 12) (v := h 57 (x601.toNat)) kX11_tries rfl rfl (by omega) (by omega) (hf605 57 _ rfl) ?_
                            have b700 : 0 ≤ h 57 (x601.toNat) ∧ h 57 (x601.toNat) ≤ 24 := hI.1 57 _
                            refine fz_iadd kX11_tries rfl ?_
                            refine fz_nmw (fun z701 e702 => ?_)
                            refine fz_istore (ls' := [(8, fz_i z701), (7, fz_i (h 55 (x601.toNat))), (6, fz_i x601), (0, fz_r 53), (1, fz_i pe), (2, fz_i t), (3, fz_i hr), (4, fz_i 0), (5, fz_i su)]) kX11_tries rfl (by decide) rfl ?_
                            refine fz_iload kX11_tries rfl rfl ?_
                            refine fz_sipush ⟨by decide, by decide⟩ kX11_tries rfl ?_
                            refine fz_icmp_gt (tgt := 211) kX11_tries rfl (by decide) (fun c703 => ?_) (fun c703 => ?_)
                            · refine fz_iincN (ls' := [(6, fz_i (x601 + 1)), (8, fz_i z701), (7, fz_i (h 55 (x601.toNat))), (0, fz_r 53), (1, fz_i pe), (2, fz_i t), (3, fz_i hr), (4, fz_i 0), (5, fz_i su)]) kX11_tries rfl (by decide) rfl (by omega) rfl ?_
                              refine fz_goto (tgt := 79) kX11_tries rfl (by decide) ?_
                              refine fz_sub (fz_pk_sub (ls' := [(6, fz_i (x601 + 1)), (0, fz_r 53), (1, fz_i pe), (2, fz_i t), (3, fz_i hr), (4, fz_i 0), (5, fz_i su)]) [0, 3, 4, 5, 6, 7, 8] rfl) ?_
                              exact ih608 (x601 + 1) H603 hI604 hf605 hXw602 (by omega) (by omega)
                            · refine fz_aload_n kX11_tries rfl rfl ?_
                              refine fz_iload_n kX11_tries rfl rfl ?_
                              refine fz_iload kX11_tries rfl rfl ?_
                              refine fz_iload kX11_tries rfl rfl ?_
                              refine fz_callV (d' := 4) (M' := mX11_isArrested) (As := [fz_i pe, fz_i (h 55 (x601.toNat)), fz_i z701]) (st := []) kX11_tries rfl rfl vX11_isArrested rfl rfl rfl rfl (Nat.le_of_ble_eq_true rfl) (Nat.le_of_ble_eq_true rfl) (by decide) (sX11_isArrested H603 hI604 pe (h 55 (x601.toNat)) z701 hXw602 (by omega)) (fun H704 r705 q706 o707 => ?_)
                              obtain ⟨hI708, hf709, hXw710, y711, rfl, p712⟩ := q706
                              clear o707
                              have hf713 := fz_fr_tr hf605 hf709 (show fz_su [(74, 99999), (75, 99999)] [(53, 54), (53, 55), (74, 99999), (75, 99999), (89, 99999), (90, 99999)] = true from rfl)
                              refine fz_if_eq (tgt := 177) kX11_tries rfl (by decide) (fun c714 => ?_) (fun c714 => ?_)
                              · refine fz_aload_n kX11_tries rfl rfl ?_
                                refine fz_getR (t := 90) kX11_tries rfl rfl ?_
                                refine fz_iload kX11_tries rfl rfl ?_
                                refine fz_iload kX11_tries rfl rfl ?_
                                refine fz_iast (n := 4) kX11_tries rfl rfl (by omega) (by omega) ?_
                                refine fz_nmu (S := [(53, 54), (53, 55), (74, 99999), (75, 99999), (89, 99999), (90, 99999)]) (h0 := h) (fz_Iv_up hI708 (by decide) (show (0 : Int) ≤ (h 55 (x601.toNat)) by omega) (show ((h 55 (x601.toNat)) : Int) ≤ 7 by omega)) (fz_fr_up hf713 rfl) (fun H715 hI716 hf717 e718 => ?_)
                                have hXw719 : fz_Xw H715 := fz_Xw_eq (by rw [e718]; exact fz_up_o (by decide)) (by rw [e718]; exact fz_up_ne (by decide)) (by rw [e718]; exact fz_up_ne (by decide)) (by rw [e718]; exact fz_up_ne (by decide)) (by rw [e718]; exact fz_up_ne (by decide)) hXw710
                                clear e718
                                refine fz_aload_n kX11_tries rfl rfl ?_
                                refine fz_iload_n kX11_tries rfl rfl ?_
                                refine fz_iload kX11_tries rfl rfl ?_
                                refine fz_iload kX11_tries rfl rfl ?_
                                refine fz_iload kX11_tries rfl rfl ?_
                                refine fz_iconst ⟨by decide, by decide⟩ kX11_tries rfl ?_
                                refine fz_iaddN kX11_tries rfl ⟨by decide, by decide⟩ ?_
                                refine fz_eqi (y := 1) rfl ?_
                                refine fz_iload kX11_tries rfl rfl ?_
                                refine fz_aload_n kX11_tries rfl rfl ?_
                                refine fz_iload_n kX11_tries rfl rfl ?_
                                refine fz_iload kX11_tries rfl rfl ?_
                                refine fz_iload kX11_tries rfl rfl ?_
                                refine fz_callV (d' := 4) (M' := mX11_receivedIn) (As := [fz_i pe, fz_i (h 55 (x601.toNat)), fz_i z701]) (st := [fz_i su, fz_i 1, fz_i z701, fz_i (h 55 (x601.toNat)), fz_i pe, fz_r 53]) kX11_tries rfl rfl vX11_receivedIn rfl rfl rfl rfl (Nat.le_of_ble_eq_true rfl) (Nat.le_of_ble_eq_true rfl) (by decide) (sX11_receivedIn H715 hI716 pe (h 55 (x601.toNat)) z701 hXw719 (by omega)) (fun H720 r721 q722 o723 => ?_)
                                obtain ⟨hI724, hf725, hXw726, y728, rfl, f727⟩ := q722
                                clear o723
                                have hf729 := fz_fr_tr hf717 hf725 (show fz_su [(74, 99999), (75, 99999)] [(53, 54), (53, 55), (74, 99999), (75, 99999), (89, 99999), (90, 99999)] = true from rfl)
                                refine fz_iadd kX11_tries rfl ?_
                                refine fz_nmw (fun z730 e731 => ?_)
                                refine fz_callV (d' := 7) (M' := mX11_tries) (As := [fz_i pe, fz_i (h 55 (x601.toNat)), fz_i z701, fz_i 1, fz_i z730]) (st := []) kX11_tries rfl rfl vX11_tries rfl rfl rfl rfl (Nat.le_of_ble_eq_true rfl) (Nat.le_of_ble_eq_true rfl) (by decide) (sX11_tries_1 H720 hI724 pe (h 55 (x601.toNat)) z701 z730 hXw726 (by omega)) (fun H732 r733 q734 o735 => ?_)
                                obtain ⟨hI736, hf737, hXw738, rfl⟩ := q734
                                clear o735
                                have hf739 := fz_fr_tr hf729 hf737 (show fz_su [(53, 54), (53, 55), (74, 99999), (75, 99999), (89, 99999), (90, 99999)] [(53, 54), (53, 55), (74, 99999), (75, 99999), (89, 99999), (90, 99999)] = true from rfl)
                                refine fz_iincN (ls' := [(6, fz_i (x601 + 1)), (8, fz_i z701), (7, fz_i (h 55 (x601.toNat))), (0, fz_r 53), (1, fz_i pe), (2, fz_i t), (3, fz_i hr), (4, fz_i 0), (5, fz_i su)]) kX11_tries rfl (by decide) rfl (by omega) rfl ?_
                                refine fz_goto (tgt := 79) kX11_tries rfl (by decide) ?_
                                refine fz_sub (fz_pk_sub (ls' := [(6, fz_i (x601 + 1)), (0, fz_r 53), (1, fz_i pe), (2, fz_i t), (3, fz_i hr), (4, fz_i 0), (5, fz_i su)]) [0, 3, 4, 5, 6, 7, 8] rfl) ?_
                                exact ih608 (x601 + 1) H732 hI736 hf739 hXw738 (by omega) (by omega)
                              · refine fz_goto (tgt := 211) kX11_tries rfl (by decide) ?_
                                refine fz_iincN (ls' := [(6, fz_i (x601 + 1)), (8, fz_i z701), (7, fz_i (h 55 (x601.toNat))), (0, fz_r 53), (1, fz_i pe), (2, fz_i t), (3, fz_i hr), (4, fz_i 0), (5, fz_i su)]) kX11_tries rfl (by decide) rfl (by omega) rfl ?_
                                refine fz_goto (tgt := 79) kX11_tries rfl (by decide) ?_
                                refine fz_sub (fz_pk_sub (ls' := [(6, fz_i (x601 + 1)), (0, fz_r 53), (1, fz_i pe), (2, fz_i t), (3, fz_i hr), (4, fz_i 0), (5, fz_i su)]) [0, 3, 4, 5, 6, 7, 8] rfl) ?_
                                exact ih608 (x601 + 1) H704 hI708 hf713 hXw710 (by omega) (by omega)
                          · refine fz_aload_n kX11_tries rfl rfl ?_
                            refine fz_getR (t := 56) kX11_tries rfl rfl ?_
                            refine fz_iload kX11_tries rfl rfl ?_
                            refine fz_ialdV (n := 12) (v := h 56 (x601.toNat)) kX11_tries rfl rfl (by omega) (by omega) (hf605 56 _ rfl) ?_
                            refine fz_goto (tgt := 141) kX11_tries rfl (by decide) ?_
                            refine fz_istore (ls' := [(7, fz_i (h 56 (x601.toNat))), (6, fz_i x601), (0, fz_r 53), (1, fz_i pe), (2, fz_i t), (3, fz_i hr), (4, fz_i 0), (5, fz_i su)]) kX11_tries rfl (by decide) rfl ?_
                            refine fz_iload_n kX11_tries rfl rfl ?_
                            refine fz_aload_n kX11_tries rfl rfl ?_
                            refine fz_getR (t := 57) kX11_tries rfl rfl ?_
                            refine fz_iload kX11_tries rfl rfl ?_
                            refine fz_ialdV (n := 12) (v := h 57 (x601.toNat)) kX11_tries rfl rfl (by omega) (by omega) (hf605 57 _ rfl) ?_
                            have b740 : 0 ≤ h 57 (x601.toNat) ∧ h 57 (x601.toNat) ≤ 24 := hI.1 57 _
                            refine fz_iadd kX11_tries rfl ?_
                            refine fz_nmw (fun z741 e742 => ?_)
                            refine fz_istore (ls' := [(8, fz_i z741), (7, fz_i (h 56 (x601.toNat))), (6, fz_i x601), (0, fz_r 53), (1, fz_i pe), (2, fz_i t), (3, fz_i hr), (4, fz_i 0), (5, fz_i su)]) kX11_tries rfl (by decide) rfl ?_
                            refine fz_iload kX11_tries rfl rfl ?_
                            refine fz_sipush ⟨by decide, by decide⟩ kX11_tries rfl ?_
                            refine fz_icmp_gt (tgt := 211) kX11_tries rfl (by decide) (fun c743 => ?_) (fun c743 => ?_)
                            · refine fz_iincN (ls' := [(6, fz_i (x601 + 1)), (8, fz_i z741), (7, fz_i (h 56 (x601.toNat))), (0, fz_r 53), (1, fz_i pe), (2, fz_i t), (3, fz_i hr), (4, fz_i 0), (5, fz_i su)]) kX11_tries rfl (by decide) rfl (by omega) rfl ?_
                              refine fz_goto (tgt := 79) kX11_tries rfl (by decide) ?_
                              refine fz_sub (fz_pk_sub (ls' := [(6, fz_i (x601 + 1)), (0, fz_r 53), (1, fz_i pe), (2, fz_i t), (3, fz_i hr), (4, fz_i 0), (5, fz_i su)]) [0, 3, 4, 5, 6, 7, 8] rfl) ?_
                              exact ih608 (x601 + 1) H603 hI604 hf605 hXw602 (by omega) (by omega)
                            · refine fz_aload_n kX11_tries rfl rfl ?_
                              refine fz_iload_n kX11_tries rfl rfl ?_
                              refine fz_iload kX11_tries rfl rfl ?_
                              refine fz_iload kX11_tries rfl rfl ?_
                              refine fz_callV (d' := 4) (M' := mX11_isArrested) (As := [fz_i pe, fz_i (h 56 (x601.toNat)), fz_i z741]) (st := []) kX11_tries rfl rfl vX11_isArrested rfl rfl rfl rfl (Nat.le_of_ble_eq_true rfl) (Nat.le_of_ble_eq_true rfl) (by decide) (sX11_isArrested H603 hI604 pe (h 56 (x601.toNat)) z741 hXw602 (by omega)) (fun H744 r745 q746 o747 => ?_)
                              obtain ⟨hI748, hf749, hXw750, y751, rfl, p752⟩ := q746
                              clear o747
                              have hf753 := fz_fr_tr hf605 hf749 (show fz_su [(74, 99999), (75, 99999)] [(53, 54), (53, 55), (74, 99999), (75, 99999), (89, 99999), (90, 99999)] = true from rfl)
                              refine fz_if_eq (tgt := 177) kX11_tries rfl (by decide) (fun c754 => ?_) (fun c754 => ?_)
                              · refine fz_aload_n kX11_tries rfl rfl ?_
                                refine fz_getR (t := 90) kX11_tries rfl rfl ?_
                                refine fz_iload kX11_tries rfl rfl ?_
                                refine fz_iload kX11_tries rfl rfl ?_
                                refine fz_iast (n := 4) kX11_tries rfl rfl (by omega) (by omega) ?_
                                refine fz_nmu (S := [(53, 54), (53, 55), (74, 99999), (75, 99999), (89, 99999), (90, 99999)]) (h0 := h) (fz_Iv_up hI748 (by decide) (show (0 : Int) ≤ (h 56 (x601.toNat)) by omega) (show ((h 56 (x601.toNat)) : Int) ≤ 7 by omega)) (fz_fr_up hf753 rfl) (fun H755 hI756 hf757 e758 => ?_)
                                have hXw759 : fz_Xw H755 := fz_Xw_eq (by rw [e758]; exact fz_up_o (by decide)) (by rw [e758]; exact fz_up_ne (by decide)) (by rw [e758]; exact fz_up_ne (by decide)) (by rw [e758]; exact fz_up_ne (by decide)) (by rw [e758]; exact fz_up_ne (by decide)) hXw750
                                clear e758
                                refine fz_aload_n kX11_tries rfl rfl ?_
                                refine fz_iload_n kX11_tries rfl rfl ?_
                                refine fz_iload kX11_tries rfl rfl ?_
                                refine fz_iload kX11_tries rfl rfl ?_
                                refine fz_iload kX11_tries rfl rfl ?_
                                refine fz_iconst ⟨by decide, by decide⟩ kX11_tries rfl ?_
                                refine fz_iaddN kX11_tries rfl ⟨by decide, by decide⟩ ?_
                                refine fz_eqi (y := 1) rfl ?_
                                refine fz_iload kX11_tries rfl rfl ?_
                                refine fz_aload_n kX11_tries rfl rfl ?_
                                refine fz_iload_n kX11_tries rfl rfl ?_
                                refine fz_iload kX11_tries rfl rfl ?_
                                refine fz_iload kX11_tries rfl rfl ?_
                                refine fz_callV (d' := 4) (M' := mX11_receivedIn) (As := [fz_i pe, fz_i (h 56 (x601.toNat)), fz_i z741]) (st := [fz_i su, fz_i 1, fz_i z741, fz_i (h 56 (x601.toNat)), fz_i pe, fz_r 53]) kX11_tries rfl rfl vX11_receivedIn rfl rfl rfl rfl (Nat.le_of_ble_eq_true rfl) (Nat.le_of_ble_eq_true rfl) (by decide) (sX11_receivedIn H755 hI756 pe (h 56 (x601.toNat)) z741 hXw759 (by omega)) (fun H760 r761 q762 o763 => ?_)
                                obtain ⟨hI764, hf765, hXw766, y768, rfl, f767⟩ := q762
                                clear o763
                                have hf769 := fz_fr_tr hf757 hf765 (show fz_su [(74, 99999), (75, 99999)] [(53, 54), (53, 55), (74, 99999), (75, 99999), (89, 99999), (90, 99999)] = true from rfl)
                                refine fz_iadd kX11_tries rfl ?_
                                refine fz_nmw (fun z770 e771 => ?_)
                                refine fz_callV (d' := 7) (M' := mX11_tries) (As := [fz_i pe, fz_i (h 56 (x601.toNat)), fz_i z741, fz_i 1, fz_i z770]) (st := []) kX11_tries rfl rfl vX11_tries rfl rfl rfl rfl (Nat.le_of_ble_eq_true rfl) (Nat.le_of_ble_eq_true rfl) (by decide) (sX11_tries_1 H760 hI764 pe (h 56 (x601.toNat)) z741 z770 hXw766 (by omega)) (fun H772 r773 q774 o775 => ?_)
                                obtain ⟨hI776, hf777, hXw778, rfl⟩ := q774
                                clear o775
                                have hf779 := fz_fr_tr hf769 hf777 (show fz_su [(53, 54), (53, 55), (74, 99999), (75, 99999), (89, 99999), (90, 99999)] [(53, 54), (53, 55), (74, 99999), (75, 99999), (89, 99999), (90, 99999)] = true from rfl)
                                refine fz_iincN (ls' := [(6, fz_i (x601 + 1)), (8, fz_i z741), (7, fz_i (h 56 (x601.toNat))), (0, fz_r 53), (1, fz_i pe), (2, fz_i t), (3, fz_i hr), (4, fz_i 0), (5, fz_i su)]) kX11_tries rfl (by decide) rfl (by omega) rfl ?_
                                refine fz_goto (tgt := 79) kX11_tries rfl (by decide) ?_
                                refine fz_sub (fz_pk_sub (ls' := [(6, fz_i (x601 + 1)), (0, fz_r 53), (1, fz_i pe), (2, fz_i t), (3, fz_i hr), (4, fz_i 0), (5, fz_i su)]) [0, 3, 4, 5, 6, 7, 8] rfl) ?_
                                exact ih608 (x601 + 1) H772 hI776 hf779 hXw778 (by omega) (by omega)
                              · refine fz_goto (tgt := 211) kX11_tries rfl (by decide) ?_
                                refine fz_iincN (ls' := [(6, fz_i (x601 + 1)), (8, fz_i z741), (7, fz_i (h 56 (x601.toNat))), (0, fz_r 53), (1, fz_i pe), (2, fz_i t), (3, fz_i hr), (4, fz_i 0), (5, fz_i su)]) kX11_tries rfl (by decide) rfl (by omega) rfl ?_
                                refine fz_goto (tgt := 79) kX11_tries rfl (by decide) ?_
                                refine fz_sub (fz_pk_sub (ls' := [(6, fz_i (x601 + 1)), (0, fz_r 53), (1, fz_i pe), (2, fz_i t), (3, fz_i hr), (4, fz_i 0), (5, fz_i su)]) [0, 3, 4, 5, 6, 7, 8] rfl) ?_
                                exact ih608 (x601 + 1) H744 hI748 hf753 hXw750 (by omega) (by omega)
                        · refine fz_goto (tgt := 211) kX11_tries rfl (by decide) ?_
                          refine fz_iincN (ls' := [(6, fz_i (x601 + 1)), (0, fz_r 53), (1, fz_i pe), (2, fz_i t), (3, fz_i hr), (4, fz_i 0), (5, fz_i su)]) kX11_tries rfl (by decide) rfl (by omega) rfl ?_
                          refine fz_goto (tgt := 79) kX11_tries rfl (by decide) ?_
                          exact ih608 (x601 + 1) H603 hI604 hf605 hXw602 (by omega) (by omega)
                exact lp607 _ 0 H591 hI592 hf593 hXw590 (by omega) (Nat.lt_succ_self _)
              · exfalso; omega
            · exfalso; omega
        exact lp595 _ 0 H582 hI583 hf584 hXw588 (by omega) (Nat.lt_succ_self _)

abbrev qX11_route (h : fz_H) (on th k : Int) : fz_H → Option fz_V → Prop := fun h' r0 => fz_Iv h' ∧ fz_fr [(53, 54), (53, 55), (74, 99999), (75, 99999), (86, 99999), (87, 99999), (88, 99999), (89, 99999), (90, 99999)] h h' ∧ fz_Xw h' ∧ ∃ r : Int, r0 = some (fz_i r) ∧ ((-2147483648) ≤ r ∧ r ≤ 2147483647)
set_option maxHeartbeats 1000000 in
set_option maxRecDepth 100000 in
theorem sX11_route (h : fz_H) (hI : fz_Iv h) (on th k : Int) (hXw : fz_Xw h) : fz_R 9 mX11_route 0 [(0, fz_r 53), (1, fz_i on), (2, fz_i th), (3, fz_i k)] [] h (qX11_route h on th k) := by
  refine fz_knowl (fun hk => ?_)
  have hr_on : -2147483648 ≤ on ∧ on < 2147483648 := hk _ (List.Mem.tail _ (List.Mem.head _))
  have hr_th : -2147483648 ≤ th ∧ th < 2147483648 := hk _ (List.Mem.tail _ (List.Mem.tail _ (List.Mem.head _)))
  have hr_k : -2147483648 ≤ k ∧ k < 2147483648 := hk _ (List.Mem.tail _ (List.Mem.tail _ (List.Mem.tail _ (List.Mem.head _))))
  clear hk
  have hf : fz_fr [(53, 54), (53, 55), (74, 99999), (75, 99999), (86, 99999), (87, 99999), (88, 99999), (89, 99999), (90, 99999)] h h := fz_fr_rf
  refine fz_iload_n kX11_route rfl rfl ?_
  refine fz_callS (d' := 1) (M' := mX11_isPerson) (As := [fz_i on]) (st := []) kX11_route rfl rfl vX11_isPerson rfl rfl (Nat.le_of_ble_eq_true rfl) (Nat.le_of_ble_eq_true rfl) (by decide) (sX11_isPerson h hI on ) (fun H1 r2 q3 o4 => ?_)
  obtain ⟨e5, y6, rfl, p7⟩ := q3
  subst H1
  clear o4
  rcases p7 with ⟨rfl, c8⟩ | ⟨rfl, c8⟩
  · refine fz_if_eq (tgt := 20) kX11_route rfl (by decide) (fun c9 => ?_) (fun c9 => ?_)
    · exfalso; omega
    · refine fz_aload_n kX11_route rfl rfl ?_
      refine fz_iload_n kX11_route rfl rfl ?_
      have b10 : 0 ≤ h 53 0 ∧ h 53 0 ≤ 8 := hI.1 53 _
      refine fz_callV (d' := 2) (M' := mX11_isWhen) (As := [fz_i th]) (st := []) kX11_route rfl rfl vX11_isWhen rfl rfl rfl rfl (Nat.le_of_ble_eq_true rfl) (Nat.le_of_ble_eq_true rfl) (by decide) (sX11_isWhen h hI th ) (fun H11 r12 q13 o14 => ?_)
      obtain ⟨e15, y16, rfl, p17⟩ := q13
      subst H11
      clear o14
      rcases p17 with ⟨rfl, c18⟩ | ⟨rfl, c18⟩
      · refine fz_if_eq (tgt := 20) kX11_route rfl (by decide) (fun c19 => ?_) (fun c19 => ?_)
        · exfalso; omega
        · refine fz_iload_n kX11_route rfl rfl ?_
          refine fz_iconst ⟨by decide, by decide⟩ kX11_route rfl ?_
          refine fz_icmp_ge (tgt := 23) kX11_route rfl (by decide) (fun c20 => ?_) (fun c20 => ?_)
          · refine fz_aload_n kX11_route rfl rfl ?_
            refine fz_callV (d' := 3) (M' := mX11_allHear) (As := []) (st := []) kX11_route rfl rfl vX11_allHear rfl rfl rfl rfl (Nat.le_of_ble_eq_true rfl) (Nat.le_of_ble_eq_true rfl) (by decide) (sX11_allHear h hI  ) (fun H21 r22 q23 o24 => ?_)
            obtain ⟨hI25, hf26, rfl⟩ := q23
            clear o24
            have hf27 := fz_fr_tr hf hf26 (show fz_su [(86, 99999), (87, 99999), (88, 99999)] [(53, 54), (53, 55), (74, 99999), (75, 99999), (86, 99999), (87, 99999), (88, 99999), (89, 99999), (90, 99999)] = true from rfl)
            have hXw28 : fz_Xw H21 := fz_Xw_eq (hf26 53 19 rfl) (funext fun s => hf26 66 s rfl) (funext fun s => hf26 67 s rfl) (funext fun s => hf26 68 s rfl) (funext fun s => hf26 69 s rfl) hXw
            refine fz_aload_n kX11_route rfl rfl ?_
            refine fz_iconst ⟨by decide, by decide⟩ kX11_route rfl ?_
            refine fz_putI kX11_route rfl rfl rfl ?_
            refine fz_nmu (S := [(53, 54), (53, 55), (74, 99999), (75, 99999), (86, 99999), (87, 99999), (88, 99999), (89, 99999), (90, 99999)]) (h0 := h) (fz_Iv_up hI25 (by decide) (show ((-2147483648) : Int) ≤ 0 by decide) (show (0 : Int) ≤ 2147483647 by decide)) (fz_fr_up hf27 rfl) (fun H29 hI30 hf31 e32 => ?_)
            have k33 : H29 53 54 = 0 := by rw [e32]; exact fz_up_e
            have hXw34 : fz_Xw H29 := fz_Xw_eq (by rw [e32]; exact fz_up_s (by decide)) (by rw [e32]; exact fz_up_ne (by decide)) (by rw [e32]; exact fz_up_ne (by decide)) (by rw [e32]; exact fz_up_ne (by decide)) (by rw [e32]; exact fz_up_ne (by decide)) hXw28
            clear e32
            refine fz_aload_n kX11_route rfl rfl ?_
            refine fz_iconst ⟨by decide, by decide⟩ kX11_route rfl ?_
            refine fz_putI kX11_route rfl rfl rfl ?_
            refine fz_nmu (S := [(53, 54), (53, 55), (74, 99999), (75, 99999), (86, 99999), (87, 99999), (88, 99999), (89, 99999), (90, 99999)]) (h0 := h) (fz_Iv_up hI30 (by decide) (show (0 : Int) ≤ 0 by decide) (show (0 : Int) ≤ 4 by decide)) (fz_fr_up hf31 rfl) (fun H35 hI36 hf37 e38 => ?_)
            have k39 : H35 53 54 = 0 := by rw [e38]; exact (fz_up_s (by decide)).trans k33
            have k40 : H35 53 55 = 0 := by rw [e38]; exact fz_up_e
            have hXw41 : fz_Xw H35 := fz_Xw_eq (by rw [e38]; exact fz_up_s (by decide)) (by rw [e38]; exact fz_up_ne (by decide)) (by rw [e38]; exact fz_up_ne (by decide)) (by rw [e38]; exact fz_up_ne (by decide)) (by rw [e38]; exact fz_up_ne (by decide)) hXw34
            clear e38
            refine fz_aload_n kX11_route rfl rfl ?_
            refine fz_iload_n kX11_route rfl rfl ?_
            refine fz_iload_n kX11_route rfl rfl ?_
            refine fz_sipush ⟨by decide, by decide⟩ kX11_route rfl ?_
            refine fz_idivN kX11_route rfl (by omega) (by omega) (by omega) ?_
            refine fz_iload_n kX11_route rfl rfl ?_
            refine fz_sipush ⟨by decide, by decide⟩ kX11_route rfl ?_
            refine fz_iremN kX11_route rfl (by omega) (by omega) (by omega) ?_
            refine fz_iconst ⟨by decide, by decide⟩ kX11_route rfl ?_
            refine fz_iconst ⟨by decide, by decide⟩ kX11_route rfl ?_
            refine fz_callV (d' := 8) (M' := mX11_tries) (As := [fz_i on, fz_i (th / 1000), fz_i (th % 1000), fz_i 0, fz_i 0]) (st := []) kX11_route rfl rfl vX11_tries rfl rfl rfl rfl (Nat.le_of_ble_eq_true rfl) (Nat.le_of_ble_eq_true rfl) (by decide) (sX11_tries_0 H35 hI36 on (th / 1000) (th % 1000) 0 hXw41 (by omega)) (fun H42 r43 q44 o45 => ?_)
            obtain ⟨hI46, hf47, hXw48, rfl⟩ := q44
            clear o45
            have hf49 := fz_fr_tr hf37 hf47 (show fz_su [(53, 54), (53, 55), (74, 99999), (75, 99999), (89, 99999), (90, 99999)] [(53, 54), (53, 55), (74, 99999), (75, 99999), (86, 99999), (87, 99999), (88, 99999), (89, 99999), (90, 99999)] = true from rfl)
            refine fz_iload_n kX11_route rfl rfl ?_
            refine fz_iconst ⟨by decide, by decide⟩ kX11_route rfl ?_
            refine fz_icmp_ne (tgt := 66) kX11_route rfl (by decide) (fun c50 => ?_) (fun c50 => ?_)
            · refine fz_iload_n kX11_route rfl rfl ?_
              refine fz_aload_n kX11_route rfl rfl ?_
              obtain ⟨v51, e52⟩ : ∃ z, H42 53 (55) = z := ⟨_, rfl⟩
              refine fz_getV (v := v51) kX11_route rfl rfl e52 ?_
              have b53 : 0 ≤ v51 ∧ v51 ≤ 4 := by rw [← e52]; exact hI46.1 53 _
              refine fz_icmp_ge (tgt := 83) kX11_route rfl (by decide) (fun c54 => ?_) (fun c54 => ?_)
              · refine fz_bipush ⟨by decide, by decide⟩ kX11_route rfl ?_
                exact fz_iret kX11_route rfl rfl (fun _ => ⟨hI46, hf49, hXw48, _, rfl, (by omega)⟩)
              · refine fz_aload_n kX11_route rfl rfl ?_
                refine fz_getR (t := 89) kX11_route rfl rfl ?_
                refine fz_iload_n kX11_route rfl rfl ?_
                obtain ⟨v55, e56⟩ : ∃ z, H42 89 (k.toNat) = z := ⟨_, rfl⟩
                refine fz_ialdV (n := 4) (v := v55) kX11_route rfl rfl (by omega) (by omega) e56 ?_
                have b57 : 0 ≤ v55 ∧ v55 ≤ 7 := by rw [← e56]; exact hI46.1 89 _
                refine fz_goto (tgt := 85) kX11_route rfl (by decide) ?_
                exact fz_iret kX11_route rfl rfl (fun _ => ⟨hI46, hf49, hXw48, _, rfl, (by omega)⟩)
            · refine fz_aload_n kX11_route rfl rfl ?_
              obtain ⟨v58, e59⟩ : ∃ z, H42 53 (54) = z := ⟨_, rfl⟩
              refine fz_getV (v := v58) kX11_route rfl rfl e59 ?_
              have b60 : (-2147483648) ≤ v58 ∧ v58 ≤ 2147483647 := by rw [← e59]; exact hI46.1 53 _
              refine fz_goto (tgt := 85) kX11_route rfl (by decide) ?_
              exact fz_iret kX11_route rfl rfl (fun _ => ⟨hI46, hf49, hXw48, _, rfl, (by omega)⟩)
          · refine fz_ldc (x := (-2000000000)) kX11_route rfl rfl rfl ?_
            exact fz_iret kX11_route rfl rfl (fun _ => ⟨hI, hf, hXw, _, rfl, (by omega)⟩)
      · refine fz_if_eq (tgt := 20) kX11_route rfl (by decide) (fun c61 => ?_) (fun c61 => ?_)
        · refine fz_ldc (x := (-2000000000)) kX11_route rfl rfl rfl ?_
          exact fz_iret kX11_route rfl rfl (fun _ => ⟨hI, hf, hXw, _, rfl, (by omega)⟩)
        · exfalso; omega
  · refine fz_if_eq (tgt := 20) kX11_route rfl (by decide) (fun c62 => ?_) (fun c62 => ?_)
    · refine fz_ldc (x := (-2000000000)) kX11_route rfl rfl rfl ?_
      exact fz_iret kX11_route rfl rfl (fun _ => ⟨hI, hf, hXw, _, rfl, (by omega)⟩)
    · exfalso; omega
