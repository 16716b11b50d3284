/-! ===== what the methods keep ===== -/
abbrev qX11_way (h : fz_H) (ab wh : Int) : fz_H → Option fz_V → Prop := fun h' r0 => fz_Iv h' ∧ fz_fr [(86, 99999), (87, 99999)] h h' ∧ ∃ r : Int, r0 = some (fz_i r) ∧ ((-2147483648) ≤ r ∧ r ≤ 2147483647)
set_option maxHeartbeats 1000000 in
set_option maxRecDepth 100000 in
theorem sX11_way (h : fz_H) (hI : fz_Iv h) (ab wh : Int) : fz_R 3 mX11_way 0 [(0, fz_r 53), (1, fz_i ab), (2, fz_i wh)] [] h (qX11_way h ab wh) := by
  refine fz_knowl (fun hk => ?_)
  have hr_ab : -2147483648 ≤ ab ∧ ab < 2147483648 := hk _ (List.Mem.tail _ (List.Mem.head _))
  have hr_wh : -2147483648 ≤ wh ∧ wh < 2147483648 := hk _ (List.Mem.tail _ (List.Mem.tail _ (List.Mem.head _)))
  clear hk
  have hf : fz_fr [(86, 99999), (87, 99999)] h h := fz_fr_rf
  refine fz_aload_n kX11_way rfl rfl ?_
  refine fz_iload_n kX11_way rfl rfl ?_
  have b1 : 0 ≤ h 53 0 ∧ h 53 0 ≤ 8 := hI.1 53 _
  refine fz_callV (d' := 2) (M' := mX11_areTowns) (As := [fz_i ab]) (st := []) kX11_way rfl rfl vX11_areTowns rfl rfl rfl rfl (Nat.le_of_ble_eq_true rfl) (Nat.le_of_ble_eq_true rfl) (by decide) (sX11_areTowns h hI ab ) (fun H2 r3 q4 o5 => ?_)
  obtain ⟨e6, y7, rfl, p8⟩ := q4
  subst H2
  clear o5
  rcases p8 with ⟨rfl, c9⟩ | ⟨rfl, c9⟩
  · refine fz_if_eq (tgt := 17) kX11_way rfl (by decide) (fun c10 => ?_) (fun c10 => ?_)
    · exfalso; omega
    · refine fz_iload_n kX11_way rfl rfl ?_
      refine fz_iconst ⟨by decide, by decide⟩ kX11_way rfl ?_
      refine fz_iconst ⟨by decide, by decide⟩ kX11_way rfl ?_
      refine fz_callS (d' := 0) (M' := mX11_within) (As := [fz_i wh, fz_i 0, fz_i 1]) (st := []) kX11_way rfl rfl vX11_within rfl rfl (Nat.le_of_ble_eq_true rfl) (Nat.le_of_ble_eq_true rfl) (by decide) (sX11_within h hI wh 0 1 ) (fun H11 r12 q13 o14 => ?_)
      obtain ⟨e15, y16, rfl, p17⟩ := q13
      subst H11
      clear o14
      rcases p17 with ⟨rfl, c18⟩ | ⟨rfl, c18⟩
      · refine fz_if_ne (tgt := 19) kX11_way rfl (by decide) (fun c19 => ?_) (fun c19 => ?_)
        · refine fz_aload_n kX11_way rfl rfl ?_
          refine fz_iload_n kX11_way rfl rfl ?_
          refine fz_bipush ⟨by decide, by decide⟩ kX11_way rfl ?_
          refine fz_idivN kX11_way rfl (by omega) (by omega) (by omega) ?_
          refine fz_iload_n kX11_way rfl rfl ?_
          refine fz_iconst ⟨by decide, by decide⟩ kX11_way rfl ?_
          refine fz_icmp_ne (tgt := 33) kX11_way rfl (by decide) (fun c20 => ?_) (fun c20 => ?_)
          · refine fz_iconst ⟨by decide, by decide⟩ kX11_way rfl ?_
            refine fz_callV (d' := 1) (M' := mX11_goesFrom) (As := [fz_i (ab / 10), fz_i 0]) (st := []) kX11_way rfl rfl vX11_goesFrom rfl rfl rfl rfl (Nat.le_of_ble_eq_true rfl) (Nat.le_of_ble_eq_true rfl) (by decide) (sX11_goesFrom h hI (ab / 10) 0 (by omega) (by omega)) (fun H21 r22 q23 o24 => ?_)
            obtain ⟨hI25, hf26, rfl⟩ := q23
            clear o24
            have hf27 := fz_fr_tr hf hf26 (show fz_su [(86, 99999), (87, 99999)] [(86, 99999), (87, 99999)] = true from rfl)
            refine fz_aload_n kX11_way rfl rfl ?_
            refine fz_getR (t := 86) kX11_way rfl rfl ?_
            refine fz_iload_n kX11_way rfl rfl ?_
            refine fz_bipush ⟨by decide, by decide⟩ kX11_way rfl ?_
            refine fz_iremN kX11_way rfl (by omega) (by omega) (by omega) ?_
            obtain ⟨v28, e29⟩ : ∃ z, H21 86 ((ab % 10).toNat) = z := ⟨_, rfl⟩
            refine fz_ialdV (n := 8) (v := v28) kX11_way rfl rfl (by omega) (by omega) e29 ?_
            have b30 : (-2147483648) ≤ v28 ∧ v28 ≤ 2147483647 := by rw [← e29]; exact hI25.1 86 _
            exact fz_iret kX11_way rfl rfl (fun _ => ⟨hI25, hf27, _, rfl, (by omega)⟩)
          · refine fz_iconst ⟨by decide, by decide⟩ kX11_way rfl ?_
            refine fz_goto (tgt := 34) kX11_way rfl (by decide) ?_
            refine fz_callV (d' := 1) (M' := mX11_goesFrom) (As := [fz_i (ab / 10), fz_i 1]) (st := []) kX11_way rfl rfl vX11_goesFrom rfl rfl rfl rfl (Nat.le_of_ble_eq_true rfl) (Nat.le_of_ble_eq_true rfl) (by decide) (sX11_goesFrom h hI (ab / 10) 1 (by omega) (by omega)) (fun H31 r32 q33 o34 => ?_)
            obtain ⟨hI35, hf36, rfl⟩ := q33
            clear o34
            have hf37 := fz_fr_tr hf hf36 (show fz_su [(86, 99999), (87, 99999)] [(86, 99999), (87, 99999)] = true from rfl)
            refine fz_aload_n kX11_way rfl rfl ?_
            refine fz_getR (t := 86) kX11_way rfl rfl ?_
            refine fz_iload_n kX11_way rfl rfl ?_
            refine fz_bipush ⟨by decide, by decide⟩ kX11_way rfl ?_
            refine fz_iremN kX11_way rfl (by omega) (by omega) (by omega) ?_
            obtain ⟨v38, e39⟩ : ∃ z, H31 86 ((ab % 10).toNat) = z := ⟨_, rfl⟩
            refine fz_ialdV (n := 8) (v := v38) kX11_way rfl rfl (by omega) (by omega) e39 ?_
            have b40 : (-2147483648) ≤ v38 ∧ v38 ≤ 2147483647 := by rw [← e39]; exact hI35.1 86 _
            exact fz_iret kX11_way rfl rfl (fun _ => ⟨hI35, hf37, _, rfl, (by omega)⟩)
        · exfalso; omega
      · refine fz_if_ne (tgt := 19) kX11_way rfl (by decide) (fun c41 => ?_) (fun c41 => ?_)
        · exfalso; omega
        · refine fz_iconst ⟨by decide, by decide⟩ kX11_way rfl ?_
          exact fz_iret kX11_way rfl rfl (fun _ => ⟨hI, hf, _, rfl, (by omega)⟩)
  · refine fz_if_eq (tgt := 17) kX11_way rfl (by decide) (fun c42 => ?_) (fun c42 => ?_)
    · refine fz_iconst ⟨by decide, by decide⟩ kX11_way rfl ?_
      exact fz_iret kX11_way rfl rfl (fun _ => ⟨hI, hf, _, rfl, (by omega)⟩)
    · exfalso; omega

abbrev qX11_heardAt (h : fz_H) (d t : Int) : fz_H → Option fz_V → Prop := fun h' r0 => fz_Iv h' ∧ fz_fr [(86, 99999), (87, 99999)] h h' ∧ ∃ r : Int, r0 = some (fz_i r) ∧ ((-2147483648) ≤ r ∧ r ≤ 2147483647)
set_option maxHeartbeats 1000000 in
set_option maxRecDepth 100000 in
theorem sX11_heardAt (h : fz_H) (hI : fz_Iv h) (d t : Int) (hp0 : 0 ≤ d ∧ d ≤ 10) (hp1 : 0 ≤ t ∧ t ≤ 7) : fz_R 2 mX11_heardAt 0 [(0, fz_r 53), (1, fz_i d), (2, fz_i t)] [] h (qX11_heardAt h d t) := by
  refine fz_knowl (fun hk => ?_)
  have hr_d : -2147483648 ≤ d ∧ d < 2147483648 := hk _ (List.Mem.tail _ (List.Mem.head _))
  have hr_t : -2147483648 ≤ t ∧ t < 2147483648 := hk _ (List.Mem.tail _ (List.Mem.tail _ (List.Mem.head _)))
  clear hk
  have hf : fz_fr [(86, 99999), (87, 99999)] h h := fz_fr_rf
  refine fz_aload_n kX11_heardAt rfl rfl ?_
  refine fz_aload_n kX11_heardAt rfl rfl ?_
  refine fz_getR (t := 61) kX11_heardAt rfl rfl ?_
  refine fz_iload_n kX11_heardAt rfl rfl ?_
  refine fz_ialdV (n := 11) (v := h 61 (d.toNat)) kX11_heardAt rfl rfl (by omega) (by omega) rfl ?_
  have b1 : 0 ≤ h 61 (d.toNat) ∧ h 61 (d.toNat) ≤ 7 := hI.1 61 _
  refine fz_iconst ⟨by decide, by decide⟩ kX11_heardAt rfl ?_
  refine fz_callV (d' := 1) (M' := mX11_goesFrom) (As := [fz_i (h 61 (d.toNat)), fz_i 1]) (st := []) kX11_heardAt rfl rfl vX11_goesFrom rfl rfl rfl rfl (Nat.le_of_ble_eq_true rfl) (Nat.le_of_ble_eq_true rfl) (by decide) (sX11_goesFrom h hI (h 61 (d.toNat)) 1 (by omega) (by omega)) (fun H2 r3 q4 o5 => ?_)
  obtain ⟨hI6, hf7, rfl⟩ := q4
  clear o5
  have hf8 := fz_fr_tr hf hf7 (show fz_su [(86, 99999), (87, 99999)] [(86, 99999), (87, 99999)] = true from rfl)
  refine fz_aload_n kX11_heardAt rfl rfl ?_
  refine fz_getR (t := 86) kX11_heardAt rfl rfl ?_
  refine fz_iload_n kX11_heardAt rfl rfl ?_
  obtain ⟨v9, e10⟩ : ∃ z, H2 86 (t.toNat) = z := ⟨_, rfl⟩
  refine fz_ialdV (n := 8) (v := v9) kX11_heardAt rfl rfl (by omega) (by omega) e10 ?_
  have b11 : (-2147483648) ≤ v9 ∧ v9 ≤ 2147483647 := by rw [← e10]; exact hI6.1 86 _
  refine fz_bipush ⟨by decide, by decide⟩ kX11_heardAt rfl ?_
  refine fz_icmp_ne (tgt := 27) kX11_heardAt rfl (by decide) (fun c12 => ?_) (fun c12 => ?_)
  · refine fz_aload_n kX11_heardAt rfl rfl ?_
    refine fz_getR (t := 62) kX11_heardAt rfl rfl ?_
    refine fz_iload_n kX11_heardAt rfl rfl ?_
    refine fz_ialdV (n := 11) (v := h 62 (d.toNat)) kX11_heardAt rfl rfl (by omega) (by omega) (hf8 62 _ rfl) ?_
    have b13 : 0 ≤ h 62 (d.toNat) ∧ h 62 (d.toNat) ≤ 999 := hI.1 62 _
    refine fz_aload_n kX11_heardAt rfl rfl ?_
    refine fz_getR (t := 86) kX11_heardAt rfl rfl ?_
    refine fz_iload_n kX11_heardAt rfl rfl ?_
    obtain ⟨v14, e15⟩ : ∃ z, H2 86 (t.toNat) = z := ⟨_, rfl⟩
    refine fz_ialdV (n := 8) (v := v14) kX11_heardAt rfl rfl (by omega) (by omega) e15 ?_
    have b16 : (-2147483648) ≤ v14 ∧ v14 ≤ 2147483647 := by rw [← e15]; exact hI6.1 86 _
    refine fz_iadd kX11_heardAt rfl ?_
    refine fz_nmw (fun z17 e18 => ?_)
    refine fz_aload_n kX11_heardAt rfl rfl ?_
    refine fz_getR (t := 54) kX11_heardAt rfl rfl ?_
    refine fz_iload_n kX11_heardAt rfl rfl ?_
    refine fz_ialdV (n := 8) (v := h 54 (t.toNat)) kX11_heardAt rfl rfl (by omega) (by omega) (hf8 54 _ rfl) ?_
    have b19 : 0 ≤ h 54 (t.toNat) ∧ h 54 (t.toNat) ≤ 9 := hI.1 54 _
    refine fz_iadd kX11_heardAt rfl ?_
    refine fz_nmw (fun z20 e21 => ?_)
    exact fz_iret kX11_heardAt rfl rfl (fun _ => ⟨hI6, hf8, _, rfl, (by omega)⟩)
  · refine fz_bipush ⟨by decide, by decide⟩ kX11_heardAt rfl ?_
    refine fz_goto (tgt := 47) kX11_heardAt rfl (by decide) ?_
    exact fz_iret kX11_heardAt rfl rfl (fun _ => ⟨hI6, hf8, _, rfl, (by omega)⟩)

abbrev qX11_hears (h : fz_H) (d : Int) : fz_H → Option fz_V → Prop := fun h' r0 => fz_Iv h' ∧ fz_fr [(86, 99999), (87, 99999), (88, 99999)] h h' ∧ r0 = none
set_option maxHeartbeats 1000000 in
set_option maxRecDepth 100000 in
theorem sX11_hears (h : fz_H) (hI : fz_Iv h) (d : Int) (hp0 : 0 ≤ d ∧ d ≤ 10) : fz_R 2 mX11_hears 0 [(0, fz_r 53), (1, fz_i d)] [] h (qX11_hears h d) := by
  refine fz_knowl (fun hk => ?_)
  have hr_d : -2147483648 ≤ d ∧ d < 2147483648 := hk _ (List.Mem.tail _ (List.Mem.head _))
  clear hk
  have hf : fz_fr [(86, 99999), (87, 99999), (88, 99999)] h h := fz_fr_rf
  refine fz_aload_n kX11_hears rfl rfl ?_
  refine fz_aload_n kX11_hears rfl rfl ?_
  refine fz_getR (t := 61) kX11_hears rfl rfl ?_
  refine fz_iload_n kX11_hears rfl rfl ?_
  refine fz_ialdV (n := 11) (v := h 61 (d.toNat)) kX11_hears rfl rfl (by omega) (by omega) rfl ?_
  have b1 : 0 ≤ h 61 (d.toNat) ∧ h 61 (d.toNat) ≤ 7 := hI.1 61 _
  refine fz_iconst ⟨by decide, by decide⟩ kX11_hears rfl ?_
  refine fz_callV (d' := 1) (M' := mX11_goesFrom) (As := [fz_i (h 61 (d.toNat)), fz_i 1]) (st := []) kX11_hears rfl rfl vX11_goesFrom rfl rfl rfl rfl (Nat.le_of_ble_eq_true rfl) (Nat.le_of_ble_eq_true rfl) (by decide) (sX11_goesFrom h hI (h 61 (d.toNat)) 1 (by omega) (by omega)) (fun H2 r3 q4 o5 => ?_)
  obtain ⟨hI6, hf7, rfl⟩ := q4
  clear o5
  have hf8 := fz_fr_tr hf hf7 (show fz_su [(86, 99999), (87, 99999)] [(86, 99999), (87, 99999), (88, 99999)] = true from rfl)
  refine fz_iconst ⟨by decide, by decide⟩ kX11_hears rfl ?_
  refine fz_istore_n (ls' := [(2, fz_i 0), (0, fz_r 53), (1, fz_i d)]) kX11_hears rfl (by decide) rfl ?_
  have lp14 : ∀ (n13 : Nat) (x9 : Int) (H10 : fz_H), fz_Iv H10 → fz_fr [(86, 99999), (87, 99999), (88, 99999)] h H10 → (0 ≤ x9 ∧ x9 ≤ 2147483647) → ((h 53 0) - x9).toNat < n13 → fz_R 2 mX11_hears 13 [(2, fz_i x9), (0, fz_r 53), (1, fz_i d)] [] H10 (qX11_hears h d) := by
    intro n13
    induction n13 with
    | zero => intro x9 H10 hI11 hf12 hv17 hm16; exact absurd hm16 (by omega)
    | succ n13 ih15 =>
      intro x9 H10 hI11 hf12 hv17 hm16
      refine fz_iload_n kX11_hears rfl rfl ?_
      refine fz_aload_n kX11_hears rfl rfl ?_
      refine fz_getV (v := h 53 0) kX11_hears rfl rfl (hf12 53 0 rfl) ?_
      have b18 : 0 ≤ h 53 0 ∧ h 53 0 ≤ 8 := hI.1 53 _
      refine fz_icmp_ge (tgt := 74) kX11_hears rfl (by decide) (fun c19 => ?_) (fun c19 => ?_)
      · exact fz_vret kX11_hears rfl rfl ⟨hI11, hf12, rfl⟩
      · refine fz_aload_n kX11_hears rfl rfl ?_
        refine fz_getR (t := 88) kX11_hears rfl rfl ?_
        refine fz_bipush ⟨by decide, by decide⟩ kX11_hears rfl ?_
        refine fz_iload_n kX11_hears rfl rfl ?_
        refine fz_imulN kX11_hears rfl (by omega) ?_
        refine fz_iload_n kX11_hears rfl rfl ?_
        refine fz_iaddN kX11_hears rfl (by omega) ?_
        refine fz_aload_n kX11_hears rfl rfl ?_
        refine fz_getR (t := 86) kX11_hears rfl rfl ?_
        refine fz_iload_n kX11_hears rfl rfl ?_
        obtain ⟨v20, e21⟩ : ∃ z, H10 86 (x9.toNat) = z := ⟨_, rfl⟩
        refine fz_ialdV (n := 8) (v := v20) kX11_hears rfl rfl (by omega) (by omega) e21 ?_
        have b22 : (-2147483648) ≤ v20 ∧ v20 ≤ 2147483647 := by rw [← e21]; exact hI11.1 86 _
        refine fz_bipush ⟨by decide, by decide⟩ kX11_hears rfl ?_
        refine fz_icmp_ne (tgt := 47) kX11_hears rfl (by decide) (fun c23 => ?_) (fun c23 => ?_)
        · refine fz_aload_n kX11_hears rfl rfl ?_
          refine fz_getR (t := 62) kX11_hears rfl rfl ?_
          refine fz_iload_n kX11_hears rfl rfl ?_
          refine fz_ialdV (n := 11) (v := h 62 (d.toNat)) kX11_hears rfl rfl (by omega) (by omega) (hf12 62 _ rfl) ?_
          have b24 : 0 ≤ h 62 (d.toNat) ∧ h 62 (d.toNat) ≤ 999 := hI.1 62 _
          refine fz_aload_n kX11_hears rfl rfl ?_
          refine fz_getR (t := 86) kX11_hears rfl rfl ?_
          refine fz_iload_n kX11_hears rfl rfl ?_
          obtain ⟨v25, e26⟩ : ∃ z, H10 86 (x9.toNat) = z := ⟨_, rfl⟩
          refine fz_ialdV (n := 8) (v := v25) kX11_hears rfl rfl (by omega) (by omega) e26 ?_
          have b27 : (-2147483648) ≤ v25 ∧ v25 ≤ 2147483647 := by rw [← e26]; exact hI11.1 86 _
          refine fz_iadd kX11_hears rfl ?_
          refine fz_nmw (fun z28 e29 => ?_)
          refine fz_aload_n kX11_hears rfl rfl ?_
          refine fz_getR (t := 54) kX11_hears rfl rfl ?_
          refine fz_iload_n kX11_hears rfl rfl ?_
          refine fz_ialdV (n := 8) (v := h 54 (x9.toNat)) kX11_hears rfl rfl (by omega) (by omega) (hf12 54 _ rfl) ?_
          have b30 : 0 ≤ h 54 (x9.toNat) ∧ h 54 (x9.toNat) ≤ 9 := hI.1 54 _
          refine fz_iadd kX11_hears rfl ?_
          refine fz_nmw (fun z31 e32 => ?_)
          refine fz_iast (n := 88) kX11_hears rfl rfl (by omega) (by omega) ?_
          refine fz_nmu (S := [(86, 99999), (87, 99999), (88, 99999)]) (h0 := h) (fz_Iv_up hI11 (by decide) (show (-2147483648) ≤ z31 by omega) (show z31 ≤ 2147483647 by omega)) (fz_fr_up hf12 rfl) (fun H33 hI34 hf35 e36 => ?_)
          clear e36
          refine fz_iincN (ls' := [(2, fz_i (x9 + 1)), (0, fz_r 53), (1, fz_i d)]) kX11_hears rfl (by decide) rfl (by omega) rfl ?_
          refine fz_goto (tgt := 13) kX11_hears rfl (by decide) ?_
          exact ih15 (x9 + 1) H33 hI34 hf35 (by omega) (by omega)
        · refine fz_bipush ⟨by decide, by decide⟩ kX11_hears rfl ?_
          refine fz_goto (tgt := 67) kX11_hears rfl (by decide) ?_
          refine fz_iast (n := 88) kX11_hears rfl rfl (by omega) (by omega) ?_
          refine fz_nmu (S := [(86, 99999), (87, 99999), (88, 99999)]) (h0 := h) (fz_Iv_up hI11 (by decide) (show (-2147483648) ≤ (-2) by omega) (show (-2) ≤ 2147483647 by omega)) (fz_fr_up hf12 rfl) (fun H37 hI38 hf39 e40 => ?_)
          clear e40
          refine fz_iincN (ls' := [(2, fz_i (x9 + 1)), (0, fz_r 53), (1, fz_i d)]) kX11_hears rfl (by decide) rfl (by omega) rfl ?_
          refine fz_goto (tgt := 13) kX11_hears rfl (by decide) ?_
          exact ih15 (x9 + 1) H37 hI38 hf39 (by omega) (by omega)
  exact lp14 _ 0 H2 hI6 hf8 (by omega) (Nat.lt_succ_self _)

abbrev qX11_allHear (h : fz_H) : fz_H → Option fz_V → Prop := fun h' r0 => fz_Iv h' ∧ fz_fr [(86, 99999), (87, 99999), (88, 99999)] h h' ∧ r0 = none
set_option maxHeartbeats 1000000 in
set_option maxRecDepth 100000 in
theorem sX11_allHear (h : fz_H) (hI : fz_Iv h) : fz_R 3 mX11_allHear 0 [(0, fz_r 53)] [] h (qX11_allHear h) := by
  have hf : fz_fr [(86, 99999), (87, 99999), (88, 99999)] h h := fz_fr_rf
  refine fz_iconst ⟨by decide, by decide⟩ kX11_allHear rfl ?_
  refine fz_istore_n (ls' := [(1, fz_i 0), (0, fz_r 53)]) kX11_allHear rfl (by decide) rfl ?_
  have lp6 : ∀ (n5 : Nat) (x1 : Int) (H2 : fz_H), fz_Iv H2 → fz_fr [(86, 99999), (87, 99999), (88, 99999)] h H2 → (0 ≤ x1 ∧ x1 ≤ 2147483647) → ((h 53 10) - x1).toNat < n5 → fz_R 3 mX11_allHear 2 [(1, fz_i x1), (0, fz_r 53)] [] H2 (qX11_allHear h) := by
    intro n5
    induction n5 with
    | zero => intro x1 H2 hI3 hf4 hv9 hm8; exact absurd hm8 (by omega)
    | succ n5 ih7 =>
      intro x1 H2 hI3 hf4 hv9 hm8
      refine fz_iload_n kX11_allHear rfl rfl ?_
      refine fz_aload_n kX11_allHear rfl rfl ?_
      refine fz_getV (v := h 53 10) kX11_allHear rfl rfl (hf4 53 10 rfl) ?_
      have b10 : 0 ≤ h 53 10 ∧ h 53 10 ≤ 11 := hI.1 53 _
      refine fz_icmp_ge (tgt := 21) kX11_allHear rfl (by decide) (fun c11 => ?_) (fun c11 => ?_)
      · exact fz_vret kX11_allHear rfl rfl ⟨hI3, hf4, rfl⟩
      · refine fz_aload_n kX11_allHear rfl rfl ?_
        refine fz_iload_n kX11_allHear rfl rfl ?_
        refine fz_callV (d' := 2) (M' := mX11_hears) (As := [fz_i x1]) (st := []) kX11_allHear rfl rfl vX11_hears rfl rfl rfl rfl (Nat.le_of_ble_eq_true rfl) (Nat.le_of_ble_eq_true rfl) (by decide) (sX11_hears H2 hI3 x1 (by omega)) (fun H12 r13 q14 o15 => ?_)
        obtain ⟨hI16, hf17, rfl⟩ := q14
        clear o15
        have hf18 := fz_fr_tr hf4 hf17 (show fz_su [(86, 99999), (87, 99999), (88, 99999)] [(86, 99999), (87, 99999), (88, 99999)] = true from rfl)
        refine fz_iincN (ls' := [(1, fz_i (x1 + 1)), (0, fz_r 53)]) kX11_allHear rfl (by decide) rfl (by omega) rfl ?_
        refine fz_goto (tgt := 2) kX11_allHear rfl (by decide) ?_
        exact ih7 (x1 + 1) H12 hI16 hf18 (by omega) (by omega)
  exact lp6 _ 0 h hI hf (by omega) (Nat.lt_succ_self _)

abbrev qX11_heard (h : fz_H) (d t : Int) : fz_H → Option fz_V → Prop := fun h' r0 => fz_Iv h' ∧ fz_fr [(86, 99999), (87, 99999)] h h' ∧ ∃ r : Int, r0 = some (fz_i r) ∧ ((-2147483648) ≤ r ∧ r ≤ 2147483647)
set_option maxHeartbeats 1000000 in
set_option maxRecDepth 100000 in
theorem sX11_heard (h : fz_H) (hI : fz_Iv h) (d t : Int) : fz_R 3 mX11_heard 0 [(0, fz_r 53), (1, fz_i d), (2, fz_i t)] [] h (qX11_heard h d t) := by
  refine fz_knowl (fun hk => ?_)
  have hr_d : -2147483648 ≤ d ∧ d < 2147483648 := hk _ (List.Mem.tail _ (List.Mem.head _))
  have hr_t : -2147483648 ≤ t ∧ t < 2147483648 := hk _ (List.Mem.tail _ (List.Mem.tail _ (List.Mem.head _)))
  clear hk
  have hf : fz_fr [(86, 99999), (87, 99999)] h h := fz_fr_rf
  refine fz_aload_n kX11_heard rfl rfl ?_
  refine fz_iload_n kX11_heard rfl rfl ?_
  have b1 : 0 ≤ h 53 10 ∧ h 53 10 ≤ 11 := hI.1 53 _
  refine fz_callV (d' := 1) (M' := mX11_isDeed) (As := [fz_i d]) (st := []) kX11_heard rfl rfl vX11_isDeed rfl rfl rfl rfl (Nat.le_of_ble_eq_true rfl) (Nat.le_of_ble_eq_true rfl) (by decide) (sX11_isDeed h hI d ) (fun H2 r3 q4 o5 => ?_)
  obtain ⟨e6, y7, rfl, p8⟩ := q4
  subst H2
  clear o5
  rcases p8 with ⟨rfl, c9⟩ | ⟨rfl, c9⟩
  · refine fz_if_eq (tgt := 25) kX11_heard rfl (by decide) (fun c10 => ?_) (fun c10 => ?_)
    · exfalso; omega
    · refine fz_aload_n kX11_heard rfl rfl ?_
      refine fz_iload_n kX11_heard rfl rfl ?_
      have b11 : 0 ≤ h 53 0 ∧ h 53 0 ≤ 8 := hI.1 53 _
      refine fz_callV (d' := 1) (M' := mX11_isTown) (As := [fz_i t]) (st := []) kX11_heard rfl rfl vX11_isTown rfl rfl rfl rfl (Nat.le_of_ble_eq_true rfl) (Nat.le_of_ble_eq_true rfl) (by decide) (sX11_isTown h hI t ) (fun H12 r13 q14 o15 => ?_)
      obtain ⟨e16, y17, rfl, p18⟩ := q14
      subst H12
      clear o15
      rcases p18 with ⟨rfl, c19⟩ | ⟨rfl, c19⟩
      · refine fz_if_eq (tgt := 25) kX11_heard rfl (by decide) (fun c20 => ?_) (fun c20 => ?_)
        · exfalso; omega
        · refine fz_aload_n kX11_heard rfl rfl ?_
          refine fz_iload_n kX11_heard rfl rfl ?_
          refine fz_iload_n kX11_heard rfl rfl ?_
          refine fz_callV (d' := 2) (M' := mX11_heardAt) (As := [fz_i d, fz_i t]) (st := []) kX11_heard rfl rfl vX11_heardAt rfl rfl rfl rfl (Nat.le_of_ble_eq_true rfl) (Nat.le_of_ble_eq_true rfl) (by decide) (sX11_heardAt h hI d t (by omega) (by omega)) (fun H21 r22 q23 o24 => ?_)
          obtain ⟨hI25, hf26, y28, rfl, f27⟩ := q23
          clear o24
          have hf29 := fz_fr_tr hf hf26 (show fz_su [(86, 99999), (87, 99999)] [(86, 99999), (87, 99999)] = true from rfl)
          refine fz_goto (tgt := 26) kX11_heard rfl (by decide) ?_
          exact fz_iret kX11_heard rfl rfl (fun _ => ⟨hI25, hf29, _, rfl, (by omega)⟩)
      · refine fz_if_eq (tgt := 25) kX11_heard rfl (by decide) (fun c30 => ?_) (fun c30 => ?_)
        · refine fz_iconst ⟨by decide, by decide⟩ kX11_heard rfl ?_
          exact fz_iret kX11_heard rfl rfl (fun _ => ⟨hI, hf, _, rfl, (by omega)⟩)
        · exfalso; omega
  · refine fz_if_eq (tgt := 25) kX11_heard rfl (by decide) (fun c31 => ?_) (fun c31 => ?_)
    · refine fz_iconst ⟨by decide, by decide⟩ kX11_heard rfl ?_
      exact fz_iret kX11_heard rfl rfl (fun _ => ⟨hI, hf, _, rfl, (by omega)⟩)
    · exfalso; omega

abbrev qX11_loudness (h : fz_H) (d t hr pe : Int) : fz_H → Option fz_V → Prop := fun h' r0 => fz_Iv h' ∧ fz_fr [(74, 99999), (75, 99999)] h h' ∧ ∃ r : Int, r0 = some (fz_i r) ∧ (0 ≤ r ∧ r ≤ 2147483647)
set_option maxHeartbeats 1000000 in
set_option maxRecDepth 100000 in
theorem sX11_loudness (h : fz_H) (hI : fz_Iv h) (d t hr pe : Int) (hp0 : 0 ≤ d ∧ d ≤ 10) (hp1 : 0 ≤ t ∧ t ≤ 7) : fz_R 2 mX11_loudness 0 [(0, fz_r 53), (1, fz_i d), (2, fz_i t), (3, fz_i hr), (4, fz_i pe)] [] h (qX11_loudness h d t hr pe) := by
  refine fz_knowl (fun hk => ?_)
  have hr_d : -2147483648 ≤ d ∧ d < 2147483648 := hk _ (List.Mem.tail _ (List.Mem.head _))
  have hr_t : -2147483648 ≤ t ∧ t < 2147483648 := hk _ (List.Mem.tail _ (List.Mem.tail _ (List.Mem.head _)))
  have hr_hr : -2147483648 ≤ hr ∧ hr < 2147483648 := hk _ (List.Mem.tail _ (List.Mem.tail _ (List.Mem.tail _ (List.Mem.head _))))
  have hr_pe : -2147483648 ≤ pe ∧ pe < 2147483648 := hk _ (List.Mem.tail _ (List.Mem.tail _ (List.Mem.tail _ (List.Mem.tail _ (List.Mem.head _)))))
  clear hk
  have hf : fz_fr [(74, 99999), (75, 99999)] h h := fz_fr_rf
  refine fz_aload_n kX11_loudness rfl rfl ?_
  refine fz_getR (t := 88) kX11_loudness rfl rfl ?_
  refine fz_bipush ⟨by decide, by decide⟩ kX11_loudness rfl ?_
  refine fz_iload_n kX11_loudness rfl rfl ?_
  refine fz_imulN kX11_loudness rfl (by omega) ?_
  refine fz_iload_n kX11_loudness rfl rfl ?_
  refine fz_iaddN kX11_loudness rfl (by omega) ?_
  refine fz_ialdV (n := 88) (v := h 88 (((8 * d) + t).toNat)) kX11_loudness rfl rfl (by omega) (by omega) rfl ?_
  have b1 : (-2147483648) ≤ h 88 (((8 * d) + t).toNat) ∧ h 88 (((8 * d) + t).toNat) ≤ 2147483647 := hI.1 88 _
  refine fz_istore (ls' := [(5, fz_i (h 88 (((8 * d) + t).toNat))), (0, fz_r 53), (1, fz_i d), (2, fz_i t), (3, fz_i hr), (4, fz_i pe)]) kX11_loudness rfl (by decide) rfl ?_
  refine fz_iload kX11_loudness rfl rfl ?_
  refine fz_bipush ⟨by decide, by decide⟩ kX11_loudness rfl ?_
  refine fz_icmp_eq (tgt := 26) kX11_loudness rfl (by decide) (fun c2 => ?_) (fun c2 => ?_)
  · refine fz_iconst ⟨by decide, by decide⟩ kX11_loudness rfl ?_
    exact fz_iret kX11_loudness rfl rfl (fun _ => ⟨hI, hf, _, rfl, (by omega)⟩)
  · refine fz_iload kX11_loudness rfl rfl ?_
    refine fz_iload_n kX11_loudness rfl rfl ?_
    refine fz_icmp_le (tgt := 28) kX11_loudness rfl (by decide) (fun c3 => ?_) (fun c3 => ?_)
    · refine fz_aload_n kX11_loudness rfl rfl ?_
      refine fz_getR (t := 75) kX11_loudness rfl rfl ?_
      refine fz_iconst ⟨by decide, by decide⟩ kX11_loudness rfl ?_
      refine fz_aload_n kX11_loudness rfl rfl ?_
      refine fz_getR (t := 64) kX11_loudness rfl rfl ?_
      refine fz_iload_n kX11_loudness rfl rfl ?_
      refine fz_ialdV (n := 11) (v := h 64 (d.toNat)) kX11_loudness rfl rfl (by omega) (by omega) rfl ?_
      have b4 : 0 ≤ h 64 (d.toNat) ∧ h 64 (d.toNat) ≤ 9 := hI.1 64 _
      refine fz_iast (n := 6) kX11_loudness rfl rfl (by omega) (by omega) ?_
      refine fz_nmu (S := [(74, 99999), (75, 99999)]) (h0 := h) (fz_Iv_up hI (by decide) (show (-2147483648) ≤ (h 64 (d.toNat)) by omega) (show (h 64 (d.toNat)) ≤ 2147483647 by omega)) (fz_fr_up hf rfl) (fun H5 hI6 hf7 e8 => ?_)
      clear e8
      refine fz_aload_n kX11_loudness rfl rfl ?_
      refine fz_getR (t := 75) kX11_loudness rfl rfl ?_
      refine fz_iconst ⟨by decide, by decide⟩ kX11_loudness rfl ?_
      refine fz_iload_n kX11_loudness rfl rfl ?_
      refine fz_iload kX11_loudness rfl rfl ?_
      refine fz_isub kX11_loudness rfl ?_
      refine fz_nmw (fun z9 e10 => ?_)
      refine fz_iast (n := 6) kX11_loudness rfl rfl (by omega) (by omega) ?_
      refine fz_nmu (S := [(74, 99999), (75, 99999)]) (h0 := h) (fz_Iv_up hI6 (by decide) (show (-2147483648) ≤ z9 by omega) (show z9 ≤ 2147483647 by omega)) (fz_fr_up hf7 rfl) (fun H11 hI12 hf13 e14 => ?_)
      clear e14
      refine fz_aload_n kX11_loudness rfl rfl ?_
      refine fz_getR (t := 75) kX11_loudness rfl rfl ?_
      refine fz_iconst ⟨by decide, by decide⟩ kX11_loudness rfl ?_
      refine fz_iload kX11_loudness rfl rfl ?_
      refine fz_aload_n kX11_loudness rfl rfl ?_
      refine fz_getR (t := 62) kX11_loudness rfl rfl ?_
      refine fz_iload_n kX11_loudness rfl rfl ?_
      refine fz_ialdV (n := 11) (v := h 62 (d.toNat)) kX11_loudness rfl rfl (by omega) (by omega) (hf13 62 _ rfl) ?_
      have b15 : 0 ≤ h 62 (d.toNat) ∧ h 62 (d.toNat) ≤ 999 := hI.1 62 _
      refine fz_isub kX11_loudness rfl ?_
      refine fz_nmw (fun z16 e17 => ?_)
      refine fz_iast (n := 6) kX11_loudness rfl rfl (by omega) (by omega) ?_
      refine fz_nmu (S := [(74, 99999), (75, 99999)]) (h0 := h) (fz_Iv_up hI12 (by decide) (show (-2147483648) ≤ z16 by omega) (show z16 ≤ 2147483647 by omega)) (fz_fr_up hf13 rfl) (fun H18 hI19 hf20 e21 => ?_)
      clear e21
      refine fz_aload_n kX11_loudness rfl rfl ?_
      refine fz_getR (t := 75) kX11_loudness rfl rfl ?_
      refine fz_iconst ⟨by decide, by decide⟩ kX11_loudness rfl ?_
      refine fz_aload_n kX11_loudness rfl rfl ?_
      refine fz_getR (t := 63) kX11_loudness rfl rfl ?_
      refine fz_iload_n kX11_loudness rfl rfl ?_
      refine fz_ialdV (n := 11) (v := h 63 (d.toNat)) kX11_loudness rfl rfl (by omega) (by omega) (hf20 63 _ rfl) ?_
      have b22 : 0 ≤ h 63 (d.toNat) ∧ h 63 (d.toNat) ≤ 4 := hI.1 63 _
      refine fz_iast (n := 6) kX11_loudness rfl rfl (by omega) (by omega) ?_
      refine fz_nmu (S := [(74, 99999), (75, 99999)]) (h0 := h) (fz_Iv_up hI19 (by decide) (show (-2147483648) ≤ (h 63 (d.toNat)) by omega) (show (h 63 (d.toNat)) ≤ 2147483647 by omega)) (fz_fr_up hf20 rfl) (fun H23 hI24 hf25 e26 => ?_)
      clear e26
      refine fz_aload_n kX11_loudness rfl rfl ?_
      refine fz_getR (t := 75) kX11_loudness rfl rfl ?_
      refine fz_iconst ⟨by decide, by decide⟩ kX11_loudness rfl ?_
      refine fz_iload_n kX11_loudness rfl rfl ?_
      refine fz_iast (n := 6) kX11_loudness rfl rfl (by omega) (by omega) ?_
      refine fz_nmu (S := [(74, 99999), (75, 99999)]) (h0 := h) (fz_Iv_up hI24 (by decide) (show (-2147483648) ≤ t by omega) (show t ≤ 2147483647 by omega)) (fz_fr_up hf25 rfl) (fun H27 hI28 hf29 e30 => ?_)
      clear e30
      refine fz_aload_n kX11_loudness rfl rfl ?_
      refine fz_getR (t := 75) kX11_loudness rfl rfl ?_
      refine fz_iconst ⟨by decide, by decide⟩ kX11_loudness rfl ?_
      refine fz_iload kX11_loudness rfl rfl ?_
      refine fz_iast (n := 6) kX11_loudness rfl rfl (by omega) (by omega) ?_
      refine fz_nmu (S := [(74, 99999), (75, 99999)]) (h0 := h) (fz_Iv_up hI28 (by decide) (show (-2147483648) ≤ pe by omega) (show pe ≤ 2147483647 by omega)) (fz_fr_up hf29 rfl) (fun H31 hI32 hf33 e34 => ?_)
      clear e34
      refine fz_aload_n kX11_loudness rfl rfl ?_
      refine fz_getV (v := h 53 18) kX11_loudness rfl rfl (hf33 53 18 rfl) ?_
      have b35 : 0 ≤ h 53 18 ∧ h 53 18 ≤ 1 := hI.1 53 _
      refine fz_if_ne (tgt := 131) kX11_loudness rfl (by decide) (fun c36 => ?_) (fun c36 => ?_)
      · refine fz_iconst ⟨by decide, by decide⟩ kX11_loudness rfl ?_
        refine fz_istore (ls' := [(6, fz_i 0), (5, fz_i (h 88 (((8 * d) + t).toNat))), (0, fz_r 53), (1, fz_i d), (2, fz_i t), (3, fz_i hr), (4, fz_i pe)]) kX11_loudness rfl (by decide) rfl ?_
        have lp42 : ∀ (n41 : Nat) (x37 : Int) (H38 : fz_H), fz_Iv H38 → fz_fr [(74, 99999), (75, 99999)] h H38 → (0 ≤ x37 ∧ x37 ≤ 2147483647) → ((h 53 19) - x37).toNat < n41 → fz_R 2 mX11_loudness 134 [(6, fz_i x37), (5, fz_i (h 88 (((8 * d) + t).toNat))), (0, fz_r 53), (1, fz_i d), (2, fz_i t), (3, fz_i hr), (4, fz_i pe)] [] H38 (qX11_loudness h d t hr pe) := by
          intro n41
          induction n41 with
          | zero => intro x37 H38 hI39 hf40 hv45 hm44; exact absurd hm44 (by omega)
          | succ n41 ih43 =>
            intro x37 H38 hI39 hf40 hv45 hm44
            refine fz_iload kX11_loudness rfl rfl ?_
            refine fz_aload_n kX11_loudness rfl rfl ?_
            refine fz_getV (v := h 53 19) kX11_loudness rfl rfl (hf40 53 19 rfl) ?_
            have b46 : 0 ≤ h 53 19 ∧ h 53 19 ≤ 60 := hI.1 53 _
            refine fz_icmp_ge (tgt := 218) kX11_loudness rfl (by decide) (fun c47 => ?_) (fun c47 => ?_)
            · refine fz_iconst ⟨by decide, by decide⟩ kX11_loudness rfl ?_
              exact fz_iret kX11_loudness rfl rfl (fun _ => ⟨hI39, hf40, _, rfl, (by omega)⟩)
            · refine fz_aload_n kX11_loudness rfl rfl ?_
              refine fz_getR (t := 67) kX11_loudness rfl rfl ?_
              refine fz_iload kX11_loudness rfl rfl ?_
              refine fz_ialdV (n := 60) (v := h 67 (x37.toNat)) kX11_loudness rfl rfl (by omega) (by omega) (hf40 67 _ rfl) ?_
              have b48 : 0 ≤ h 67 (x37.toNat) ∧ h 67 (x37.toNat) ≤ 200 := hI.1 67 _
              refine fz_aload_n kX11_loudness rfl rfl ?_
              refine fz_getR (t := 66) kX11_loudness rfl rfl ?_
              refine fz_iload kX11_loudness rfl rfl ?_
              refine fz_ialdV (n := 60) (v := h 66 (x37.toNat)) kX11_loudness rfl rfl (by omega) (by omega) (hf40 66 _ rfl) ?_
              have b49 : 0 ≤ h 66 (x37.toNat) ∧ h 66 (x37.toNat) ≤ 200 := hI.1 66 _
              refine fz_icmp_le (tgt := 184) kX11_loudness rfl (by decide) (fun c50 => ?_) (fun c50 => ?_)
              · refine fz_iconst ⟨by decide, by decide⟩ kX11_loudness rfl ?_
                refine fz_bipush ⟨by decide, by decide⟩ kX11_loudness rfl ?_
                refine fz_aload_n kX11_loudness rfl rfl ?_
                refine fz_aload_n kX11_loudness rfl rfl ?_
                refine fz_getR (t := 67) kX11_loudness rfl rfl ?_
                refine fz_iload kX11_loudness rfl rfl ?_
                refine fz_ialdV (n := 60) (v := h 67 (x37.toNat)) kX11_loudness rfl rfl (by omega) (by omega) (hf40 67 _ rfl) ?_
                refine fz_aload_n kX11_loudness rfl rfl ?_
                refine fz_getR (t := 68) kX11_loudness rfl rfl ?_
                refine fz_iload kX11_loudness rfl rfl ?_
                refine fz_ialdV (n := 60) (v := h 68 (x37.toNat)) kX11_loudness rfl rfl (by omega) (by omega) (hf40 68 _ rfl) ?_
                have b51 : 0 ≤ h 68 (x37.toNat) ∧ h 68 (x37.toNat) ≤ 200 := hI.1 68 _
                refine fz_callV (d' := 1) (M' := mX11_worked) (As := [fz_i (h 67 (x37.toNat)), fz_i (h 68 (x37.toNat))]) (st := [fz_i 99, fz_i 0]) kX11_loudness rfl rfl vX11_worked rfl rfl rfl rfl (Nat.le_of_ble_eq_true rfl) (Nat.le_of_ble_eq_true rfl) (by decide) (sX11_worked H38 hI39 (h 67 (x37.toNat)) (h 68 (x37.toNat)) ) (fun H52 r53 q54 o55 => ?_)
                obtain ⟨hI56, hf57, y59, rfl, f58⟩ := q54
                clear o55
                have hf60 := fz_fr_tr hf40 hf57 (show fz_su [(74, 99999)] [(74, 99999), (75, 99999)] = true from rfl)
                refine fz_min kX11_loudness rfl rfl fz_sMn fz_iMm fz_cMn (by decide) (Nat.le_of_ble_eq_true rfl) ?_
                refine fz_max kX11_loudness rfl rfl fz_sMx fz_iMm fz_cMx (by decide) (Nat.le_of_ble_eq_true rfl) ?_
                exact fz_iret kX11_loudness rfl rfl (fun _ => ⟨hI56, hf60, _, rfl, (by omega)⟩)
              · refine fz_aload_n kX11_loudness rfl rfl ?_
                refine fz_aload_n kX11_loudness rfl rfl ?_
                refine fz_getR (t := 66) kX11_loudness rfl rfl ?_
                refine fz_iload kX11_loudness rfl rfl ?_
                refine fz_ialdV (n := 60) (v := h 66 (x37.toNat)) kX11_loudness rfl rfl (by omega) (by omega) (hf40 66 _ rfl) ?_
                refine fz_aload_n kX11_loudness rfl rfl ?_
                refine fz_getR (t := 67) kX11_loudness rfl rfl ?_
                refine fz_iload kX11_loudness rfl rfl ?_
                refine fz_ialdV (n := 60) (v := h 67 (x37.toNat)) kX11_loudness rfl rfl (by omega) (by omega) (hf40 67 _ rfl) ?_
                refine fz_callV (d' := 1) (M' := mX11_worked) (As := [fz_i (h 66 (x37.toNat)), fz_i (h 67 (x37.toNat))]) (st := []) kX11_loudness rfl rfl vX11_worked rfl rfl rfl rfl (Nat.le_of_ble_eq_true rfl) (Nat.le_of_ble_eq_true rfl) (by decide) (sX11_worked H38 hI39 (h 66 (x37.toNat)) (h 67 (x37.toNat)) ) (fun H61 r62 q63 o64 => ?_)
                obtain ⟨hI65, hf66, y68, rfl, f67⟩ := q63
                clear o64
                have hf69 := fz_fr_tr hf40 hf66 (show fz_su [(74, 99999)] [(74, 99999), (75, 99999)] = true from rfl)
                refine fz_if_ne (tgt := 184) kX11_loudness rfl (by decide) (fun c70 => ?_) (fun c70 => ?_)
                · refine fz_iconst ⟨by decide, by decide⟩ kX11_loudness rfl ?_
                  refine fz_bipush ⟨by decide, by decide⟩ kX11_loudness rfl ?_
                  refine fz_aload_n kX11_loudness rfl rfl ?_
                  refine fz_aload_n kX11_loudness rfl rfl ?_
                  refine fz_getR (t := 67) kX11_loudness rfl rfl ?_
                  refine fz_iload kX11_loudness rfl rfl ?_
                  refine fz_ialdV (n := 60) (v := h 67 (x37.toNat)) kX11_loudness rfl rfl (by omega) (by omega) (hf69 67 _ rfl) ?_
                  refine fz_aload_n kX11_loudness rfl rfl ?_
                  refine fz_getR (t := 68) kX11_loudness rfl rfl ?_
                  refine fz_iload kX11_loudness rfl rfl ?_
                  refine fz_ialdV (n := 60) (v := h 68 (x37.toNat)) kX11_loudness rfl rfl (by omega) (by omega) (hf69 68 _ rfl) ?_
                  have b71 : 0 ≤ h 68 (x37.toNat) ∧ h 68 (x37.toNat) ≤ 200 := hI.1 68 _
                  refine fz_callV (d' := 1) (M' := mX11_worked) (As := [fz_i (h 67 (x37.toNat)), fz_i (h 68 (x37.toNat))]) (st := [fz_i 99, fz_i 0]) kX11_loudness rfl rfl vX11_worked rfl rfl rfl rfl (Nat.le_of_ble_eq_true rfl) (Nat.le_of_ble_eq_true rfl) (by decide) (sX11_worked H61 hI65 (h 67 (x37.toNat)) (h 68 (x37.toNat)) ) (fun H72 r73 q74 o75 => ?_)
                  obtain ⟨hI76, hf77, y79, rfl, f78⟩ := q74
                  clear o75
                  have hf80 := fz_fr_tr hf69 hf77 (show fz_su [(74, 99999)] [(74, 99999), (75, 99999)] = true from rfl)
                  refine fz_min kX11_loudness rfl rfl fz_sMn fz_iMm fz_cMn (by decide) (Nat.le_of_ble_eq_true rfl) ?_
                  refine fz_max kX11_loudness rfl rfl fz_sMx fz_iMm fz_cMx (by decide) (Nat.le_of_ble_eq_true rfl) ?_
                  exact fz_iret kX11_loudness rfl rfl (fun _ => ⟨hI76, hf80, _, rfl, (by omega)⟩)
                · refine fz_goto (tgt := 212) kX11_loudness rfl (by decide) ?_
                  refine fz_iincN (ls' := [(6, fz_i (x37 + 1)), (5, fz_i (h 88 (((8 * d) + t).toNat))), (0, fz_r 53), (1, fz_i d), (2, fz_i t), (3, fz_i hr), (4, fz_i pe)]) kX11_loudness rfl (by decide) rfl (by omega) rfl ?_
                  refine fz_goto (tgt := 134) kX11_loudness rfl (by decide) ?_
                  exact ih43 (x37 + 1) H61 hI65 hf69 (by omega) (by omega)
        exact lp42 _ 0 H31 hI32 hf33 (by omega) (Nat.lt_succ_self _)
      · refine fz_iconst ⟨by decide, by decide⟩ kX11_loudness rfl ?_
        refine fz_iconst ⟨by decide, by decide⟩ kX11_loudness rfl ?_
        refine fz_aload_n kX11_loudness rfl rfl ?_
        refine fz_getR (t := 75) kX11_loudness rfl rfl ?_
        refine fz_iconst ⟨by decide, by decide⟩ kX11_loudness rfl ?_
        obtain ⟨v81, e82⟩ : ∃ z, H31 75 (0) = z := ⟨_, rfl⟩
        refine fz_ialdV (n := 6) (v := v81) kX11_loudness rfl rfl (by omega) (by omega) e82 ?_
        have b83 : (-2147483648) ≤ v81 ∧ v81 ≤ 2147483647 := by rw [← e82]; exact hI32.1 75 _
        refine fz_imul kX11_loudness rfl ?_
        refine fz_nmw (fun z84 e85 => ?_)
        refine fz_aload_n kX11_loudness rfl rfl ?_
        refine fz_getR (t := 75) kX11_loudness rfl rfl ?_
        refine fz_iconst ⟨by decide, by decide⟩ kX11_loudness rfl ?_
        obtain ⟨v86, e87⟩ : ∃ z, H31 75 (1) = z := ⟨_, rfl⟩
        refine fz_ialdV (n := 6) (v := v86) kX11_loudness rfl rfl (by omega) (by omega) e87 ?_
        have b88 : (-2147483648) ≤ v86 ∧ v86 ≤ 2147483647 := by rw [← e87]; exact hI32.1 75 _
        refine fz_bipush ⟨by decide, by decide⟩ kX11_loudness rfl ?_
        refine fz_idivT kX11_loudness rfl (by decide) (by omega) (fun z89 r90 e91 e92 e93 e94 e95 e96 e97 => ?_)
        refine fz_isub kX11_loudness rfl ?_
        refine fz_nmw (fun z98 e99 => ?_)
        refine fz_aload_n kX11_loudness rfl rfl ?_
        refine fz_getR (t := 75) kX11_loudness rfl rfl ?_
        refine fz_iconst ⟨by decide, by decide⟩ kX11_loudness rfl ?_
        obtain ⟨v100, e101⟩ : ∃ z, H31 75 (2) = z := ⟨_, rfl⟩
        refine fz_ialdV (n := 6) (v := v100) kX11_loudness rfl rfl (by omega) (by omega) e101 ?_
        have b102 : (-2147483648) ≤ v100 ∧ v100 ≤ 2147483647 := by rw [← e101]; exact hI32.1 75 _
        refine fz_iconst ⟨by decide, by decide⟩ kX11_loudness rfl ?_
        refine fz_idivT kX11_loudness rfl (by decide) (by omega) (fun z103 r104 e105 e106 e107 e108 e109 e110 e111 => ?_)
        refine fz_isub kX11_loudness rfl ?_
        refine fz_nmw (fun z112 e113 => ?_)
        refine fz_max kX11_loudness rfl rfl fz_sMx fz_iMm fz_cMx (by decide) (Nat.le_of_ble_eq_true rfl) ?_
        exact fz_iret kX11_loudness rfl rfl (fun _ => ⟨hI32, hf33, _, rfl, (by omega)⟩)
    · refine fz_iconst ⟨by decide, by decide⟩ kX11_loudness rfl ?_
      exact fz_iret kX11_loudness rfl rfl (fun _ => ⟨hI, hf, _, rfl, (by omega)⟩)

abbrev qX11_loud (h : fz_H) (d th : Int) : fz_H → Option fz_V → Prop := fun h' r0 => fz_Iv h' ∧ fz_fr [(74, 99999), (75, 99999), (86, 99999), (87, 99999), (88, 99999)] h h' ∧ ∃ r : Int, r0 = some (fz_i r) ∧ ((-1) ≤ r ∧ r ≤ 2147483647)
set_option maxHeartbeats 1000000 in
set_option maxRecDepth 100000 in
theorem sX11_loud (h : fz_H) (hI : fz_Iv h) (d th : Int) : fz_R 3 mX11_loud 0 [(0, fz_r 53), (1, fz_i d), (2, fz_i th)] [] h (qX11_loud h d th) := by
  refine fz_knowl (fun hk => ?_)
  have hr_d : -2147483648 ≤ d ∧ d < 2147483648 := hk _ (List.Mem.tail _ (List.Mem.head _))
  have hr_th : -2147483648 ≤ th ∧ th < 2147483648 := hk _ (List.Mem.tail _ (List.Mem.tail _ (List.Mem.head _)))
  clear hk
  have hf : fz_fr [(74, 99999), (75, 99999), (86, 99999), (87, 99999), (88, 99999)] h h := fz_fr_rf
  refine fz_aload_n kX11_loud rfl rfl ?_
  refine fz_iload_n kX11_loud rfl rfl ?_
  have b1 : 0 ≤ h 53 10 ∧ h 53 10 ≤ 11 := hI.1 53 _
  refine fz_callV (d' := 1) (M' := mX11_isDeed) (As := [fz_i d]) (st := []) kX11_loud rfl rfl vX11_isDeed rfl rfl rfl rfl (Nat.le_of_ble_eq_true rfl) (Nat.le_of_ble_eq_true rfl) (by decide) (sX11_isDeed h hI d ) (fun H2 r3 q4 o5 => ?_)
  obtain ⟨e6, y7, rfl, p8⟩ := q4
  subst H2
  clear o5
  rcases p8 with ⟨rfl, c9⟩ | ⟨rfl, c9⟩
  · refine fz_if_eq (tgt := 16) kX11_loud rfl (by decide) (fun c10 => ?_) (fun c10 => ?_)
    · exfalso; omega
    · refine fz_aload_n kX11_loud rfl rfl ?_
      refine fz_iload_n kX11_loud rfl rfl ?_
      have b11 : 0 ≤ h 53 0 ∧ h 53 0 ≤ 8 := hI.1 53 _
      refine fz_callV (d' := 2) (M' := mX11_isWhen) (As := [fz_i th]) (st := []) kX11_loud rfl rfl vX11_isWhen rfl rfl rfl rfl (Nat.le_of_ble_eq_true rfl) (Nat.le_of_ble_eq_true rfl) (by decide) (sX11_isWhen h hI th ) (fun H12 r13 q14 o15 => ?_)
      obtain ⟨e16, y17, rfl, p18⟩ := q14
      subst H12
      clear o15
      rcases p18 with ⟨rfl, c19⟩ | ⟨rfl, c19⟩
      · refine fz_if_ne (tgt := 18) kX11_loud rfl (by decide) (fun c20 => ?_) (fun c20 => ?_)
        · refine fz_aload_n kX11_loud rfl rfl ?_
          refine fz_iload_n kX11_loud rfl rfl ?_
          refine fz_callV (d' := 2) (M' := mX11_hears) (As := [fz_i d]) (st := []) kX11_loud rfl rfl vX11_hears rfl rfl rfl rfl (Nat.le_of_ble_eq_true rfl) (Nat.le_of_ble_eq_true rfl) (by decide) (sX11_hears h hI d (by omega)) (fun H21 r22 q23 o24 => ?_)
          obtain ⟨hI25, hf26, rfl⟩ := q23
          clear o24
          have hf27 := fz_fr_tr hf hf26 (show fz_su [(86, 99999), (87, 99999), (88, 99999)] [(74, 99999), (75, 99999), (86, 99999), (87, 99999), (88, 99999)] = true from rfl)
          refine fz_aload_n kX11_loud rfl rfl ?_
          refine fz_iload_n kX11_loud rfl rfl ?_
          refine fz_iload_n kX11_loud rfl rfl ?_
          refine fz_sipush ⟨by decide, by decide⟩ kX11_loud rfl ?_
          refine fz_idivN kX11_loud rfl (by omega) (by omega) (by omega) ?_
          refine fz_iload_n kX11_loud rfl rfl ?_
          refine fz_sipush ⟨by decide, by decide⟩ kX11_loud rfl ?_
          refine fz_iremN kX11_loud rfl (by omega) (by omega) (by omega) ?_
          refine fz_aload_n kX11_loud rfl rfl ?_
          refine fz_getR (t := 60) kX11_loud rfl rfl ?_
          refine fz_iload_n kX11_loud rfl rfl ?_
          refine fz_ialdV (n := 11) (v := h 60 (d.toNat)) kX11_loud rfl rfl (by omega) (by omega) (hf27 60 _ rfl) ?_
          have b28 : (-2147483648) ≤ h 60 (d.toNat) ∧ h 60 (d.toNat) ≤ 2147483647 := hI.1 60 _
          refine fz_callV (d' := 2) (M' := mX11_loudness) (As := [fz_i d, fz_i (th / 1000), fz_i (th % 1000), fz_i (h 60 (d.toNat))]) (st := []) kX11_loud rfl rfl vX11_loudness rfl rfl rfl rfl (Nat.le_of_ble_eq_true rfl) (Nat.le_of_ble_eq_true rfl) (by decide) (sX11_loudness H21 hI25 d (th / 1000) (th % 1000) (h 60 (d.toNat)) (by omega) (by omega)) (fun H29 r30 q31 o32 => ?_)
          obtain ⟨hI33, hf34, y36, rfl, f35⟩ := q31
          clear o32
          have hf37 := fz_fr_tr hf27 hf34 (show fz_su [(74, 99999), (75, 99999)] [(74, 99999), (75, 99999), (86, 99999), (87, 99999), (88, 99999)] = true from rfl)
          exact fz_iret kX11_loud rfl rfl (fun _ => ⟨hI33, hf37, _, rfl, (by omega)⟩)
        · exfalso; omega
      · refine fz_if_ne (tgt := 18) kX11_loud rfl (by decide) (fun c38 => ?_) (fun c38 => ?_)
        · exfalso; omega
        · refine fz_iconst ⟨by decide, by decide⟩ kX11_loud rfl ?_
          exact fz_iret kX11_loud rfl rfl (fun _ => ⟨hI, hf, _, rfl, (by omega)⟩)
  · refine fz_if_eq (tgt := 16) kX11_loud rfl (by decide) (fun c39 => ?_) (fun c39 => ?_)
    · refine fz_iconst ⟨by decide, by decide⟩ kX11_loud rfl ?_
      exact fz_iret kX11_loud rfl rfl (fun _ => ⟨hI, hf, _, rfl, (by omega)⟩)
    · exfalso; omega

abbrev qX11_saidOf (h : fz_H) (pe mk t hr : Int) : fz_H → Option fz_V → Prop := fun h' r0 => fz_Iv h' ∧ fz_fr [(74, 99999), (75, 99999)] h h' ∧ ∃ r : Int, r0 = some (fz_i r) ∧ ((-2147483648) ≤ r ∧ r ≤ 2147483647)
set_option maxHeartbeats 1000000 in
set_option maxRecDepth 100000 in
theorem sX11_saidOf (h : fz_H) (hI : fz_Iv h) (pe mk t hr : Int) (hp0 : 0 ≤ t ∧ t ≤ 7) : fz_R 3 mX11_saidOf 0 [(0, fz_r 53), (1, fz_i pe), (2, fz_i mk), (3, fz_i t), (4, fz_i hr)] [] h (qX11_saidOf h pe mk t hr) := by
  refine fz_knowl (fun hk => ?_)
  have hr_pe : -2147483648 ≤ pe ∧ pe < 2147483648 := hk _ (List.Mem.tail _ (List.Mem.head _))
  have hr_mk : -2147483648 ≤ mk ∧ mk < 2147483648 := hk _ (List.Mem.tail _ (List.Mem.tail _ (List.Mem.head _)))
  have hr_t : -2147483648 ≤ t ∧ t < 2147483648 := hk _ (List.Mem.tail _ (List.Mem.tail _ (List.Mem.tail _ (List.Mem.head _))))
  have hr_hr : -2147483648 ≤ hr ∧ hr < 2147483648 := hk _ (List.Mem.tail _ (List.Mem.tail _ (List.Mem.tail _ (List.Mem.tail _ (List.Mem.head _)))))
  clear hk
  have hf : fz_fr [(74, 99999), (75, 99999)] h h := fz_fr_rf
  refine fz_iconst ⟨by decide, by decide⟩ kX11_saidOf rfl ?_
  refine fz_istore (ls' := [(5, fz_i 0), (0, fz_r 53), (1, fz_i pe), (2, fz_i mk), (3, fz_i t), (4, fz_i hr)]) kX11_saidOf rfl (by decide) rfl ?_
  refine fz_iconst ⟨by decide, by decide⟩ kX11_saidOf rfl ?_
  refine fz_istore (ls' := [(6, fz_i 0), (5, fz_i 0), (0, fz_r 53), (1, fz_i pe), (2, fz_i mk), (3, fz_i t), (4, fz_i hr)]) kX11_saidOf rfl (by decide) rfl ?_
  have lp7 : ∀ (n6 : Nat) (x1 : Int) (x2 : Int) (H3 : fz_H), fz_Iv H3 → fz_fr [(74, 99999), (75, 99999)] h H3 → (0 ≤ x1 ∧ x1 ≤ 2147483647) → ((-2147483648) ≤ x2 ∧ x2 ≤ 2147483647) → ((h 53 10) - x1).toNat < n6 → fz_R 3 mX11_saidOf 6 [(6, fz_i x1), (5, fz_i x2), (0, fz_r 53), (1, fz_i pe), (2, fz_i mk), (3, fz_i t), (4, fz_i hr)] [] H3 (qX11_saidOf h pe mk t hr) := by
    intro n6
    induction n6 with
    | zero => intro x1 x2 H3 hI4 hf5 hv10 hv11 hm9; exact absurd hm9 (by omega)
    | succ n6 ih8 =>
      intro x1 x2 H3 hI4 hf5 hv10 hv11 hm9
      refine fz_iload kX11_saidOf rfl rfl ?_
      refine fz_aload_n kX11_saidOf rfl rfl ?_
      refine fz_getV (v := h 53 10) kX11_saidOf rfl rfl (hf5 53 10 rfl) ?_
      have b12 : 0 ≤ h 53 10 ∧ h 53 10 ≤ 11 := hI.1 53 _
      refine fz_icmp_ge (tgt := 60) kX11_saidOf rfl (by decide) (fun c13 => ?_) (fun c13 => ?_)
      · refine fz_iload kX11_saidOf rfl rfl ?_
        exact fz_iret kX11_saidOf rfl rfl (fun _ => ⟨hI4, hf5, _, rfl, (by omega)⟩)
      · refine fz_aload_n kX11_saidOf rfl rfl ?_
        refine fz_getR (t := 60) kX11_saidOf rfl rfl ?_
        refine fz_iload kX11_saidOf rfl rfl ?_
        refine fz_ialdV (n := 11) (v := h 60 (x1.toNat)) kX11_saidOf rfl rfl (by omega) (by omega) (hf5 60 _ rfl) ?_
        have b14 : (-2147483648) ≤ h 60 (x1.toNat) ∧ h 60 (x1.toNat) ≤ 2147483647 := hI.1 60 _
        refine fz_iload_n kX11_saidOf rfl rfl ?_
        refine fz_icmp_ne (tgt := 54) kX11_saidOf rfl (by decide) (fun c15 => ?_) (fun c15 => ?_)
        · refine fz_iincN (ls' := [(6, fz_i (x1 + 1)), (5, fz_i x2), (0, fz_r 53), (1, fz_i pe), (2, fz_i mk), (3, fz_i t), (4, fz_i hr)]) kX11_saidOf rfl (by decide) rfl (by omega) rfl ?_
          refine fz_goto (tgt := 6) kX11_saidOf rfl (by decide) ?_
          exact ih8 (x1 + 1) x2 H3 hI4 hf5 (by omega) (by omega) (by omega)
        · refine fz_aload_n kX11_saidOf rfl rfl ?_
          refine fz_getR (t := 63) kX11_saidOf rfl rfl ?_
          refine fz_iload kX11_saidOf rfl rfl ?_
          refine fz_ialdV (n := 11) (v := h 63 (x1.toNat)) kX11_saidOf rfl rfl (by omega) (by omega) (hf5 63 _ rfl) ?_
          have b16 : 0 ≤ h 63 (x1.toNat) ∧ h 63 (x1.toNat) ≤ 4 := hI.1 63 _
          refine fz_iload_n kX11_saidOf rfl rfl ?_
          refine fz_icmp_ne (tgt := 54) kX11_saidOf rfl (by decide) (fun c17 => ?_) (fun c17 => ?_)
          · refine fz_iincN (ls' := [(6, fz_i (x1 + 1)), (5, fz_i x2), (0, fz_r 53), (1, fz_i pe), (2, fz_i mk), (3, fz_i t), (4, fz_i hr)]) kX11_saidOf rfl (by decide) rfl (by omega) rfl ?_
            refine fz_goto (tgt := 6) kX11_saidOf rfl (by decide) ?_
            exact ih8 (x1 + 1) x2 H3 hI4 hf5 (by omega) (by omega) (by omega)
          · refine fz_iload kX11_saidOf rfl rfl ?_
            refine fz_aload_n kX11_saidOf rfl rfl ?_
            refine fz_iload kX11_saidOf rfl rfl ?_
            refine fz_iload_n kX11_saidOf rfl rfl ?_
            refine fz_iload kX11_saidOf rfl rfl ?_
            refine fz_iload_n kX11_saidOf rfl rfl ?_
            refine fz_callV (d' := 2) (M' := mX11_loudness) (As := [fz_i x1, fz_i t, fz_i hr, fz_i pe]) (st := [fz_i x2]) kX11_saidOf rfl rfl vX11_loudness rfl rfl rfl rfl (Nat.le_of_ble_eq_true rfl) (Nat.le_of_ble_eq_true rfl) (by decide) (sX11_loudness H3 hI4 x1 t hr pe (by omega) (by omega)) (fun H18 r19 q20 o21 => ?_)
            obtain ⟨hI22, hf23, y25, rfl, f24⟩ := q20
            clear o21
            have hf26 := fz_fr_tr hf5 hf23 (show fz_su [(74, 99999), (75, 99999)] [(74, 99999), (75, 99999)] = true from rfl)
            refine fz_max kX11_saidOf rfl rfl fz_sMx fz_iMm fz_cMx (by decide) (Nat.le_of_ble_eq_true rfl) ?_
            refine fz_istore (ls' := [(5, fz_i (max x2 y25)), (6, fz_i x1), (0, fz_r 53), (1, fz_i pe), (2, fz_i mk), (3, fz_i t), (4, fz_i hr)]) kX11_saidOf rfl (by decide) rfl ?_
            refine fz_iincN (ls' := [(6, fz_i (x1 + 1)), (5, fz_i (max x2 y25)), (0, fz_r 53), (1, fz_i pe), (2, fz_i mk), (3, fz_i t), (4, fz_i hr)]) kX11_saidOf rfl (by decide) rfl (by omega) rfl ?_
            refine fz_goto (tgt := 6) kX11_saidOf rfl (by decide) ?_
            exact ih8 (x1 + 1) (max x2 y25) H18 hI22 hf26 (by omega) (by omega) (by omega)
  exact lp7 _ 0 0 h hI hf (by omega) (by omega) (Nat.lt_succ_self _)

abbrev qX11_said (h : fz_H) (pm th : Int) : fz_H → Option fz_V → Prop := fun h' r0 => fz_Iv h' ∧ fz_fr [(74, 99999), (75, 99999), (86, 99999), (87, 99999), (88, 99999)] h h' ∧ ∃ r : Int, r0 = some (fz_i r) ∧ ((-2147483648) ≤ r ∧ r ≤ 2147483647)
set_option maxHeartbeats 1000000 in
set_option maxRecDepth 100000 in
theorem sX11_said (h : fz_H) (hI : fz_Iv h) (pm th : Int) : fz_R 4 mX11_said 0 [(0, fz_r 53), (1, fz_i pm), (2, fz_i th)] [] h (qX11_said h pm th) := by
  refine fz_knowl (fun hk => ?_)
  have hr_pm : -2147483648 ≤ pm ∧ pm < 2147483648 := hk _ (List.Mem.tail _ (List.Mem.head _))
  have hr_th : -2147483648 ≤ th ∧ th < 2147483648 := hk _ (List.Mem.tail _ (List.Mem.tail _ (List.Mem.head _)))
  clear hk
  have hf : fz_fr [(74, 99999), (75, 99999), (86, 99999), (87, 99999), (88, 99999)] h h := fz_fr_rf
  refine fz_iload_n kX11_said rfl rfl ?_
  refine fz_callS (d' := 2) (M' := mX11_isMarked) (As := [fz_i pm]) (st := []) kX11_said rfl rfl vX11_isMarked rfl rfl (Nat.le_of_ble_eq_true rfl) (Nat.le_of_ble_eq_true rfl) (by decide) (sX11_isMarked h hI pm ) (fun H1 r2 q3 o4 => ?_)
  obtain ⟨e5, y6, rfl, p7⟩ := q3
  subst H1
  clear o4
  rcases p7 with ⟨rfl, c8⟩ | ⟨rfl, c8⟩
  · refine fz_if_eq (tgt := 15) kX11_said rfl (by decide) (fun c9 => ?_) (fun c9 => ?_)
    · exfalso; omega
    · refine fz_aload_n kX11_said rfl rfl ?_
      refine fz_iload_n kX11_said rfl rfl ?_
      have b10 : 0 ≤ h 53 0 ∧ h 53 0 ≤ 8 := hI.1 53 _
      refine fz_callV (d' := 2) (M' := mX11_isWhen) (As := [fz_i th]) (st := []) kX11_said rfl rfl vX11_isWhen rfl rfl rfl rfl (Nat.le_of_ble_eq_true rfl) (Nat.le_of_ble_eq_true rfl) (by decide) (sX11_isWhen h hI th ) (fun H11 r12 q13 o14 => ?_)
      obtain ⟨e15, y16, rfl, p17⟩ := q13
      subst H11
      clear o14
      rcases p17 with ⟨rfl, c18⟩ | ⟨rfl, c18⟩
      · refine fz_if_ne (tgt := 17) kX11_said rfl (by decide) (fun c19 => ?_) (fun c19 => ?_)
        · refine fz_aload_n kX11_said rfl rfl ?_
          refine fz_callV (d' := 3) (M' := mX11_allHear) (As := []) (st := []) kX11_said rfl rfl vX11_allHear rfl rfl rfl rfl (Nat.le_of_ble_eq_true rfl) (Nat.le_of_ble_eq_true rfl) (by decide) (sX11_allHear h hI  ) (fun H20 r21 q22 o23 => ?_)
          obtain ⟨hI24, hf25, rfl⟩ := q22
          clear o23
          have hf26 := fz_fr_tr hf hf25 (show fz_su [(86, 99999), (87, 99999), (88, 99999)] [(74, 99999), (75, 99999), (86, 99999), (87, 99999), (88, 99999)] = true from rfl)
          refine fz_aload_n kX11_said rfl rfl ?_
          refine fz_iload_n kX11_said rfl rfl ?_
          refine fz_bipush ⟨by decide, by decide⟩ kX11_said rfl ?_
          refine fz_idivN kX11_said rfl (by omega) (by omega) (by omega) ?_
          refine fz_iload_n kX11_said rfl rfl ?_
          refine fz_bipush ⟨by decide, by decide⟩ kX11_said rfl ?_
          refine fz_iremN kX11_said rfl (by omega) (by omega) (by omega) ?_
          refine fz_iload_n kX11_said rfl rfl ?_
          refine fz_sipush ⟨by decide, by decide⟩ kX11_said rfl ?_
          refine fz_idivN kX11_said rfl (by omega) (by omega) (by omega) ?_
          refine fz_iload_n kX11_said rfl rfl ?_
          refine fz_sipush ⟨by decide, by decide⟩ kX11_said rfl ?_
          refine fz_iremN kX11_said rfl (by omega) (by omega) (by omega) ?_
          refine fz_callV (d' := 3) (M' := mX11_saidOf) (As := [fz_i (pm / 10), fz_i (pm % 10), fz_i (th / 1000), fz_i (th % 1000)]) (st := []) kX11_said rfl rfl vX11_saidOf rfl rfl rfl rfl (Nat.le_of_ble_eq_true rfl) (Nat.le_of_ble_eq_true rfl) (by decide) (sX11_saidOf H20 hI24 (pm / 10) (pm % 10) (th / 1000) (th % 1000) (by omega)) (fun H27 r28 q29 o30 => ?_)
          obtain ⟨hI31, hf32, y34, rfl, f33⟩ := q29
          clear o30
          have hf35 := fz_fr_tr hf26 hf32 (show fz_su [(74, 99999), (75, 99999)] [(74, 99999), (75, 99999), (86, 99999), (87, 99999), (88, 99999)] = true from rfl)
          exact fz_iret kX11_said rfl rfl (fun _ => ⟨hI31, hf35, _, rfl, (by omega)⟩)
        · exfalso; omega
      · refine fz_if_ne (tgt := 17) kX11_said rfl (by decide) (fun c36 => ?_) (fun c36 => ?_)
        · exfalso; omega
        · refine fz_iconst ⟨by decide, by decide⟩ kX11_said rfl ?_
          exact fz_iret kX11_said rfl rfl (fun _ => ⟨hI, hf, _, rfl, (by omega)⟩)
  · refine fz_if_eq (tgt := 15) kX11_said rfl (by decide) (fun c37 => ?_) (fun c37 => ?_)
    · refine fz_iconst ⟨by decide, by decide⟩ kX11_said rfl ?_
      exact fz_iret kX11_said rfl rfl (fun _ => ⟨hI, hf, _, rfl, (by omega)⟩)
    · exfalso; omega

abbrev qX11_receivedIn (h : fz_H) (pe t hr : Int) : fz_H → Option fz_V → Prop := fun h' r0 => fz_Iv h' ∧ fz_fr [(74, 99999), (75, 99999)] h h' ∧ ∃ r : Int, r0 = some (fz_i r) ∧ ((-2147483648) ≤ r ∧ r ≤ 2147483647)
set_option maxHeartbeats 1000000 in
set_option maxRecDepth 100000 in
theorem sX11_receivedIn (h : fz_H) (hI : fz_Iv h) (pe t hr : Int) (hp0 : 0 ≤ t ∧ t ≤ 7) : fz_R 4 mX11_receivedIn 0 [(0, fz_r 53), (1, fz_i pe), (2, fz_i t), (3, fz_i hr)] [] h (qX11_receivedIn h pe t hr) := by
  refine fz_knowl (fun hk => ?_)
  have hr_pe : -2147483648 ≤ pe ∧ pe < 2147483648 := hk _ (List.Mem.tail _ (List.Mem.head _))
  have hr_t : -2147483648 ≤ t ∧ t < 2147483648 := hk _ (List.Mem.tail _ (List.Mem.tail _ (List.Mem.head _)))
  have hr_hr : -2147483648 ≤ hr ∧ hr < 2147483648 := hk _ (List.Mem.tail _ (List.Mem.tail _ (List.Mem.tail _ (List.Mem.head _))))
  clear hk
  have hf : fz_fr [(74, 99999), (75, 99999)] h h := fz_fr_rf
  refine fz_iconst ⟨by decide, by decide⟩ kX11_receivedIn rfl ?_
  refine fz_istore (ls' := [(4, fz_i 0), (0, fz_r 53), (1, fz_i pe), (2, fz_i t), (3, fz_i hr)]) kX11_receivedIn rfl (by decide) rfl ?_
  refine fz_iconst ⟨by decide, by decide⟩ kX11_receivedIn rfl ?_
  refine fz_istore (ls' := [(5, fz_i 0), (4, fz_i 0), (0, fz_r 53), (1, fz_i pe), (2, fz_i t), (3, fz_i hr)]) kX11_receivedIn rfl (by decide) rfl ?_
  have lp7 : ∀ (n6 : Nat) (x1 : Int) (x2 : Int) (H3 : fz_H), fz_Iv H3 → fz_fr [(74, 99999), (75, 99999)] h H3 → (0 ≤ x1 ∧ x1 ≤ 2147483647) → ((-2147483648) ≤ x2 ∧ x2 ≤ 2147483647) → (5 - x1).toNat < n6 → fz_R 4 mX11_receivedIn 6 [(5, fz_i x1), (4, fz_i x2), (0, fz_r 53), (1, fz_i pe), (2, fz_i t), (3, fz_i hr)] [] H3 (qX11_receivedIn h pe t hr) := by
    intro n6
    induction n6 with
    | zero => intro x1 x2 H3 hI4 hf5 hv10 hv11 hm9; exact absurd hm9 (by omega)
    | succ n6 ih8 =>
      intro x1 x2 H3 hI4 hf5 hv10 hv11 hm9
      refine fz_iload kX11_receivedIn rfl rfl ?_
      refine fz_iconst ⟨by decide, by decide⟩ kX11_receivedIn rfl ?_
      refine fz_icmp_ge (tgt := 40) kX11_receivedIn rfl (by decide) (fun c12 => ?_) (fun c12 => ?_)
      · refine fz_iload kX11_receivedIn rfl rfl ?_
        exact fz_iret kX11_receivedIn rfl rfl (fun _ => ⟨hI4, hf5, _, rfl, (by omega)⟩)
      · refine fz_iload kX11_receivedIn rfl rfl ?_
        refine fz_aload_n kX11_receivedIn rfl rfl ?_
        refine fz_iload_n kX11_receivedIn rfl rfl ?_
        refine fz_iload kX11_receivedIn rfl rfl ?_
        refine fz_iload_n kX11_receivedIn rfl rfl ?_
        refine fz_iload_n kX11_receivedIn rfl rfl ?_
        refine fz_callV (d' := 3) (M' := mX11_saidOf) (As := [fz_i pe, fz_i x1, fz_i t, fz_i hr]) (st := [fz_i x2]) kX11_receivedIn rfl rfl vX11_saidOf rfl rfl rfl rfl (Nat.le_of_ble_eq_true rfl) (Nat.le_of_ble_eq_true rfl) (by decide) (sX11_saidOf H3 hI4 pe x1 t hr (by omega)) (fun H13 r14 q15 o16 => ?_)
        obtain ⟨hI17, hf18, y20, rfl, f19⟩ := q15
        clear o16
        have hf21 := fz_fr_tr hf5 hf18 (show fz_su [(74, 99999), (75, 99999)] [(74, 99999), (75, 99999)] = true from rfl)
        refine fz_aload_n kX11_receivedIn rfl rfl ?_
        refine fz_getR (t := 59) kX11_receivedIn rfl rfl ?_
        refine fz_iload kX11_receivedIn rfl rfl ?_
        refine fz_ialdV (n := 5) (v := h 59 (x1.toNat)) kX11_receivedIn rfl rfl (by omega) (by omega) (hf21 59 _ rfl) ?_
        have b22 : (-9) ≤ h 59 (x1.toNat) ∧ h 59 (x1.toNat) ≤ 9 := hI.1 59 _
        refine fz_imul kX11_receivedIn rfl ?_
        refine fz_nmw (fun z23 e24 => ?_)
        refine fz_iadd kX11_receivedIn rfl ?_
        refine fz_nmw (fun z25 e26 => ?_)
        refine fz_istore (ls' := [(4, fz_i z25), (5, fz_i x1), (0, fz_r 53), (1, fz_i pe), (2, fz_i t), (3, fz_i hr)]) kX11_receivedIn rfl (by decide) rfl ?_
        refine fz_iincN (ls' := [(5, fz_i (x1 + 1)), (4, fz_i z25), (0, fz_r 53), (1, fz_i pe), (2, fz_i t), (3, fz_i hr)]) kX11_receivedIn rfl (by decide) rfl (by omega) rfl ?_
        refine fz_goto (tgt := 6) kX11_receivedIn rfl (by decide) ?_
        exact ih8 (x1 + 1) z25 H13 hI17 hf21 (by omega) (by omega) (by omega)
  exact lp7 _ 0 0 h hI hf (by omega) (by omega) (Nat.lt_succ_self _)

abbrev qX11_isArrested (h : fz_H) (pe t hr : Int) : fz_H → Option fz_V → Prop := fun h' r0 => fz_Iv h' ∧ fz_fr [(74, 99999), (75, 99999)] h h' ∧ ∃ r : Int, r0 = some (fz_i r) ∧ (r = 0 ∨ r = 1)
set_option maxHeartbeats 1000000 in
set_option maxRecDepth 100000 in
theorem sX11_isArrested (h : fz_H) (hI : fz_Iv h) (pe t hr : Int) (hp0 : 0 ≤ t ∧ t ≤ 7) : fz_R 4 mX11_isArrested 0 [(0, fz_r 53), (1, fz_i pe), (2, fz_i t), (3, fz_i hr)] [] h (qX11_isArrested h pe t hr) := by
  refine fz_knowl (fun hk => ?_)
  have hr_pe : -2147483648 ≤ pe ∧ pe < 2147483648 := hk _ (List.Mem.tail _ (List.Mem.head _))
  have hr_t : -2147483648 ≤ t ∧ t < 2147483648 := hk _ (List.Mem.tail _ (List.Mem.tail _ (List.Mem.head _)))
  have hr_hr : -2147483648 ≤ hr ∧ hr < 2147483648 := hk _ (List.Mem.tail _ (List.Mem.tail _ (List.Mem.tail _ (List.Mem.head _))))
  clear hk
  have hf : fz_fr [(74, 99999), (75, 99999)] h h := fz_fr_rf
  refine fz_aload_n kX11_isArrested rfl rfl ?_
  refine fz_iload_n kX11_isArrested rfl rfl ?_
  refine fz_iconst ⟨by decide, by decide⟩ kX11_isArrested rfl ?_
  refine fz_iload_n kX11_isArrested rfl rfl ?_
  refine fz_iload_n kX11_isArrested rfl rfl ?_
  refine fz_callV (d' := 3) (M' := mX11_saidOf) (As := [fz_i pe, fz_i 1, fz_i t, fz_i hr]) (st := []) kX11_isArrested rfl rfl vX11_saidOf rfl rfl rfl rfl (Nat.le_of_ble_eq_true rfl) (Nat.le_of_ble_eq_true rfl) (by decide) (sX11_saidOf h hI pe 1 t hr (by omega)) (fun H1 r2 q3 o4 => ?_)
  obtain ⟨hI5, hf6, y8, rfl, f7⟩ := q3
  clear o4
  have hf9 := fz_fr_tr hf hf6 (show fz_su [(74, 99999), (75, 99999)] [(74, 99999), (75, 99999)] = true from rfl)
  refine fz_istore (ls' := [(4, fz_i y8), (0, fz_r 53), (1, fz_i pe), (2, fz_i t), (3, fz_i hr)]) kX11_isArrested rfl (by decide) rfl ?_
  refine fz_iload kX11_isArrested rfl rfl ?_
  refine fz_if_le (tgt := 28) kX11_isArrested rfl (by decide) (fun c10 => ?_) (fun c10 => ?_)
  · refine fz_iconst ⟨by decide, by decide⟩ kX11_isArrested rfl ?_
    exact fz_zret kX11_isArrested rfl rfl (by omega) ⟨hI5, hf9, _, rfl, (by omega)⟩
  · refine fz_iload kX11_isArrested rfl rfl ?_
    refine fz_aload_n kX11_isArrested rfl rfl ?_
    refine fz_getV (v := h 53 8) kX11_isArrested rfl rfl (hf9 53 8 rfl) ?_
    have b11 : 0 ≤ h 53 8 ∧ h 53 8 ≤ 99 := hI.1 53 _
    refine fz_icmp_lt (tgt := 28) kX11_isArrested rfl (by decide) (fun c12 => ?_) (fun c12 => ?_)
    · refine fz_iconst ⟨by decide, by decide⟩ kX11_isArrested rfl ?_
      exact fz_zret kX11_isArrested rfl rfl (by omega) ⟨hI5, hf9, _, rfl, (by omega)⟩
    · refine fz_iconst ⟨by decide, by decide⟩ kX11_isArrested rfl ?_
      refine fz_goto (tgt := 29) kX11_isArrested rfl (by decide) ?_
      exact fz_zret kX11_isArrested rfl rfl (by omega) ⟨hI5, hf9, _, rfl, (by omega)⟩

abbrev qX11_marksIn (h : fz_H) (pe t hr : Int) : fz_H → Option fz_V → Prop := fun h' r0 => fz_Iv h' ∧ fz_fr [(74, 99999), (75, 99999)] h h' ∧ ∃ r : Int, r0 = some (fz_i r) ∧ (0 ≤ r ∧ r ≤ 5)
set_option maxHeartbeats 1000000 in
set_option maxRecDepth 100000 in
theorem sX11_marksIn (h : fz_H) (hI : fz_Iv h) (pe t hr : Int) (hp0 : 0 ≤ t ∧ t ≤ 7) : fz_R 4 mX11_marksIn 0 [(0, fz_r 53), (1, fz_i pe), (2, fz_i t), (3, fz_i hr)] [] h (qX11_marksIn h pe t hr) := by
  refine fz_knowl (fun hk => ?_)
  have hr_pe : -2147483648 ≤ pe ∧ pe < 2147483648 := hk _ (List.Mem.tail _ (List.Mem.head _))
  have hr_t : -2147483648 ≤ t ∧ t < 2147483648 := hk _ (List.Mem.tail _ (List.Mem.tail _ (List.Mem.head _)))
  have hr_hr : -2147483648 ≤ hr ∧ hr < 2147483648 := hk _ (List.Mem.tail _ (List.Mem.tail _ (List.Mem.tail _ (List.Mem.head _))))
  clear hk
  have hf : fz_fr [(74, 99999), (75, 99999)] h h := fz_fr_rf
  refine fz_iconst ⟨by decide, by decide⟩ kX11_marksIn rfl ?_
  refine fz_istore (ls' := [(4, fz_i 0), (0, fz_r 53), (1, fz_i pe), (2, fz_i t), (3, fz_i hr)]) kX11_marksIn rfl (by decide) rfl ?_
  refine fz_iconst ⟨by decide, by decide⟩ kX11_marksIn rfl ?_
  refine fz_istore (ls' := [(5, fz_i 0), (4, fz_i 0), (0, fz_r 53), (1, fz_i pe), (2, fz_i t), (3, fz_i hr)]) kX11_marksIn rfl (by decide) rfl ?_
  have lp7 : ∀ (n6 : Nat) (x1 : Int) (x2 : Int) (H3 : fz_H), fz_Iv H3 → fz_fr [(74, 99999), (75, 99999)] h H3 → (0 ≤ x1 ∧ x1 ≤ 2147483647) → (0 ≤ x2 ∧ x2 ≤ 5) → (x2 ≤ x1) → (5 - x1).toNat < n6 → fz_R 4 mX11_marksIn 6 [(5, fz_i x1), (4, fz_i x2), (0, fz_r 53), (1, fz_i pe), (2, fz_i t), (3, fz_i hr)] [] H3 (qX11_marksIn h pe t hr) := by
    intro n6
    induction n6 with
    | zero => intro x1 x2 H3 hI4 hf5 hv10 hv11 hv12 hm9; exact absurd hm9 (by omega)
    | succ n6 ih8 =>
      intro x1 x2 H3 hI4 hf5 hv10 hv11 hv12 hm9
      refine fz_iload kX11_marksIn rfl rfl ?_
      refine fz_iconst ⟨by decide, by decide⟩ kX11_marksIn rfl ?_
      refine fz_icmp_ge (tgt := 33) kX11_marksIn rfl (by decide) (fun c13 => ?_) (fun c13 => ?_)
      · refine fz_iload kX11_marksIn rfl rfl ?_
        exact fz_iret kX11_marksIn rfl rfl (fun _ => ⟨hI4, hf5, _, rfl, (by omega)⟩)
      · refine fz_aload_n kX11_marksIn rfl rfl ?_
        refine fz_iload_n kX11_marksIn rfl rfl ?_
        refine fz_iload kX11_marksIn rfl rfl ?_
        refine fz_iload_n kX11_marksIn rfl rfl ?_
        refine fz_iload_n kX11_marksIn rfl rfl ?_
        refine fz_callV (d' := 3) (M' := mX11_saidOf) (As := [fz_i pe, fz_i x1, fz_i t, fz_i hr]) (st := []) kX11_marksIn rfl rfl vX11_saidOf rfl rfl rfl rfl (Nat.le_of_ble_eq_true rfl) (Nat.le_of_ble_eq_true rfl) (by decide) (sX11_saidOf H3 hI4 pe x1 t hr (by omega)) (fun H14 r15 q16 o17 => ?_)
        obtain ⟨hI18, hf19, y21, rfl, f20⟩ := q16
        clear o17
        have hf22 := fz_fr_tr hf5 hf19 (show fz_su [(74, 99999), (75, 99999)] [(74, 99999), (75, 99999)] = true from rfl)
        refine fz_if_le (tgt := 27) kX11_marksIn rfl (by decide) (fun c23 => ?_) (fun c23 => ?_)
        · refine fz_iincN (ls' := [(5, fz_i (x1 + 1)), (4, fz_i x2), (0, fz_r 53), (1, fz_i pe), (2, fz_i t), (3, fz_i hr)]) kX11_marksIn rfl (by decide) rfl (by omega) rfl ?_
          refine fz_goto (tgt := 6) kX11_marksIn rfl (by decide) ?_
          exact ih8 (x1 + 1) x2 H14 hI18 hf22 (by omega) (by omega) (by omega) (by omega)
        · refine fz_iincN (ls' := [(4, fz_i (x2 + 1)), (5, fz_i x1), (0, fz_r 53), (1, fz_i pe), (2, fz_i t), (3, fz_i hr)]) kX11_marksIn rfl (by decide) rfl (by omega) rfl ?_
          refine fz_iincN (ls' := [(5, fz_i (x1 + 1)), (4, fz_i (x2 + 1)), (0, fz_r 53), (1, fz_i pe), (2, fz_i t), (3, fz_i hr)]) kX11_marksIn rfl (by decide) rfl (by omega) rfl ?_
          refine fz_goto (tgt := 6) kX11_marksIn rfl (by decide) ?_
          exact ih8 (x1 + 1) (x2 + 1) H14 hI18 hf22 (by omega) (by omega) (by omega) (by omega)
  exact lp7 _ 0 0 h hI hf (by omega) (by omega) (by omega) (Nat.lt_succ_self _)

abbrev qX11_loudestIn (h : fz_H) (pe t hr : Int) : fz_H → Option fz_V → Prop := fun h' r0 => fz_Iv h' ∧ fz_fr [(74, 99999), (75, 99999)] h h' ∧ ∃ r : Int, r0 = some (fz_i r) ∧ ((-2147483648) ≤ r ∧ r ≤ 2147483647)
set_option maxHeartbeats 1000000 in
set_option maxRecDepth 100000 in
theorem sX11_loudestIn (h : fz_H) (hI : fz_Iv h) (pe t hr : Int) (hp0 : 0 ≤ t ∧ t ≤ 7) : fz_R 4 mX11_loudestIn 0 [(0, fz_r 53), (1, fz_i pe), (2, fz_i t), (3, fz_i hr)] [] h (qX11_loudestIn h pe t hr) := by
  refine fz_knowl (fun hk => ?_)
  have hr_pe : -2147483648 ≤ pe ∧ pe < 2147483648 := hk _ (List.Mem.tail _ (List.Mem.head _))
  have hr_t : -2147483648 ≤ t ∧ t < 2147483648 := hk _ (List.Mem.tail _ (List.Mem.tail _ (List.Mem.head _)))
  have hr_hr : -2147483648 ≤ hr ∧ hr < 2147483648 := hk _ (List.Mem.tail _ (List.Mem.tail _ (List.Mem.tail _ (List.Mem.head _))))
  clear hk
  have hf : fz_fr [(74, 99999), (75, 99999)] h h := fz_fr_rf
  refine fz_bipush ⟨by decide, by decide⟩ kX11_loudestIn rfl ?_
  refine fz_istore (ls' := [(4, fz_i (-2)), (0, fz_r 53), (1, fz_i pe), (2, fz_i t), (3, fz_i hr)]) kX11_loudestIn rfl (by decide) rfl ?_
  refine fz_iconst ⟨by decide, by decide⟩ kX11_loudestIn rfl ?_
  refine fz_istore (ls' := [(5, fz_i 0), (4, fz_i (-2)), (0, fz_r 53), (1, fz_i pe), (2, fz_i t), (3, fz_i hr)]) kX11_loudestIn rfl (by decide) rfl ?_
  refine fz_iconst ⟨by decide, by decide⟩ kX11_loudestIn rfl ?_
  refine fz_istore (ls' := [(6, fz_i 0), (5, fz_i 0), (4, fz_i (-2)), (0, fz_r 53), (1, fz_i pe), (2, fz_i t), (3, fz_i hr)]) kX11_loudestIn rfl (by decide) rfl ?_
  have lp8 : ∀ (n7 : Nat) (x1 : Int) (x2 : Int) (x3 : Int) (H4 : fz_H), fz_Iv H4 → fz_fr [(74, 99999), (75, 99999)] h H4 → (0 ≤ x1 ∧ x1 ≤ 2147483647) → ((-2147483648) ≤ x2 ∧ x2 ≤ 2147483647) → ((-2147483648) ≤ x3 ∧ x3 ≤ 2147483647) → (5 - x1).toNat < n7 → fz_R 4 mX11_loudestIn 10 [(6, fz_i x1), (5, fz_i x2), (4, fz_i x3), (0, fz_r 53), (1, fz_i pe), (2, fz_i t), (3, fz_i hr)] [] H4 (qX11_loudestIn h pe t hr) := by
    intro n7
    induction n7 with
    | zero => intro x1 x2 x3 H4 hI5 hf6 hv11 hv12 hv13 hm10; exact absurd hm10 (by omega)
    | succ n7 ih9 =>
      intro x1 x2 x3 H4 hI5 hf6 hv11 hv12 hv13 hm10
      refine fz_iload kX11_loudestIn rfl rfl ?_
      refine fz_iconst ⟨by decide, by decide⟩ kX11_loudestIn rfl ?_
      refine fz_icmp_ge (tgt := 51) kX11_loudestIn rfl (by decide) (fun c14 => ?_) (fun c14 => ?_)
      · refine fz_iload kX11_loudestIn rfl rfl ?_
        exact fz_iret kX11_loudestIn rfl rfl (fun _ => ⟨hI5, hf6, _, rfl, (by omega)⟩)
      · refine fz_aload_n kX11_loudestIn rfl rfl ?_
        refine fz_iload_n kX11_loudestIn rfl rfl ?_
        refine fz_iload kX11_loudestIn rfl rfl ?_
        refine fz_iload_n kX11_loudestIn rfl rfl ?_
        refine fz_iload_n kX11_loudestIn rfl rfl ?_
        refine fz_callV (d' := 3) (M' := mX11_saidOf) (As := [fz_i pe, fz_i x1, fz_i t, fz_i hr]) (st := []) kX11_loudestIn rfl rfl vX11_saidOf rfl rfl rfl rfl (Nat.le_of_ble_eq_true rfl) (Nat.le_of_ble_eq_true rfl) (by decide) (sX11_saidOf H4 hI5 pe x1 t hr (by omega)) (fun H15 r16 q17 o18 => ?_)
        obtain ⟨hI19, hf20, y22, rfl, f21⟩ := q17
        clear o18
        have hf23 := fz_fr_tr hf6 hf20 (show fz_su [(74, 99999), (75, 99999)] [(74, 99999), (75, 99999)] = true from rfl)
        refine fz_istore (ls' := [(7, fz_i y22), (6, fz_i x1), (5, fz_i x2), (4, fz_i x3), (0, fz_r 53), (1, fz_i pe), (2, fz_i t), (3, fz_i hr)]) kX11_loudestIn rfl (by decide) rfl ?_
        refine fz_iload kX11_loudestIn rfl rfl ?_
        refine fz_iload kX11_loudestIn rfl rfl ?_
        refine fz_icmp_gt (tgt := 37) kX11_loudestIn rfl (by decide) (fun c24 => ?_) (fun c24 => ?_)
        · refine fz_iload kX11_loudestIn rfl rfl ?_
          refine fz_istore (ls' := [(5, fz_i y22), (7, fz_i y22), (6, fz_i x1), (4, fz_i x3), (0, fz_r 53), (1, fz_i pe), (2, fz_i t), (3, fz_i hr)]) kX11_loudestIn rfl (by decide) rfl ?_
          refine fz_iload kX11_loudestIn rfl rfl ?_
          refine fz_istore (ls' := [(4, fz_i x1), (5, fz_i y22), (7, fz_i y22), (6, fz_i x1), (0, fz_r 53), (1, fz_i pe), (2, fz_i t), (3, fz_i hr)]) kX11_loudestIn rfl (by decide) rfl ?_
          refine fz_iincN (ls' := [(6, fz_i (x1 + 1)), (4, fz_i x1), (5, fz_i y22), (7, fz_i y22), (0, fz_r 53), (1, fz_i pe), (2, fz_i t), (3, fz_i hr)]) kX11_loudestIn rfl (by decide) rfl (by omega) rfl ?_
          refine fz_goto (tgt := 10) kX11_loudestIn rfl (by decide) ?_
          refine fz_sub (fz_pk_sub (ls' := [(6, fz_i (x1 + 1)), (5, fz_i y22), (4, fz_i x1), (0, fz_r 53), (1, fz_i pe), (2, fz_i t), (3, fz_i hr)]) [0, 2, 1, 4, 5, 6, 7] rfl) ?_
          exact ih9 (x1 + 1) y22 x1 H15 hI19 hf23 (by omega) (by omega) (by omega) (by omega)
        · refine fz_goto (tgt := 45) kX11_loudestIn rfl (by decide) ?_
          refine fz_iincN (ls' := [(6, fz_i (x1 + 1)), (7, fz_i y22), (5, fz_i x2), (4, fz_i x3), (0, fz_r 53), (1, fz_i pe), (2, fz_i t), (3, fz_i hr)]) kX11_loudestIn rfl (by decide) rfl (by omega) rfl ?_
          refine fz_goto (tgt := 10) kX11_loudestIn rfl (by decide) ?_
          refine fz_sub (fz_pk_sub (ls' := [(6, fz_i (x1 + 1)), (5, fz_i x2), (4, fz_i x3), (0, fz_r 53), (1, fz_i pe), (2, fz_i t), (3, fz_i hr)]) [0, 2, 3, 4, 5, 6, 7] rfl) ?_
          exact ih9 (x1 + 1) x2 x3 H15 hI19 hf23 (by omega) (by omega) (by omega) (by omega)
  exact lp8 _ 0 0 (-2) h hI hf (by omega) (by omega) (by omega) (Nat.lt_succ_self _)

abbrev qX11_received (h : fz_H) (on th wh : Int) : fz_H → Option fz_V → Prop := fun h' r0 => fz_Iv h' ∧ fz_fr [(74, 99999), (75, 99999), (86, 99999), (87, 99999), (88, 99999)] h h' ∧ ∃ r : Int, r0 = some (fz_i r) ∧ ((-2147483648) ≤ r ∧ r ≤ 2147483647)
set_option maxHeartbeats 1000000 in
set_option maxRecDepth 100000 in
theorem sX11_received (h : fz_H) (hI : fz_Iv h) (on th wh : Int) : fz_R 5 mX11_received 0 [(0, fz_r 53), (1, fz_i on), (2, fz_i th), (3, fz_i wh)] [] h (qX11_received h on th wh) := by
  refine fz_knowl (fun hk => ?_)
  have hr_on : -2147483648 ≤ on ∧ on < 2147483648 := hk _ (List.Mem.tail _ (List.Mem.head _))
  have hr_th : -2147483648 ≤ th ∧ th < 2147483648 := hk _ (List.Mem.tail _ (List.Mem.tail _ (List.Mem.head _)))
  have hr_wh : -2147483648 ≤ wh ∧ wh < 2147483648 := hk _ (List.Mem.tail _ (List.Mem.tail _ (List.Mem.tail _ (List.Mem.head _))))
  clear hk
  have hf : fz_fr [(74, 99999), (75, 99999), (86, 99999), (87, 99999), (88, 99999)] h h := fz_fr_rf
  refine fz_iload_n kX11_received rfl rfl ?_
  refine fz_callS (d' := 1) (M' := mX11_isPerson) (As := [fz_i on]) (st := []) kX11_received rfl rfl vX11_isPerson rfl rfl (Nat.le_of_ble_eq_true rfl) (Nat.le_of_ble_eq_true rfl) (by decide) (sX11_isPerson h hI on ) (fun H1 r2 q3 o4 => ?_)
  obtain ⟨e5, y6, rfl, p7⟩ := q3
  subst H1
  clear o4
  rcases p7 with ⟨rfl, c8⟩ | ⟨rfl, c8⟩
  · refine fz_if_eq (tgt := 15) kX11_received rfl (by decide) (fun c9 => ?_) (fun c9 => ?_)
    · exfalso; omega
    · refine fz_aload_n kX11_received rfl rfl ?_
      refine fz_iload_n kX11_received rfl rfl ?_
      have b10 : 0 ≤ h 53 0 ∧ h 53 0 ≤ 8 := hI.1 53 _
      refine fz_callV (d' := 2) (M' := mX11_isWhen) (As := [fz_i th]) (st := []) kX11_received rfl rfl vX11_isWhen rfl rfl rfl rfl (Nat.le_of_ble_eq_true rfl) (Nat.le_of_ble_eq_true rfl) (by decide) (sX11_isWhen h hI th ) (fun H11 r12 q13 o14 => ?_)
      obtain ⟨e15, y16, rfl, p17⟩ := q13
      subst H11
      clear o14
      rcases p17 with ⟨rfl, c18⟩ | ⟨rfl, c18⟩
      · refine fz_if_ne (tgt := 18) kX11_received rfl (by decide) (fun c19 => ?_) (fun c19 => ?_)
        · refine fz_aload_n kX11_received rfl rfl ?_
          refine fz_callV (d' := 3) (M' := mX11_allHear) (As := []) (st := []) kX11_received rfl rfl vX11_allHear rfl rfl rfl rfl (Nat.le_of_ble_eq_true rfl) (Nat.le_of_ble_eq_true rfl) (by decide) (sX11_allHear h hI  ) (fun H20 r21 q22 o23 => ?_)
          obtain ⟨hI24, hf25, rfl⟩ := q22
          clear o23
          have hf26 := fz_fr_tr hf hf25 (show fz_su [(86, 99999), (87, 99999), (88, 99999)] [(74, 99999), (75, 99999), (86, 99999), (87, 99999), (88, 99999)] = true from rfl)
          refine fz_iload_n kX11_received rfl rfl ?_
          rcases (show wh = 0 ∨ wh = 1 ∨ wh = 2 ∨ wh = 3 ∨ (wh < 0 ∨ 3 < wh) by omega) with c27 | c27 | c27 | c27 | c27
          · refine fz_tswC (j := 0) (tgt := 52) kX11_received rfl c27 (by decide) (by decide) rfl (by decide) ?_
            refine fz_aload_n kX11_received rfl rfl ?_
            refine fz_iload_n kX11_received rfl rfl ?_
            refine fz_iload_n kX11_received rfl rfl ?_
            refine fz_sipush ⟨by decide, by decide⟩ kX11_received rfl ?_
            refine fz_idivN kX11_received rfl (by omega) (by omega) (by omega) ?_
            refine fz_iload_n kX11_received rfl rfl ?_
            refine fz_sipush ⟨by decide, by decide⟩ kX11_received rfl ?_
            refine fz_iremN kX11_received rfl (by omega) (by omega) (by omega) ?_
            refine fz_callV (d' := 4) (M' := mX11_receivedIn) (As := [fz_i on, fz_i (th / 1000), fz_i (th % 1000)]) (st := []) kX11_received rfl rfl vX11_receivedIn rfl rfl rfl rfl (Nat.le_of_ble_eq_true rfl) (Nat.le_of_ble_eq_true rfl) (by decide) (sX11_receivedIn H20 hI24 on (th / 1000) (th % 1000) (by omega)) (fun H28 r29 q30 o31 => ?_)
            obtain ⟨hI32, hf33, y35, rfl, f34⟩ := q30
            clear o31
            have hf36 := fz_fr_tr hf26 hf33 (show fz_su [(74, 99999), (75, 99999)] [(74, 99999), (75, 99999), (86, 99999), (87, 99999), (88, 99999)] = true from rfl)
            exact fz_iret kX11_received rfl rfl (fun _ => ⟨hI32, hf36, _, rfl, (by omega)⟩)
          · refine fz_tswC (j := 1) (tgt := 68) kX11_received rfl c27 (by decide) (by decide) rfl (by decide) ?_
            refine fz_aload_n kX11_received rfl rfl ?_
            refine fz_iload_n kX11_received rfl rfl ?_
            refine fz_iload_n kX11_received rfl rfl ?_
            refine fz_sipush ⟨by decide, by decide⟩ kX11_received rfl ?_
            refine fz_idivN kX11_received rfl (by omega) (by omega) (by omega) ?_
            refine fz_iload_n kX11_received rfl rfl ?_
            refine fz_sipush ⟨by decide, by decide⟩ kX11_received rfl ?_
            refine fz_iremN kX11_received rfl (by omega) (by omega) (by omega) ?_
            refine fz_callV (d' := 4) (M' := mX11_isArrested) (As := [fz_i on, fz_i (th / 1000), fz_i (th % 1000)]) (st := []) kX11_received rfl rfl vX11_isArrested rfl rfl rfl rfl (Nat.le_of_ble_eq_true rfl) (Nat.le_of_ble_eq_true rfl) (by decide) (sX11_isArrested H20 hI24 on (th / 1000) (th % 1000) (by omega)) (fun H37 r38 q39 o40 => ?_)
            obtain ⟨hI41, hf42, y43, rfl, p44⟩ := q39
            clear o40
            have hf45 := fz_fr_tr hf26 hf42 (show fz_su [(74, 99999), (75, 99999)] [(74, 99999), (75, 99999), (86, 99999), (87, 99999), (88, 99999)] = true from rfl)
            refine fz_if_eq (tgt := 90) kX11_received rfl (by decide) (fun c46 => ?_) (fun c46 => ?_)
            · refine fz_iconst ⟨by decide, by decide⟩ kX11_received rfl ?_
              exact fz_iret kX11_received rfl rfl (fun _ => ⟨hI41, hf45, _, rfl, (by omega)⟩)
            · refine fz_iconst ⟨by decide, by decide⟩ kX11_received rfl ?_
              refine fz_goto (tgt := 91) kX11_received rfl (by decide) ?_
              exact fz_iret kX11_received rfl rfl (fun _ => ⟨hI41, hf45, _, rfl, (by omega)⟩)
          · refine fz_tswC (j := 2) (tgt := 92) kX11_received rfl c27 (by decide) (by decide) rfl (by decide) ?_
            refine fz_aload_n kX11_received rfl rfl ?_
            refine fz_iload_n kX11_received rfl rfl ?_
            refine fz_iload_n kX11_received rfl rfl ?_
            refine fz_sipush ⟨by decide, by decide⟩ kX11_received rfl ?_
            refine fz_idivN kX11_received rfl (by omega) (by omega) (by omega) ?_
            refine fz_iload_n kX11_received rfl rfl ?_
            refine fz_sipush ⟨by decide, by decide⟩ kX11_received rfl ?_
            refine fz_iremN kX11_received rfl (by omega) (by omega) (by omega) ?_
            refine fz_callV (d' := 4) (M' := mX11_marksIn) (As := [fz_i on, fz_i (th / 1000), fz_i (th % 1000)]) (st := []) kX11_received rfl rfl vX11_marksIn rfl rfl rfl rfl (Nat.le_of_ble_eq_true rfl) (Nat.le_of_ble_eq_true rfl) (by decide) (sX11_marksIn H20 hI24 on (th / 1000) (th % 1000) (by omega)) (fun H47 r48 q49 o50 => ?_)
            obtain ⟨hI51, hf52, y54, rfl, f53⟩ := q49
            clear o50
            have hf55 := fz_fr_tr hf26 hf52 (show fz_su [(74, 99999), (75, 99999)] [(74, 99999), (75, 99999), (86, 99999), (87, 99999), (88, 99999)] = true from rfl)
            exact fz_iret kX11_received rfl rfl (fun _ => ⟨hI51, hf55, _, rfl, (by omega)⟩)
          · refine fz_tswC (j := 3) (tgt := 108) kX11_received rfl c27 (by decide) (by decide) rfl (by decide) ?_
            refine fz_aload_n kX11_received rfl rfl ?_
            refine fz_iload_n kX11_received rfl rfl ?_
            refine fz_iload_n kX11_received rfl rfl ?_
            refine fz_sipush ⟨by decide, by decide⟩ kX11_received rfl ?_
            refine fz_idivN kX11_received rfl (by omega) (by omega) (by omega) ?_
            refine fz_iload_n kX11_received rfl rfl ?_
            refine fz_sipush ⟨by decide, by decide⟩ kX11_received rfl ?_
            refine fz_iremN kX11_received rfl (by omega) (by omega) (by omega) ?_
            refine fz_callV (d' := 4) (M' := mX11_loudestIn) (As := [fz_i on, fz_i (th / 1000), fz_i (th % 1000)]) (st := []) kX11_received rfl rfl vX11_loudestIn rfl rfl rfl rfl (Nat.le_of_ble_eq_true rfl) (Nat.le_of_ble_eq_true rfl) (by decide) (sX11_loudestIn H20 hI24 on (th / 1000) (th % 1000) (by omega)) (fun H56 r57 q58 o59 => ?_)
            obtain ⟨hI60, hf61, y63, rfl, f62⟩ := q58
            clear o59
            have hf64 := fz_fr_tr hf26 hf61 (show fz_su [(74, 99999), (75, 99999)] [(74, 99999), (75, 99999), (86, 99999), (87, 99999), (88, 99999)] = true from rfl)
            exact fz_iret kX11_received rfl rfl (fun _ => ⟨hI60, hf64, _, rfl, (by omega)⟩)
          · refine fz_tswO (tgt := 124) kX11_received rfl c27 (by decide) ?_
            refine fz_ldc (x := (-2000000000)) kX11_received rfl rfl rfl ?_
            exact fz_iret kX11_received rfl rfl (fun _ => ⟨hI24, hf26, _, rfl, (by omega)⟩)
        · exfalso; omega
      · refine fz_if_ne (tgt := 18) kX11_received rfl (by decide) (fun c65 => ?_) (fun c65 => ?_)
        · exfalso; omega
        · refine fz_ldc (x := (-2000000000)) kX11_received rfl rfl rfl ?_
          exact fz_iret kX11_received rfl rfl (fun _ => ⟨hI, hf, _, rfl, (by omega)⟩)
  · refine fz_if_eq (tgt := 15) kX11_received rfl (by decide) (fun c66 => ?_) (fun c66 => ?_)
    · refine fz_ldc (x := (-2000000000)) kX11_received rfl rfl rfl ?_
      exact fz_iret kX11_received rfl rfl (fun _ => ⟨hI, hf, _, rfl, (by omega)⟩)
    · exfalso; omega

abbrev qX11_atHour (h : fz_H) (on hr wh : Int) : fz_H → Option fz_V → Prop := fun h' r0 => fz_Iv h' ∧ fz_fr [(74, 99999), (75, 99999), (86, 99999), (87, 99999), (88, 99999)] h h' ∧ ∃ r : Int, r0 = some (fz_i r) ∧ ((-2147483648) ≤ r ∧ r ≤ 2147483647)
set_option maxHeartbeats 1000000 in
set_option maxRecDepth 100000 in
theorem sX11_atHour (h : fz_H) (hI : fz_Iv h) (on hr wh : Int) : fz_R 5 mX11_atHour 0 [(0, fz_r 53), (1, fz_i on), (2, fz_i hr), (3, fz_i wh)] [] h (qX11_atHour h on hr wh) := by
  refine fz_knowl (fun hk => ?_)
  have hr_on : -2147483648 ≤ on ∧ on < 2147483648 := hk _ (List.Mem.tail _ (List.Mem.head _))
  have hr_hr : -2147483648 ≤ hr ∧ hr < 2147483648 := hk _ (List.Mem.tail _ (List.Mem.tail _ (List.Mem.head _)))
  have hr_wh : -2147483648 ≤ wh ∧ wh < 2147483648 := hk _ (List.Mem.tail _ (List.Mem.tail _ (List.Mem.tail _ (List.Mem.head _))))
  clear hk
  have hf : fz_fr [(74, 99999), (75, 99999), (86, 99999), (87, 99999), (88, 99999)] h h := fz_fr_rf
  refine fz_iload_n kX11_atHour rfl rfl ?_
  refine fz_callS (d' := 1) (M' := mX11_isPerson) (As := [fz_i on]) (st := []) kX11_atHour rfl rfl vX11_isPerson rfl rfl (Nat.le_of_ble_eq_true rfl) (Nat.le_of_ble_eq_true rfl) (by decide) (sX11_isPerson h hI on ) (fun H1 r2 q3 o4 => ?_)
  obtain ⟨e5, y6, rfl, p7⟩ := q3
  subst H1
  clear o4
  rcases p7 with ⟨rfl, c8⟩ | ⟨rfl, c8⟩
  · refine fz_if_eq (tgt := 23) kX11_atHour rfl (by decide) (fun c9 => ?_) (fun c9 => ?_)
    · exfalso; omega
    · refine fz_iload_n kX11_atHour rfl rfl ?_
      refine fz_callS (d' := 1) (M' := mX11_isHour) (As := [fz_i hr]) (st := []) kX11_atHour rfl rfl vX11_isHour rfl rfl (Nat.le_of_ble_eq_true rfl) (Nat.le_of_ble_eq_true rfl) (by decide) (sX11_isHour h hI hr ) (fun H10 r11 q12 o13 => ?_)
      obtain ⟨e14, y15, rfl, p16⟩ := q12
      subst H10
      clear o13
      rcases p16 with ⟨rfl, c17⟩ | ⟨rfl, c17⟩
      · refine fz_if_eq (tgt := 23) kX11_atHour rfl (by decide) (fun c18 => ?_) (fun c18 => ?_)
        · exfalso; omega
        · refine fz_iload_n kX11_atHour rfl rfl ?_
          refine fz_iconst ⟨by decide, by decide⟩ kX11_atHour rfl ?_
          refine fz_iconst ⟨by decide, by decide⟩ kX11_atHour rfl ?_
          refine fz_callS (d' := 0) (M' := mX11_within) (As := [fz_i wh, fz_i 0, fz_i 2]) (st := []) kX11_atHour rfl rfl vX11_within rfl rfl (Nat.le_of_ble_eq_true rfl) (Nat.le_of_ble_eq_true rfl) (by decide) (sX11_within h hI wh 0 2 ) (fun H19 r20 q21 o22 => ?_)
          obtain ⟨e23, y24, rfl, p25⟩ := q21
          subst H19
          clear o22
          rcases p25 with ⟨rfl, c26⟩ | ⟨rfl, c26⟩
          · refine fz_if_ne (tgt := 25) kX11_atHour rfl (by decide) (fun c27 => ?_) (fun c27 => ?_)
            · refine fz_aload_n kX11_atHour rfl rfl ?_
              refine fz_callV (d' := 3) (M' := mX11_allHear) (As := []) (st := []) kX11_atHour rfl rfl vX11_allHear rfl rfl rfl rfl (Nat.le_of_ble_eq_true rfl) (Nat.le_of_ble_eq_true rfl) (by decide) (sX11_allHear h hI  ) (fun H28 r29 q30 o31 => ?_)
              obtain ⟨hI32, hf33, rfl⟩ := q30
              clear o31
              have hf34 := fz_fr_tr hf hf33 (show fz_su [(86, 99999), (87, 99999), (88, 99999)] [(74, 99999), (75, 99999), (86, 99999), (87, 99999), (88, 99999)] = true from rfl)
              refine fz_iconst ⟨by decide, by decide⟩ kX11_atHour rfl ?_
              refine fz_istore (ls' := [(4, fz_i 0), (0, fz_r 53), (1, fz_i on), (2, fz_i hr), (3, fz_i wh)]) kX11_atHour rfl (by decide) rfl ?_
              refine fz_bipush ⟨by decide, by decide⟩ kX11_atHour rfl ?_
              refine fz_istore (ls' := [(5, fz_i (-2)), (4, fz_i 0), (0, fz_r 53), (1, fz_i on), (2, fz_i hr), (3, fz_i wh)]) kX11_atHour rfl (by decide) rfl ?_
              refine fz_iconst ⟨by decide, by decide⟩ kX11_atHour rfl ?_
              refine fz_istore (ls' := [(6, fz_i 0), (5, fz_i (-2)), (4, fz_i 0), (0, fz_r 53), (1, fz_i on), (2, fz_i hr), (3, fz_i wh)]) kX11_atHour rfl (by decide) rfl ?_
              have lp42 : ∀ (n41 : Nat) (x35 : Int) (x36 : Int) (x37 : Int) (H38 : fz_H), fz_Iv H38 → fz_fr [(74, 99999), (75, 99999), (86, 99999), (87, 99999), (88, 99999)] h H38 → (0 ≤ x35 ∧ x35 ≤ 2147483647) → ((-2) ≤ x36 ∧ x36 ≤ 7) → ((-2147483648) ≤ x37 ∧ x37 ≤ 2147483647) → (x36 ≠ -1) → ((h 53 0) - x35).toNat < n41 → fz_R 5 mX11_atHour 39 [(6, fz_i x35), (5, fz_i x36), (4, fz_i x37), (0, fz_r 53), (1, fz_i on), (2, fz_i hr), (3, fz_i wh)] [] H38 (qX11_atHour h on hr wh) := by
                intro n41
                induction n41 with
                | zero => intro x35 x36 x37 H38 hI39 hf40 hv45 hv46 hv47 hv48 hm44; exact absurd hm44 (by omega)
                | succ n41 ih43 =>
                  intro x35 x36 x37 H38 hI39 hf40 hv45 hv46 hv47 hv48 hm44
                  refine fz_iload kX11_atHour rfl rfl ?_
                  refine fz_aload_n kX11_atHour rfl rfl ?_
                  refine fz_getV (v := h 53 0) kX11_atHour rfl rfl (hf40 53 0 rfl) ?_
                  have b49 : 0 ≤ h 53 0 ∧ h 53 0 ≤ 8 := hI.1 53 _
                  refine fz_icmp_ge (tgt := 122) kX11_atHour rfl (by decide) (fun c50 => ?_) (fun c50 => ?_)
                  · refine fz_iload_n kX11_atHour rfl rfl ?_
                    refine fz_iconst ⟨by decide, by decide⟩ kX11_atHour rfl ?_
                    refine fz_icmp_ne (tgt := 132) kX11_atHour rfl (by decide) (fun c51 => ?_) (fun c51 => ?_)
                    · refine fz_iload kX11_atHour rfl rfl ?_
                      exact fz_iret kX11_atHour rfl rfl (fun _ => ⟨hI39, hf40, _, rfl, (by omega)⟩)
                    · refine fz_iload kX11_atHour rfl rfl ?_
                      refine fz_goto (tgt := 134) kX11_atHour rfl (by decide) ?_
                      exact fz_iret kX11_atHour rfl rfl (fun _ => ⟨hI39, hf40, _, rfl, (by omega)⟩)
                  · refine fz_iload_n kX11_atHour rfl rfl ?_
                    refine fz_if_ne (tgt := 66) kX11_atHour rfl (by decide) (fun c52 => ?_) (fun c52 => ?_)
                    · refine fz_aload_n kX11_atHour rfl rfl ?_
                      refine fz_iload_n kX11_atHour rfl rfl ?_
                      refine fz_iload kX11_atHour rfl rfl ?_
                      refine fz_iload_n kX11_atHour rfl rfl ?_
                      refine fz_callV (d' := 4) (M' := mX11_isArrested) (As := [fz_i on, fz_i x35, fz_i hr]) (st := []) kX11_atHour rfl rfl vX11_isArrested rfl rfl rfl rfl (Nat.le_of_ble_eq_true rfl) (Nat.le_of_ble_eq_true rfl) (by decide) (sX11_isArrested H38 hI39 on x35 hr (by omega)) (fun H53 r54 q55 o56 => ?_)
                      obtain ⟨hI57, hf58, y59, rfl, p60⟩ := q55
                      clear o56
                      have hf61 := fz_fr_tr hf40 hf58 (show fz_su [(74, 99999), (75, 99999)] [(74, 99999), (75, 99999), (86, 99999), (87, 99999), (88, 99999)] = true from rfl)
                      refine fz_if_eq (tgt := 86) kX11_atHour rfl (by decide) (fun c62 => ?_) (fun c62 => ?_)
                      · refine fz_iload kX11_atHour rfl rfl ?_
                        refine fz_bipush ⟨by decide, by decide⟩ kX11_atHour rfl ?_
                        refine fz_icmp_eq (tgt := 112) kX11_atHour rfl (by decide) (fun c63 => ?_) (fun c63 => ?_)
                        · refine fz_iload kX11_atHour rfl rfl ?_
                          refine fz_istore (ls' := [(5, fz_i x35), (6, fz_i x35), (4, fz_i x37), (0, fz_r 53), (1, fz_i on), (2, fz_i hr), (3, fz_i wh)]) kX11_atHour rfl (by decide) rfl ?_
                          refine fz_iincN (ls' := [(6, fz_i (x35 + 1)), (5, fz_i x35), (4, fz_i x37), (0, fz_r 53), (1, fz_i on), (2, fz_i hr), (3, fz_i wh)]) kX11_atHour rfl (by decide) rfl (by omega) rfl ?_
                          refine fz_goto (tgt := 39) kX11_atHour rfl (by decide) ?_
                          exact ih43 (x35 + 1) x35 x37 H53 hI57 hf61 (by omega) (by omega) (by omega) (by omega) (by omega)
                        · refine fz_aload_n kX11_atHour rfl rfl ?_
                          refine fz_iload_n kX11_atHour rfl rfl ?_
                          refine fz_iload kX11_atHour rfl rfl ?_
                          refine fz_iload_n kX11_atHour rfl rfl ?_
                          refine fz_callV (d' := 4) (M' := mX11_receivedIn) (As := [fz_i on, fz_i x35, fz_i hr]) (st := []) kX11_atHour rfl rfl vX11_receivedIn rfl rfl rfl rfl (Nat.le_of_ble_eq_true rfl) (Nat.le_of_ble_eq_true rfl) (by decide) (sX11_receivedIn H53 hI57 on x35 hr (by omega)) (fun H64 r65 q66 o67 => ?_)
                          obtain ⟨hI68, hf69, y71, rfl, f70⟩ := q66
                          clear o67
                          have hf72 := fz_fr_tr hf61 hf69 (show fz_su [(74, 99999), (75, 99999)] [(74, 99999), (75, 99999), (86, 99999), (87, 99999), (88, 99999)] = true from rfl)
                          refine fz_aload_n kX11_atHour rfl rfl ?_
                          refine fz_iload_n kX11_atHour rfl rfl ?_
                          refine fz_iload kX11_atHour rfl rfl ?_
                          refine fz_iload_n kX11_atHour rfl rfl ?_
                          refine fz_callV (d' := 4) (M' := mX11_receivedIn) (As := [fz_i on, fz_i x36, fz_i hr]) (st := [fz_i y71]) kX11_atHour rfl rfl vX11_receivedIn rfl rfl rfl rfl (Nat.le_of_ble_eq_true rfl) (Nat.le_of_ble_eq_true rfl) (by decide) (sX11_receivedIn H64 hI68 on x36 hr (by omega)) (fun H73 r74 q75 o76 => ?_)
                          obtain ⟨hI77, hf78, y80, rfl, f79⟩ := q75
                          clear o76
                          have hf81 := fz_fr_tr hf72 hf78 (show fz_su [(74, 99999), (75, 99999)] [(74, 99999), (75, 99999), (86, 99999), (87, 99999), (88, 99999)] = true from rfl)
                          refine fz_icmp_le (tgt := 116) kX11_atHour rfl (by decide) (fun c82 => ?_) (fun c82 => ?_)
                          · refine fz_iincN (ls' := [(6, fz_i (x35 + 1)), (5, fz_i x36), (4, fz_i x37), (0, fz_r 53), (1, fz_i on), (2, fz_i hr), (3, fz_i wh)]) kX11_atHour rfl (by decide) rfl (by omega) rfl ?_
                            refine fz_goto (tgt := 39) kX11_atHour rfl (by decide) ?_
                            exact ih43 (x35 + 1) x36 x37 H73 hI77 hf81 (by omega) (by omega) (by omega) (by omega) (by omega)
                          · refine fz_iload kX11_atHour rfl rfl ?_
                            refine fz_istore (ls' := [(5, fz_i x35), (6, fz_i x35), (4, fz_i x37), (0, fz_r 53), (1, fz_i on), (2, fz_i hr), (3, fz_i wh)]) kX11_atHour rfl (by decide) rfl ?_
                            refine fz_iincN (ls' := [(6, fz_i (x35 + 1)), (5, fz_i x35), (4, fz_i x37), (0, fz_r 53), (1, fz_i on), (2, fz_i hr), (3, fz_i wh)]) kX11_atHour rfl (by decide) rfl (by omega) rfl ?_
                            refine fz_goto (tgt := 39) kX11_atHour rfl (by decide) ?_
                            exact ih43 (x35 + 1) x35 x37 H73 hI77 hf81 (by omega) (by omega) (by omega) (by omega) (by omega)
                      · refine fz_iload kX11_atHour rfl rfl ?_
                        refine fz_iconst ⟨by decide, by decide⟩ kX11_atHour rfl ?_
                        refine fz_iload kX11_atHour rfl rfl ?_
                        refine fz_ishl kX11_atHour rfl ?_
                        have b83 : -2147483648 ≤ (fz_shl 1 x35) ∧ (fz_shl 1 x35) < 2147483648 := fz_b32 _
                        refine fz_ior kX11_atHour rfl ?_
                        have b84 : -2147483648 ≤ (fz_or x37 (fz_shl 1 x35)) ∧ (fz_or x37 (fz_shl 1 x35)) < 2147483648 := fz_b32 _
                        refine fz_istore (ls' := [(4, fz_i (fz_or x37 (fz_shl 1 x35))), (6, fz_i x35), (5, fz_i x36), (0, fz_r 53), (1, fz_i on), (2, fz_i hr), (3, fz_i wh)]) kX11_atHour rfl (by decide) rfl ?_
                        refine fz_iload kX11_atHour rfl rfl ?_
                        refine fz_bipush ⟨by decide, by decide⟩ kX11_atHour rfl ?_
                        refine fz_icmp_eq (tgt := 112) kX11_atHour rfl (by decide) (fun c85 => ?_) (fun c85 => ?_)
                        · refine fz_iload kX11_atHour rfl rfl ?_
                          refine fz_istore (ls' := [(5, fz_i x35), (4, fz_i (fz_or x37 (fz_shl 1 x35))), (6, fz_i x35), (0, fz_r 53), (1, fz_i on), (2, fz_i hr), (3, fz_i wh)]) kX11_atHour rfl (by decide) rfl ?_
                          refine fz_iincN (ls' := [(6, fz_i (x35 + 1)), (5, fz_i x35), (4, fz_i (fz_or x37 (fz_shl 1 x35))), (0, fz_r 53), (1, fz_i on), (2, fz_i hr), (3, fz_i wh)]) kX11_atHour rfl (by decide) rfl (by omega) rfl ?_
                          refine fz_goto (tgt := 39) kX11_atHour rfl (by decide) ?_
                          exact ih43 (x35 + 1) x35 (fz_or x37 (fz_shl 1 x35)) H53 hI57 hf61 (by omega) (by omega) (by omega) (by omega) (by omega)
                        · refine fz_aload_n kX11_atHour rfl rfl ?_
                          refine fz_iload_n kX11_atHour rfl rfl ?_
                          refine fz_iload kX11_atHour rfl rfl ?_
                          refine fz_iload_n kX11_atHour rfl rfl ?_
                          refine fz_callV (d' := 4) (M' := mX11_receivedIn) (As := [fz_i on, fz_i x35, fz_i hr]) (st := []) kX11_atHour rfl rfl vX11_receivedIn rfl rfl rfl rfl (Nat.le_of_ble_eq_true rfl) (Nat.le_of_ble_eq_true rfl) (by decide) (sX11_receivedIn H53 hI57 on x35 hr (by omega)) (fun H86 r87 q88 o89 => ?_)
                          obtain ⟨hI90, hf91, y93, rfl, f92⟩ := q88
                          clear o89
                          have hf94 := fz_fr_tr hf61 hf91 (show fz_su [(74, 99999), (75, 99999)] [(74, 99999), (75, 99999), (86, 99999), (87, 99999), (88, 99999)] = true from rfl)
                          refine fz_aload_n kX11_atHour rfl rfl ?_
                          refine fz_iload_n kX11_atHour rfl rfl ?_
                          refine fz_iload kX11_atHour rfl rfl ?_
                          refine fz_iload_n kX11_atHour rfl rfl ?_
                          refine fz_callV (d' := 4) (M' := mX11_receivedIn) (As := [fz_i on, fz_i x36, fz_i hr]) (st := [fz_i y93]) kX11_atHour rfl rfl vX11_receivedIn rfl rfl rfl rfl (Nat.le_of_ble_eq_true rfl) (Nat.le_of_ble_eq_true rfl) (by decide) (sX11_receivedIn H86 hI90 on x36 hr (by omega)) (fun H95 r96 q97 o98 => ?_)
                          obtain ⟨hI99, hf100, y102, rfl, f101⟩ := q97
                          clear o98
                          have hf103 := fz_fr_tr hf94 hf100 (show fz_su [(74, 99999), (75, 99999)] [(74, 99999), (75, 99999), (86, 99999), (87, 99999), (88, 99999)] = true from rfl)
                          refine fz_icmp_le (tgt := 116) kX11_atHour rfl (by decide) (fun c104 => ?_) (fun c104 => ?_)
                          · refine fz_iincN (ls' := [(6, fz_i (x35 + 1)), (4, fz_i (fz_or x37 (fz_shl 1 x35))), (5, fz_i x36), (0, fz_r 53), (1, fz_i on), (2, fz_i hr), (3, fz_i wh)]) kX11_atHour rfl (by decide) rfl (by omega) rfl ?_
                            refine fz_goto (tgt := 39) kX11_atHour rfl (by decide) ?_
                            refine fz_sub (fz_pk_sub (ls' := [(6, fz_i (x35 + 1)), (5, fz_i x36), (4, fz_i (fz_or x37 (fz_shl 1 x35))), (0, fz_r 53), (1, fz_i on), (2, fz_i hr), (3, fz_i wh)]) [0, 2, 1, 3, 4, 5, 6] rfl) ?_
                            exact ih43 (x35 + 1) x36 (fz_or x37 (fz_shl 1 x35)) H95 hI99 hf103 (by omega) (by omega) (by omega) (by omega) (by omega)
                          · refine fz_iload kX11_atHour rfl rfl ?_
                            refine fz_istore (ls' := [(5, fz_i x35), (4, fz_i (fz_or x37 (fz_shl 1 x35))), (6, fz_i x35), (0, fz_r 53), (1, fz_i on), (2, fz_i hr), (3, fz_i wh)]) kX11_atHour rfl (by decide) rfl ?_
                            refine fz_iincN (ls' := [(6, fz_i (x35 + 1)), (5, fz_i x35), (4, fz_i (fz_or x37 (fz_shl 1 x35))), (0, fz_r 53), (1, fz_i on), (2, fz_i hr), (3, fz_i wh)]) kX11_atHour rfl (by decide) rfl (by omega) rfl ?_
                            refine fz_goto (tgt := 39) kX11_atHour rfl (by decide) ?_
                            exact ih43 (x35 + 1) x35 (fz_or x37 (fz_shl 1 x35)) H95 hI99 hf103 (by omega) (by omega) (by omega) (by omega) (by omega)
                    · refine fz_aload_n kX11_atHour rfl rfl ?_
                      refine fz_iload_n kX11_atHour rfl rfl ?_
                      refine fz_iload kX11_atHour rfl rfl ?_
                      refine fz_iload_n kX11_atHour rfl rfl ?_
                      refine fz_callV (d' := 4) (M' := mX11_marksIn) (As := [fz_i on, fz_i x35, fz_i hr]) (st := []) kX11_atHour rfl rfl vX11_marksIn rfl rfl rfl rfl (Nat.le_of_ble_eq_true rfl) (Nat.le_of_ble_eq_true rfl) (by decide) (sX11_marksIn H38 hI39 on x35 hr (by omega)) (fun H105 r106 q107 o108 => ?_)
                      obtain ⟨hI109, hf110, y112, rfl, f111⟩ := q107
                      clear o108
                      have hf113 := fz_fr_tr hf40 hf110 (show fz_su [(74, 99999), (75, 99999)] [(74, 99999), (75, 99999), (86, 99999), (87, 99999), (88, 99999)] = true from rfl)
                      refine fz_if_ne (tgt := 86) kX11_atHour rfl (by decide) (fun c114 => ?_) (fun c114 => ?_)
                      · refine fz_iload kX11_atHour rfl rfl ?_
                        refine fz_bipush ⟨by decide, by decide⟩ kX11_atHour rfl ?_
                        refine fz_icmp_eq (tgt := 112) kX11_atHour rfl (by decide) (fun c115 => ?_) (fun c115 => ?_)
                        · refine fz_iload kX11_atHour rfl rfl ?_
                          refine fz_istore (ls' := [(5, fz_i x35), (6, fz_i x35), (4, fz_i x37), (0, fz_r 53), (1, fz_i on), (2, fz_i hr), (3, fz_i wh)]) kX11_atHour rfl (by decide) rfl ?_
                          refine fz_iincN (ls' := [(6, fz_i (x35 + 1)), (5, fz_i x35), (4, fz_i x37), (0, fz_r 53), (1, fz_i on), (2, fz_i hr), (3, fz_i wh)]) kX11_atHour rfl (by decide) rfl (by omega) rfl ?_
                          refine fz_goto (tgt := 39) kX11_atHour rfl (by decide) ?_
                          exact ih43 (x35 + 1) x35 x37 H105 hI109 hf113 (by omega) (by omega) (by omega) (by omega) (by omega)
                        · refine fz_aload_n kX11_atHour rfl rfl ?_
                          refine fz_iload_n kX11_atHour rfl rfl ?_
                          refine fz_iload kX11_atHour rfl rfl ?_
                          refine fz_iload_n kX11_atHour rfl rfl ?_
                          refine fz_callV (d' := 4) (M' := mX11_receivedIn) (As := [fz_i on, fz_i x35, fz_i hr]) (st := []) kX11_atHour rfl rfl vX11_receivedIn rfl rfl rfl rfl (Nat.le_of_ble_eq_true rfl) (Nat.le_of_ble_eq_true rfl) (by decide) (sX11_receivedIn H105 hI109 on x35 hr (by omega)) (fun H116 r117 q118 o119 => ?_)
                          obtain ⟨hI120, hf121, y123, rfl, f122⟩ := q118
                          clear o119
                          have hf124 := fz_fr_tr hf113 hf121 (show fz_su [(74, 99999), (75, 99999)] [(74, 99999), (75, 99999), (86, 99999), (87, 99999), (88, 99999)] = true from rfl)
                          refine fz_aload_n kX11_atHour rfl rfl ?_
                          refine fz_iload_n kX11_atHour rfl rfl ?_
                          refine fz_iload kX11_atHour rfl rfl ?_
                          refine fz_iload_n kX11_atHour rfl rfl ?_
                          refine fz_callV (d' := 4) (M' := mX11_receivedIn) (As := [fz_i on, fz_i x36, fz_i hr]) (st := [fz_i y123]) kX11_atHour rfl rfl vX11_receivedIn rfl rfl rfl rfl (Nat.le_of_ble_eq_true rfl) (Nat.le_of_ble_eq_true rfl) (by decide) (sX11_receivedIn H116 hI120 on x36 hr (by omega)) (fun H125 r126 q127 o128 => ?_)
                          obtain ⟨hI129, hf130, y132, rfl, f131⟩ := q127
                          clear o128
                          have hf133 := fz_fr_tr hf124 hf130 (show fz_su [(74, 99999), (75, 99999)] [(74, 99999), (75, 99999), (86, 99999), (87, 99999), (88, 99999)] = true from rfl)
                          refine fz_icmp_le (tgt := 116) kX11_atHour rfl (by decide) (fun c134 => ?_) (fun c134 => ?_)
                          · refine fz_iincN (ls' := [(6, fz_i (x35 + 1)), (5, fz_i x36), (4, fz_i x37), (0, fz_r 53), (1, fz_i on), (2, fz_i hr), (3, fz_i wh)]) kX11_atHour rfl (by decide) rfl (by omega) rfl ?_
                            refine fz_goto (tgt := 39) kX11_atHour rfl (by decide) ?_
                            exact ih43 (x35 + 1) x36 x37 H125 hI129 hf133 (by omega) (by omega) (by omega) (by omega) (by omega)
                          · refine fz_iload kX11_atHour rfl rfl ?_
                            refine fz_istore (ls' := [(5, fz_i x35), (6, fz_i x35), (4, fz_i x37), (0, fz_r 53), (1, fz_i on), (2, fz_i hr), (3, fz_i wh)]) kX11_atHour rfl (by decide) rfl ?_
                            refine fz_iincN (ls' := [(6, fz_i (x35 + 1)), (5, fz_i x35), (4, fz_i x37), (0, fz_r 53), (1, fz_i on), (2, fz_i hr), (3, fz_i wh)]) kX11_atHour rfl (by decide) rfl (by omega) rfl ?_
                            refine fz_goto (tgt := 39) kX11_atHour rfl (by decide) ?_
                            exact ih43 (x35 + 1) x35 x37 H125 hI129 hf133 (by omega) (by omega) (by omega) (by omega) (by omega)
                      · refine fz_goto (tgt := 77) kX11_atHour rfl (by decide) ?_
                        refine fz_iload kX11_atHour rfl rfl ?_
                        refine fz_iconst ⟨by decide, by decide⟩ kX11_atHour rfl ?_
                        refine fz_iload kX11_atHour rfl rfl ?_
                        refine fz_ishl kX11_atHour rfl ?_
                        have b135 : -2147483648 ≤ (fz_shl 1 x35) ∧ (fz_shl 1 x35) < 2147483648 := fz_b32 _
                        refine fz_ior kX11_atHour rfl ?_
                        have b136 : -2147483648 ≤ (fz_or x37 (fz_shl 1 x35)) ∧ (fz_or x37 (fz_shl 1 x35)) < 2147483648 := fz_b32 _
                        refine fz_istore (ls' := [(4, fz_i (fz_or x37 (fz_shl 1 x35))), (6, fz_i x35), (5, fz_i x36), (0, fz_r 53), (1, fz_i on), (2, fz_i hr), (3, fz_i wh)]) kX11_atHour rfl (by decide) rfl ?_
                        refine fz_iload kX11_atHour rfl rfl ?_
                        refine fz_bipush ⟨by decide, by decide⟩ kX11_atHour rfl ?_
                        refine fz_icmp_eq (tgt := 112) kX11_atHour rfl (by decide) (fun c137 => ?_) (fun c137 => ?_)
                        · refine fz_iload kX11_atHour rfl rfl ?_
                          refine fz_istore (ls' := [(5, fz_i x35), (4, fz_i (fz_or x37 (fz_shl 1 x35))), (6, fz_i x35), (0, fz_r 53), (1, fz_i on), (2, fz_i hr), (3, fz_i wh)]) kX11_atHour rfl (by decide) rfl ?_
                          refine fz_iincN (ls' := [(6, fz_i (x35 + 1)), (5, fz_i x35), (4, fz_i (fz_or x37 (fz_shl 1 x35))), (0, fz_r 53), (1, fz_i on), (2, fz_i hr), (3, fz_i wh)]) kX11_atHour rfl (by decide) rfl (by omega) rfl ?_
                          refine fz_goto (tgt := 39) kX11_atHour rfl (by decide) ?_
                          exact ih43 (x35 + 1) x35 (fz_or x37 (fz_shl 1 x35)) H105 hI109 hf113 (by omega) (by omega) (by omega) (by omega) (by omega)
                        · refine fz_aload_n kX11_atHour rfl rfl ?_
                          refine fz_iload_n kX11_atHour rfl rfl ?_
                          refine fz_iload kX11_atHour rfl rfl ?_
                          refine fz_iload_n kX11_atHour rfl rfl ?_
                          refine fz_callV (d' := 4) (M' := mX11_receivedIn) (As := [fz_i on, fz_i x35, fz_i hr]) (st := []) kX11_atHour rfl rfl vX11_receivedIn rfl rfl rfl rfl (Nat.le_of_ble_eq_true rfl) (Nat.le_of_ble_eq_true rfl) (by decide) (sX11_receivedIn H105 hI109 on x35 hr (by omega)) (fun H138 r139 q140 o141 => ?_)
                          obtain ⟨hI142, hf143, y145, rfl, f144⟩ := q140
                          clear o141
                          have hf146 := fz_fr_tr hf113 hf143 (show fz_su [(74, 99999), (75, 99999)] [(74, 99999), (75, 99999), (86, 99999), (87, 99999), (88, 99999)] = true from rfl)
                          refine fz_aload_n kX11_atHour rfl rfl ?_
                          refine fz_iload_n kX11_atHour rfl rfl ?_
                          refine fz_iload kX11_atHour rfl rfl ?_
                          refine fz_iload_n kX11_atHour rfl rfl ?_
                          refine fz_callV (d' := 4) (M' := mX11_receivedIn) (As := [fz_i on, fz_i x36, fz_i hr]) (st := [fz_i y145]) kX11_atHour rfl rfl vX11_receivedIn rfl rfl rfl rfl (Nat.le_of_ble_eq_true rfl) (Nat.le_of_ble_eq_true rfl) (by decide) (sX11_receivedIn H138 hI142 on x36 hr (by omega)) (fun H147 r148 q149 o150 => ?_)
                          obtain ⟨hI151, hf152, y154, rfl, f153⟩ := q149
                          clear o150
                          have hf155 := fz_fr_tr hf146 hf152 (show fz_su [(74, 99999), (75, 99999)] [(74, 99999), (75, 99999), (86, 99999), (87, 99999), (88, 99999)] = true from rfl)
                          refine fz_icmp_le (tgt := 116) kX11_atHour rfl (by decide) (fun c156 => ?_) (fun c156 => ?_)
                          · refine fz_iincN (ls' := [(6, fz_i (x35 + 1)), (4, fz_i (fz_or x37 (fz_shl 1 x35))), (5, fz_i x36), (0, fz_r 53), (1, fz_i on), (2, fz_i hr), (3, fz_i wh)]) kX11_atHour rfl (by decide) rfl (by omega) rfl ?_
                            refine fz_goto (tgt := 39) kX11_atHour rfl (by decide) ?_
                            refine fz_sub (fz_pk_sub (ls' := [(6, fz_i (x35 + 1)), (5, fz_i x36), (4, fz_i (fz_or x37 (fz_shl 1 x35))), (0, fz_r 53), (1, fz_i on), (2, fz_i hr), (3, fz_i wh)]) [0, 2, 1, 3, 4, 5, 6] rfl) ?_
                            exact ih43 (x35 + 1) x36 (fz_or x37 (fz_shl 1 x35)) H147 hI151 hf155 (by omega) (by omega) (by omega) (by omega) (by omega)
                          · refine fz_iload kX11_atHour rfl rfl ?_
                            refine fz_istore (ls' := [(5, fz_i x35), (4, fz_i (fz_or x37 (fz_shl 1 x35))), (6, fz_i x35), (0, fz_r 53), (1, fz_i on), (2, fz_i hr), (3, fz_i wh)]) kX11_atHour rfl (by decide) rfl ?_
                            refine fz_iincN (ls' := [(6, fz_i (x35 + 1)), (5, fz_i x35), (4, fz_i (fz_or x37 (fz_shl 1 x35))), (0, fz_r 53), (1, fz_i on), (2, fz_i hr), (3, fz_i wh)]) kX11_atHour rfl (by decide) rfl (by omega) rfl ?_
                            refine fz_goto (tgt := 39) kX11_atHour rfl (by decide) ?_
                            exact ih43 (x35 + 1) x35 (fz_or x37 (fz_shl 1 x35)) H147 hI151 hf155 (by omega) (by omega) (by omega) (by omega) (by omega)
              exact lp42 _ 0 (-2) 0 H28 hI32 hf34 (by omega) (by omega) (by omega) (by omega) (Nat.lt_succ_self _)
            · exfalso; omega
          · refine fz_if_ne (tgt := 25) kX11_atHour rfl (by decide) (fun c157 => ?_) (fun c157 => ?_)
            · exfalso; omega
            · refine fz_iconst ⟨by decide, by decide⟩ kX11_atHour rfl ?_
              exact fz_iret kX11_atHour rfl rfl (fun _ => ⟨hI, hf, _, rfl, (by omega)⟩)
      · refine fz_if_eq (tgt := 23) kX11_atHour rfl (by decide) (fun c158 => ?_) (fun c158 => ?_)
        · refine fz_iconst ⟨by decide, by decide⟩ kX11_atHour rfl ?_
          exact fz_iret kX11_atHour rfl rfl (fun _ => ⟨hI, hf, _, rfl, (by omega)⟩)
        · exfalso; omega
  · refine fz_if_eq (tgt := 23) kX11_atHour rfl (by decide) (fun c159 => ?_) (fun c159 => ?_)
    · refine fz_iconst ⟨by decide, by decide⟩ kX11_atHour rfl ?_
      exact fz_iret kX11_atHour rfl rfl (fun _ => ⟨hI, hf, _, rfl, (by omega)⟩)
    · exfalso; omega

abbrev qX11_feet (h : fz_H) (a b : Int) : fz_H → Option fz_V → Prop := fun h' r0 => fz_Iv h' ∧ fz_fr [(86, 99999), (87, 99999)] h h' ∧ ∃ r : Int, r0 = some (fz_i r) ∧ ((-2147483648) ≤ r ∧ r ≤ 2147483647)
set_option maxHeartbeats 1000000 in
set_option maxRecDepth 100000 in
theorem sX11_feet (h : fz_H) (hI : fz_Iv h) (a b : Int) (hp0 : 0 ≤ a ∧ a ≤ 7) (hp1 : 0 ≤ b ∧ b ≤ 7) : fz_R 2 mX11_feet 0 [(0, fz_r 53), (1, fz_i a), (2, fz_i b)] [] h (qX11_feet h a b) := by
  refine fz_knowl (fun hk => ?_)
  have hr_a : -2147483648 ≤ a ∧ a < 2147483648 := hk _ (List.Mem.tail _ (List.Mem.head _))
  have hr_b : -2147483648 ≤ b ∧ b < 2147483648 := hk _ (List.Mem.tail _ (List.Mem.tail _ (List.Mem.head _)))
  clear hk
  have hf : fz_fr [(86, 99999), (87, 99999)] h h := fz_fr_rf
  refine fz_aload_n kX11_feet rfl rfl ?_
  refine fz_iload_n kX11_feet rfl rfl ?_
  refine fz_iconst ⟨by decide, by decide⟩ kX11_feet rfl ?_
  refine fz_callV (d' := 1) (M' := mX11_goesFrom) (As := [fz_i a, fz_i 0]) (st := []) kX11_feet rfl rfl vX11_goesFrom rfl rfl rfl rfl (Nat.le_of_ble_eq_true rfl) (Nat.le_of_ble_eq_true rfl) (by decide) (sX11_goesFrom h hI a 0 (by omega) (by omega)) (fun H1 r2 q3 o4 => ?_)
  obtain ⟨hI5, hf6, rfl⟩ := q3
  clear o4
  have hf7 := fz_fr_tr hf hf6 (show fz_su [(86, 99999), (87, 99999)] [(86, 99999), (87, 99999)] = true from rfl)
  refine fz_aload_n kX11_feet rfl rfl ?_
  refine fz_getR (t := 86) kX11_feet rfl rfl ?_
  refine fz_iload_n kX11_feet rfl rfl ?_
  obtain ⟨v8, e9⟩ : ∃ z, H1 86 (b.toNat) = z := ⟨_, rfl⟩
  refine fz_ialdV (n := 8) (v := v8) kX11_feet rfl rfl (by omega) (by omega) e9 ?_
  have b10 : (-2147483648) ≤ v8 ∧ v8 ≤ 2147483647 := by rw [← e9]; exact hI5.1 86 _
  exact fz_iret kX11_feet rfl rfl (fun _ => ⟨hI5, hf7, _, rfl, (by omega)⟩)

abbrev qX11_home (h : fz_H) (on th wh : Int) : fz_H → Option fz_V → Prop := fun h' r0 => fz_Iv h' ∧ fz_fr [(74, 99999), (75, 99999), (86, 99999), (87, 99999), (88, 99999)] h h' ∧ ∃ r : Int, r0 = some (fz_i r) ∧ ((-2147483648) ≤ r ∧ r ≤ 2147483647)
set_option maxHeartbeats 1000000 in
set_option maxRecDepth 100000 in
theorem sX11_home (h : fz_H) (hI : fz_Iv h) (on th wh : Int) : fz_R 5 mX11_home 0 [(0, fz_r 53), (1, fz_i on), (2, fz_i th), (3, fz_i wh)] [] h (qX11_home h on th wh) := by
  refine fz_knowl (fun hk => ?_)
  have hr_on : -2147483648 ≤ on ∧ on < 2147483648 := hk _ (List.Mem.tail _ (List.Mem.head _))
  have hr_th : -2147483648 ≤ th ∧ th < 2147483648 := hk _ (List.Mem.tail _ (List.Mem.tail _ (List.Mem.head _)))
  have hr_wh : -2147483648 ≤ wh ∧ wh < 2147483648 := hk _ (List.Mem.tail _ (List.Mem.tail _ (List.Mem.tail _ (List.Mem.head _))))
  clear hk
  have hf : fz_fr [(74, 99999), (75, 99999), (86, 99999), (87, 99999), (88, 99999)] h h := fz_fr_rf
  refine fz_iload_n kX11_home rfl rfl ?_
  refine fz_callS (d' := 1) (M' := mX11_isPerson) (As := [fz_i on]) (st := []) kX11_home rfl rfl vX11_isPerson rfl rfl (Nat.le_of_ble_eq_true rfl) (Nat.le_of_ble_eq_true rfl) (by decide) (sX11_isPerson h hI on ) (fun H1 r2 q3 o4 => ?_)
  obtain ⟨e5, y6, rfl, p7⟩ := q3
  subst H1
  clear o4
  rcases p7 with ⟨rfl, c8⟩ | ⟨rfl, c8⟩
  · refine fz_if_eq (tgt := 24) kX11_home rfl (by decide) (fun c9 => ?_) (fun c9 => ?_)
    · exfalso; omega
    · refine fz_aload_n kX11_home rfl rfl ?_
      refine fz_iload_n kX11_home rfl rfl ?_
      have b10 : 0 ≤ h 53 0 ∧ h 53 0 ≤ 8 := hI.1 53 _
      refine fz_callV (d' := 2) (M' := mX11_isWhen) (As := [fz_i th]) (st := []) kX11_home rfl rfl vX11_isWhen rfl rfl rfl rfl (Nat.le_of_ble_eq_true rfl) (Nat.le_of_ble_eq_true rfl) (by decide) (sX11_isWhen h hI th ) (fun H11 r12 q13 o14 => ?_)
      obtain ⟨e15, y16, rfl, p17⟩ := q13
      subst H11
      clear o14
      rcases p17 with ⟨rfl, c18⟩ | ⟨rfl, c18⟩
      · refine fz_if_eq (tgt := 24) kX11_home rfl (by decide) (fun c19 => ?_) (fun c19 => ?_)
        · exfalso; omega
        · refine fz_iload_n kX11_home rfl rfl ?_
          refine fz_iconst ⟨by decide, by decide⟩ kX11_home rfl ?_
          refine fz_iconst ⟨by decide, by decide⟩ kX11_home rfl ?_
          refine fz_callS (d' := 0) (M' := mX11_within) (As := [fz_i wh, fz_i 0, fz_i 1]) (st := []) kX11_home rfl rfl vX11_within rfl rfl (Nat.le_of_ble_eq_true rfl) (Nat.le_of_ble_eq_true rfl) (by decide) (sX11_within h hI wh 0 1 ) (fun H20 r21 q22 o23 => ?_)
          obtain ⟨e24, y25, rfl, p26⟩ := q22
          subst H20
          clear o23
          rcases p26 with ⟨rfl, c27⟩ | ⟨rfl, c27⟩
          · refine fz_if_ne (tgt := 26) kX11_home rfl (by decide) (fun c28 => ?_) (fun c28 => ?_)
            · refine fz_aload_n kX11_home rfl rfl ?_
              refine fz_callV (d' := 3) (M' := mX11_allHear) (As := []) (st := []) kX11_home rfl rfl vX11_allHear rfl rfl rfl rfl (Nat.le_of_ble_eq_true rfl) (Nat.le_of_ble_eq_true rfl) (by decide) (sX11_allHear h hI  ) (fun H29 r30 q31 o32 => ?_)
              obtain ⟨hI33, hf34, rfl⟩ := q31
              clear o32
              have hf35 := fz_fr_tr hf hf34 (show fz_su [(86, 99999), (87, 99999), (88, 99999)] [(74, 99999), (75, 99999), (86, 99999), (87, 99999), (88, 99999)] = true from rfl)
              refine fz_bipush ⟨by decide, by decide⟩ kX11_home rfl ?_
              refine fz_istore (ls' := [(4, fz_i (-2)), (0, fz_r 53), (1, fz_i on), (2, fz_i th), (3, fz_i wh)]) kX11_home rfl (by decide) rfl ?_
              refine fz_iconst ⟨by decide, by decide⟩ kX11_home rfl ?_
              refine fz_istore (ls' := [(5, fz_i 0), (4, fz_i (-2)), (0, fz_r 53), (1, fz_i on), (2, fz_i th), (3, fz_i wh)]) kX11_home rfl (by decide) rfl ?_
              refine fz_iconst ⟨by decide, by decide⟩ kX11_home rfl ?_
              refine fz_istore (ls' := [(6, fz_i 0), (5, fz_i 0), (4, fz_i (-2)), (0, fz_r 53), (1, fz_i on), (2, fz_i th), (3, fz_i wh)]) kX11_home rfl (by decide) rfl ?_
              have lp43 : ∀ (n42 : Nat) (x36 : Int) (x37 : Int) (x38 : Int) (H39 : fz_H), fz_Iv H39 → fz_fr [(74, 99999), (75, 99999), (86, 99999), (87, 99999), (88, 99999)] h H39 → (0 ≤ x36 ∧ x36 ≤ 2147483647) → ((-2147483648) ≤ x37 ∧ x37 ≤ 2147483647) → ((-2147483648) ≤ x38 ∧ x38 ≤ 2147483647) → ((h 53 0) - x36).toNat < n42 → fz_R 5 mX11_home 40 [(6, fz_i x36), (5, fz_i x37), (4, fz_i x38), (0, fz_r 53), (1, fz_i on), (2, fz_i th), (3, fz_i wh)] [] H39 (qX11_home h on th wh) := by
                intro n42
                induction n42 with
                | zero => intro x36 x37 x38 H39 hI40 hf41 hv46 hv47 hv48 hm45; exact absurd hm45 (by omega)
                | succ n42 ih44 =>
                  intro x36 x37 x38 H39 hI40 hf41 hv46 hv47 hv48 hm45
                  refine fz_iload kX11_home rfl rfl ?_
                  refine fz_aload_n kX11_home rfl rfl ?_
                  refine fz_getV (v := h 53 0) kX11_home rfl rfl (hf41 53 0 rfl) ?_
                  have b49 : 0 ≤ h 53 0 ∧ h 53 0 ≤ 8 := hI.1 53 _
                  refine fz_icmp_ge (tgt := 130) kX11_home rfl (by decide) (fun c50 => ?_) (fun c50 => ?_)
                  · refine fz_iload kX11_home rfl rfl ?_
                    refine fz_bipush ⟨by decide, by decide⟩ kX11_home rfl ?_
                    refine fz_icmp_eq (tgt := 142) kX11_home rfl (by decide) (fun c51 => ?_) (fun c51 => ?_)
                    · refine fz_iload kX11_home rfl rfl ?_
                      refine fz_goto (tgt := 149) kX11_home rfl (by decide) ?_
                      exact fz_iret kX11_home rfl rfl (fun _ => ⟨hI40, hf41, _, rfl, (by omega)⟩)
                    · refine fz_iload_n kX11_home rfl rfl ?_
                      refine fz_iconst ⟨by decide, by decide⟩ kX11_home rfl ?_
                      refine fz_icmp_ne (tgt := 147) kX11_home rfl (by decide) (fun c52 => ?_) (fun c52 => ?_)
                      · refine fz_iload kX11_home rfl rfl ?_
                        exact fz_iret kX11_home rfl rfl (fun _ => ⟨hI40, hf41, _, rfl, (by omega)⟩)
                      · refine fz_iload kX11_home rfl rfl ?_
                        refine fz_goto (tgt := 149) kX11_home rfl (by decide) ?_
                        exact fz_iret kX11_home rfl rfl (fun _ => ⟨hI40, hf41, _, rfl, (by omega)⟩)
                  · refine fz_aload_n kX11_home rfl rfl ?_
                    refine fz_iload_n kX11_home rfl rfl ?_
                    refine fz_sipush ⟨by decide, by decide⟩ kX11_home rfl ?_
                    refine fz_idivN kX11_home rfl (by omega) (by omega) (by omega) ?_
                    refine fz_iload kX11_home rfl rfl ?_
                    refine fz_callV (d' := 2) (M' := mX11_feet) (As := [fz_i (th / 1000), fz_i x36]) (st := []) kX11_home rfl rfl vX11_feet rfl rfl rfl rfl (Nat.le_of_ble_eq_true rfl) (Nat.le_of_ble_eq_true rfl) (by decide) (sX11_feet H39 hI40 (th / 1000) x36 (by omega) (by omega)) (fun H53 r54 q55 o56 => ?_)
                    obtain ⟨hI57, hf58, y60, rfl, f59⟩ := q55
                    clear o56
                    have hf61 := fz_fr_tr hf41 hf58 (show fz_su [(86, 99999), (87, 99999)] [(74, 99999), (75, 99999), (86, 99999), (87, 99999), (88, 99999)] = true from rfl)
                    refine fz_istore (ls' := [(7, fz_i y60), (6, fz_i x36), (5, fz_i x37), (4, fz_i x38), (0, fz_r 53), (1, fz_i on), (2, fz_i th), (3, fz_i wh)]) kX11_home rfl (by decide) rfl ?_
                    refine fz_iload_n kX11_home rfl rfl ?_
                    refine fz_sipush ⟨by decide, by decide⟩ kX11_home rfl ?_
                    refine fz_iremN kX11_home rfl (by omega) (by omega) (by omega) ?_
                    refine fz_iload kX11_home rfl rfl ?_
                    refine fz_iadd kX11_home rfl ?_
                    refine fz_nmw (fun z62 e63 => ?_)
                    refine fz_istore (ls' := [(8, fz_i z62), (7, fz_i y60), (6, fz_i x36), (5, fz_i x37), (4, fz_i x38), (0, fz_r 53), (1, fz_i on), (2, fz_i th), (3, fz_i wh)]) kX11_home rfl (by decide) rfl ?_
                    refine fz_iload kX11_home rfl rfl ?_
                    refine fz_bipush ⟨by decide, by decide⟩ kX11_home rfl ?_
                    refine fz_icmp_eq (tgt := 124) kX11_home rfl (by decide) (fun c64 => ?_) (fun c64 => ?_)
                    · refine fz_iincN (ls' := [(6, fz_i (x36 + 1)), (8, fz_i z62), (7, fz_i y60), (5, fz_i x37), (4, fz_i x38), (0, fz_r 53), (1, fz_i on), (2, fz_i th), (3, fz_i wh)]) kX11_home rfl (by decide) rfl (by omega) rfl ?_
                      refine fz_goto (tgt := 40) kX11_home rfl (by decide) ?_
                      refine fz_sub (fz_pk_sub (ls' := [(6, fz_i (x36 + 1)), (5, fz_i x37), (4, fz_i x38), (0, fz_r 53), (1, fz_i on), (2, fz_i th), (3, fz_i wh)]) [0, 3, 4, 5, 6, 7, 8] rfl) ?_
                      exact ih44 (x36 + 1) x37 x38 H53 hI57 hf61 (by omega) (by omega) (by omega) (by omega)
                    · refine fz_iload kX11_home rfl rfl ?_
                      refine fz_sipush ⟨by decide, by decide⟩ kX11_home rfl ?_
                      refine fz_icmp_gt (tgt := 124) kX11_home rfl (by decide) (fun c65 => ?_) (fun c65 => ?_)
                      · refine fz_iincN (ls' := [(6, fz_i (x36 + 1)), (8, fz_i z62), (7, fz_i y60), (5, fz_i x37), (4, fz_i x38), (0, fz_r 53), (1, fz_i on), (2, fz_i th), (3, fz_i wh)]) kX11_home rfl (by decide) rfl (by omega) rfl ?_
                        refine fz_goto (tgt := 40) kX11_home rfl (by decide) ?_
                        refine fz_sub (fz_pk_sub (ls' := [(6, fz_i (x36 + 1)), (5, fz_i x37), (4, fz_i x38), (0, fz_r 53), (1, fz_i on), (2, fz_i th), (3, fz_i wh)]) [0, 3, 4, 5, 6, 7, 8] rfl) ?_
                        exact ih44 (x36 + 1) x37 x38 H53 hI57 hf61 (by omega) (by omega) (by omega) (by omega)
                      · refine fz_iload kX11_home rfl rfl ?_
                        refine fz_bipush ⟨by decide, by decide⟩ kX11_home rfl ?_
                        refine fz_icmp_eq (tgt := 101) kX11_home rfl (by decide) (fun c66 => ?_) (fun c66 => ?_)
                        · refine fz_aload_n kX11_home rfl rfl ?_
                          refine fz_iload_n kX11_home rfl rfl ?_
                          refine fz_iload kX11_home rfl rfl ?_
                          refine fz_iload kX11_home rfl rfl ?_
                          refine fz_callV (d' := 4) (M' := mX11_marksIn) (As := [fz_i on, fz_i x36, fz_i z62]) (st := []) kX11_home rfl rfl vX11_marksIn rfl rfl rfl rfl (Nat.le_of_ble_eq_true rfl) (Nat.le_of_ble_eq_true rfl) (by decide) (sX11_marksIn H53 hI57 on x36 z62 (by omega)) (fun H67 r68 q69 o70 => ?_)
                          obtain ⟨hI71, hf72, y74, rfl, f73⟩ := q69
                          clear o70
                          have hf75 := fz_fr_tr hf61 hf72 (show fz_su [(74, 99999), (75, 99999)] [(74, 99999), (75, 99999), (86, 99999), (87, 99999), (88, 99999)] = true from rfl)
                          refine fz_if_le (tgt := 116) kX11_home rfl (by decide) (fun c76 => ?_) (fun c76 => ?_)
                          · refine fz_iload kX11_home rfl rfl ?_
                            refine fz_istore (ls' := [(5, fz_i z62), (8, fz_i z62), (7, fz_i y60), (6, fz_i x36), (4, fz_i x38), (0, fz_r 53), (1, fz_i on), (2, fz_i th), (3, fz_i wh)]) kX11_home rfl (by decide) rfl ?_
                            refine fz_iload kX11_home rfl rfl ?_
                            refine fz_istore (ls' := [(4, fz_i x36), (5, fz_i z62), (8, fz_i z62), (7, fz_i y60), (6, fz_i x36), (0, fz_r 53), (1, fz_i on), (2, fz_i th), (3, fz_i wh)]) kX11_home rfl (by decide) rfl ?_
                            refine fz_iincN (ls' := [(6, fz_i (x36 + 1)), (4, fz_i x36), (5, fz_i z62), (8, fz_i z62), (7, fz_i y60), (0, fz_r 53), (1, fz_i on), (2, fz_i th), (3, fz_i wh)]) kX11_home rfl (by decide) rfl (by omega) rfl ?_
                            refine fz_goto (tgt := 40) kX11_home rfl (by decide) ?_
                            refine fz_sub (fz_pk_sub (ls' := [(6, fz_i (x36 + 1)), (5, fz_i z62), (4, fz_i x36), (0, fz_r 53), (1, fz_i on), (2, fz_i th), (3, fz_i wh)]) [0, 2, 1, 5, 6, 7, 8] rfl) ?_
                            exact ih44 (x36 + 1) z62 x36 H67 hI71 hf75 (by omega) (by omega) (by omega) (by omega)
                          · refine fz_goto (tgt := 124) kX11_home rfl (by decide) ?_
                            refine fz_iincN (ls' := [(6, fz_i (x36 + 1)), (8, fz_i z62), (7, fz_i y60), (5, fz_i x37), (4, fz_i x38), (0, fz_r 53), (1, fz_i on), (2, fz_i th), (3, fz_i wh)]) kX11_home rfl (by decide) rfl (by omega) rfl ?_
                            refine fz_goto (tgt := 40) kX11_home rfl (by decide) ?_
                            refine fz_sub (fz_pk_sub (ls' := [(6, fz_i (x36 + 1)), (5, fz_i x37), (4, fz_i x38), (0, fz_r 53), (1, fz_i on), (2, fz_i th), (3, fz_i wh)]) [0, 3, 4, 5, 6, 7, 8] rfl) ?_
                            exact ih44 (x36 + 1) x37 x38 H67 hI71 hf75 (by omega) (by omega) (by omega) (by omega)
                        · refine fz_iload kX11_home rfl rfl ?_
                          refine fz_iload kX11_home rfl rfl ?_
                          refine fz_icmp_ge (tgt := 124) kX11_home rfl (by decide) (fun c77 => ?_) (fun c77 => ?_)
                          · refine fz_iincN (ls' := [(6, fz_i (x36 + 1)), (8, fz_i z62), (7, fz_i y60), (5, fz_i x37), (4, fz_i x38), (0, fz_r 53), (1, fz_i on), (2, fz_i th), (3, fz_i wh)]) kX11_home rfl (by decide) rfl (by omega) rfl ?_
                            refine fz_goto (tgt := 40) kX11_home rfl (by decide) ?_
                            refine fz_sub (fz_pk_sub (ls' := [(6, fz_i (x36 + 1)), (5, fz_i x37), (4, fz_i x38), (0, fz_r 53), (1, fz_i on), (2, fz_i th), (3, fz_i wh)]) [0, 3, 4, 5, 6, 7, 8] rfl) ?_
                            exact ih44 (x36 + 1) x37 x38 H53 hI57 hf61 (by omega) (by omega) (by omega) (by omega)
                          · refine fz_aload_n kX11_home rfl rfl ?_
                            refine fz_iload_n kX11_home rfl rfl ?_
                            refine fz_iload kX11_home rfl rfl ?_
                            refine fz_iload kX11_home rfl rfl ?_
                            refine fz_callV (d' := 4) (M' := mX11_marksIn) (As := [fz_i on, fz_i x36, fz_i z62]) (st := []) kX11_home rfl rfl vX11_marksIn rfl rfl rfl rfl (Nat.le_of_ble_eq_true rfl) (Nat.le_of_ble_eq_true rfl) (by decide) (sX11_marksIn H53 hI57 on x36 z62 (by omega)) (fun H78 r79 q80 o81 => ?_)
                            obtain ⟨hI82, hf83, y85, rfl, f84⟩ := q80
                            clear o81
                            have hf86 := fz_fr_tr hf61 hf83 (show fz_su [(74, 99999), (75, 99999)] [(74, 99999), (75, 99999), (86, 99999), (87, 99999), (88, 99999)] = true from rfl)
                            refine fz_if_le (tgt := 116) kX11_home rfl (by decide) (fun c87 => ?_) (fun c87 => ?_)
                            · refine fz_iload kX11_home rfl rfl ?_
                              refine fz_istore (ls' := [(5, fz_i z62), (8, fz_i z62), (7, fz_i y60), (6, fz_i x36), (4, fz_i x38), (0, fz_r 53), (1, fz_i on), (2, fz_i th), (3, fz_i wh)]) kX11_home rfl (by decide) rfl ?_
                              refine fz_iload kX11_home rfl rfl ?_
                              refine fz_istore (ls' := [(4, fz_i x36), (5, fz_i z62), (8, fz_i z62), (7, fz_i y60), (6, fz_i x36), (0, fz_r 53), (1, fz_i on), (2, fz_i th), (3, fz_i wh)]) kX11_home rfl (by decide) rfl ?_
                              refine fz_iincN (ls' := [(6, fz_i (x36 + 1)), (4, fz_i x36), (5, fz_i z62), (8, fz_i z62), (7, fz_i y60), (0, fz_r 53), (1, fz_i on), (2, fz_i th), (3, fz_i wh)]) kX11_home rfl (by decide) rfl (by omega) rfl ?_
                              refine fz_goto (tgt := 40) kX11_home rfl (by decide) ?_
                              refine fz_sub (fz_pk_sub (ls' := [(6, fz_i (x36 + 1)), (5, fz_i z62), (4, fz_i x36), (0, fz_r 53), (1, fz_i on), (2, fz_i th), (3, fz_i wh)]) [0, 2, 1, 5, 6, 7, 8] rfl) ?_
                              exact ih44 (x36 + 1) z62 x36 H78 hI82 hf86 (by omega) (by omega) (by omega) (by omega)
                            · refine fz_goto (tgt := 124) kX11_home rfl (by decide) ?_
                              refine fz_iincN (ls' := [(6, fz_i (x36 + 1)), (8, fz_i z62), (7, fz_i y60), (5, fz_i x37), (4, fz_i x38), (0, fz_r 53), (1, fz_i on), (2, fz_i th), (3, fz_i wh)]) kX11_home rfl (by decide) rfl (by omega) rfl ?_
                              refine fz_goto (tgt := 40) kX11_home rfl (by decide) ?_
                              refine fz_sub (fz_pk_sub (ls' := [(6, fz_i (x36 + 1)), (5, fz_i x37), (4, fz_i x38), (0, fz_r 53), (1, fz_i on), (2, fz_i th), (3, fz_i wh)]) [0, 3, 4, 5, 6, 7, 8] rfl) ?_
                              exact ih44 (x36 + 1) x37 x38 H78 hI82 hf86 (by omega) (by omega) (by omega) (by omega)
              exact lp43 _ 0 0 (-2) H29 hI33 hf35 (by omega) (by omega) (by omega) (Nat.lt_succ_self _)
            · exfalso; omega
          · refine fz_if_ne (tgt := 26) kX11_home rfl (by decide) (fun c88 => ?_) (fun c88 => ?_)
            · exfalso; omega
            · refine fz_iconst ⟨by decide, by decide⟩ kX11_home rfl ?_
              exact fz_iret kX11_home rfl rfl (fun _ => ⟨hI, hf, _, rfl, (by omega)⟩)
      · refine fz_if_eq (tgt := 24) kX11_home rfl (by decide) (fun c89 => ?_) (fun c89 => ?_)
        · refine fz_iconst ⟨by decide, by decide⟩ kX11_home rfl ?_
          exact fz_iret kX11_home rfl rfl (fun _ => ⟨hI, hf, _, rfl, (by omega)⟩)
        · exfalso; omega
  · refine fz_if_eq (tgt := 24) kX11_home rfl (by decide) (fun c90 => ?_) (fun c90 => ?_)
    · refine fz_iconst ⟨by decide, by decide⟩ kX11_home rfl ?_
      exact fz_iret kX11_home rfl rfl (fun _ => ⟨hI, hf, _, rfl, (by omega)⟩)
    · exfalso; omega

abbrev qX11_isAhead (h : fz_H) (n : Int) : fz_H → Option fz_V → Prop := fun h' r0 => h' = h ∧ ∃ r : Int, r0 = some (fz_i r) ∧ (r = 0 ∨ r = 1)
set_option maxHeartbeats 1000000 in
set_option maxRecDepth 100000 in
theorem sX11_isAhead (h : fz_H) (hI : fz_Iv h) (n : Int) (hp0 : 0 ≤ n ∧ n ≤ 4) : fz_R 0 mX11_isAhead 0 [(0, fz_r 53), (1, fz_i n)] [] h (qX11_isAhead h n) := by
  refine fz_knowl (fun hk => ?_)
  have hr_n : -2147483648 ≤ n ∧ n < 2147483648 := hk _ (List.Mem.tail _ (List.Mem.head _))
  clear hk
  refine fz_iload_n kX11_isAhead rfl rfl ?_
  refine fz_aload_n kX11_isAhead rfl rfl ?_
  refine fz_getV (v := h 53 55) kX11_isAhead rfl rfl rfl ?_
  have b1 : 0 ≤ h 53 55 ∧ h 53 55 ≤ 4 := hI.1 53 _
  refine fz_icmp_eq (tgt := 22) kX11_isAhead rfl (by decide) (fun c2 => ?_) (fun c2 => ?_)
  · refine fz_iconst ⟨by decide, by decide⟩ kX11_isAhead rfl ?_
    refine fz_istore_n (ls' := [(2, fz_i 0), (0, fz_r 53), (1, fz_i n)]) kX11_isAhead rfl (by decide) rfl ?_
    have lp5 : ∀ (n4 : Nat) (x3 : Int), (0 ≤ x3 ∧ x3 ≤ 2147483647) → (n - x3).toNat < n4 → fz_R 0 mX11_isAhead 24 [(2, fz_i x3), (0, fz_r 53), (1, fz_i n)] [] h (qX11_isAhead h n) := by
      intro n4
      induction n4 with
      | zero => intro x3 hv8 hm7; exact absurd hm7 (by omega)
      | succ n4 ih6 =>
        intro x3 hv8 hm7
        refine fz_iload_n kX11_isAhead rfl rfl ?_
        refine fz_iload_n kX11_isAhead rfl rfl ?_
        refine fz_icmp_ge (tgt := 71) kX11_isAhead rfl (by decide) (fun c9 => ?_) (fun c9 => ?_)
        · refine fz_iconst ⟨by decide, by decide⟩ kX11_isAhead rfl ?_
          exact fz_zret kX11_isAhead rfl rfl (by omega) ⟨rfl, _, rfl, (by omega)⟩
        · refine fz_aload_n kX11_isAhead rfl rfl ?_
          refine fz_getR (t := 90) kX11_isAhead rfl rfl ?_
          refine fz_iload_n kX11_isAhead rfl rfl ?_
          refine fz_ialdV (n := 4) (v := h 90 (x3.toNat)) kX11_isAhead rfl rfl (by omega) (by omega) rfl ?_
          have b10 : 0 ≤ h 90 (x3.toNat) ∧ h 90 (x3.toNat) ≤ 7 := hI.1 90 _
          refine fz_aload_n kX11_isAhead rfl rfl ?_
          refine fz_getR (t := 89) kX11_isAhead rfl rfl ?_
          refine fz_iload_n kX11_isAhead rfl rfl ?_
          refine fz_ialdV (n := 4) (v := h 89 (x3.toNat)) kX11_isAhead rfl rfl (by omega) (by omega) rfl ?_
          have b11 : 0 ≤ h 89 (x3.toNat) ∧ h 89 (x3.toNat) ≤ 7 := hI.1 89 _
          refine fz_icmp_eq (tgt := 65) kX11_isAhead rfl (by decide) (fun c12 => ?_) (fun c12 => ?_)
          · refine fz_iincN (ls' := [(2, fz_i (x3 + 1)), (0, fz_r 53), (1, fz_i n)]) kX11_isAhead rfl (by decide) rfl (by omega) rfl ?_
            refine fz_goto (tgt := 24) kX11_isAhead rfl (by decide) ?_
            exact ih6 (x3 + 1) (by omega) (by omega)
          · refine fz_aload_n kX11_isAhead rfl rfl ?_
            refine fz_getR (t := 90) kX11_isAhead rfl rfl ?_
            refine fz_iload_n kX11_isAhead rfl rfl ?_
            refine fz_ialdV (n := 4) (v := h 90 (x3.toNat)) kX11_isAhead rfl rfl (by omega) (by omega) rfl ?_
            refine fz_aload_n kX11_isAhead rfl rfl ?_
            refine fz_getR (t := 89) kX11_isAhead rfl rfl ?_
            refine fz_iload_n kX11_isAhead rfl rfl ?_
            refine fz_ialdV (n := 4) (v := h 89 (x3.toNat)) kX11_isAhead rfl rfl (by omega) (by omega) rfl ?_
            refine fz_icmp_ge (tgt := 63) kX11_isAhead rfl (by decide) (fun c13 => ?_) (fun c13 => ?_)
            · refine fz_iconst ⟨by decide, by decide⟩ kX11_isAhead rfl ?_
              exact fz_zret kX11_isAhead rfl rfl (by omega) ⟨rfl, _, rfl, (by omega)⟩
            · refine fz_iconst ⟨by decide, by decide⟩ kX11_isAhead rfl ?_
              refine fz_goto (tgt := 64) kX11_isAhead rfl (by decide) ?_
              exact fz_zret kX11_isAhead rfl rfl (by omega) ⟨rfl, _, rfl, (by omega)⟩
    exact lp5 _ 0 (by omega) (Nat.lt_succ_self _)
  · refine fz_iload_n kX11_isAhead rfl rfl ?_
    refine fz_aload_n kX11_isAhead rfl rfl ?_
    refine fz_getV (v := h 53 55) kX11_isAhead rfl rfl rfl ?_
    refine fz_icmp_ge (tgt := 20) kX11_isAhead rfl (by decide) (fun c14 => ?_) (fun c14 => ?_)
    · refine fz_iconst ⟨by decide, by decide⟩ kX11_isAhead rfl ?_
      exact fz_zret kX11_isAhead rfl rfl (by omega) ⟨rfl, _, rfl, (by omega)⟩
    · refine fz_iconst ⟨by decide, by decide⟩ kX11_isAhead rfl ?_
      refine fz_goto (tgt := 21) kX11_isAhead rfl (by decide) ?_
      exact fz_zret kX11_isAhead rfl rfl (by omega) ⟨rfl, _, rfl, (by omega)⟩

abbrev qX11_tries_4 (h : fz_H) (pe t hr su : Int) : fz_H → Option fz_V → Prop := fun h' r0 => fz_Iv h' ∧ fz_fr [(53, 54), (53, 55), (74, 99999), (75, 99999), (89, 99999), (90, 99999)] h h' ∧ r0 = none
set_option maxHeartbeats 1000000 in
set_option maxRecDepth 100000 in
theorem sX11_tries_4 (h : fz_H) (hI : fz_Iv h) (pe t hr su : Int) (hp0 : 0 ≤ t ∧ t ≤ 7) : fz_R 1 mX11_tries 0 [(0, fz_r 53), (1, fz_i pe), (2, fz_i t), (3, fz_i hr), (4, fz_i 4), (5, fz_i su)] [] h (qX11_tries_4 h pe t hr su) := by
  refine fz_knowl (fun hk => ?_)
  have hr_pe : -2147483648 ≤ pe ∧ pe < 2147483648 := hk _ (List.Mem.tail _ (List.Mem.head _))
  have hr_t : -2147483648 ≤ t ∧ t < 2147483648 := hk _ (List.Mem.tail _ (List.Mem.tail _ (List.Mem.head _)))
  have hr_hr : -2147483648 ≤ hr ∧ hr < 2147483648 := hk _ (List.Mem.tail _ (List.Mem.tail _ (List.Mem.tail _ (List.Mem.head _))))
  have hr_su : -2147483648 ≤ su ∧ su < 2147483648 := hk _ (List.Mem.tail _ (List.Mem.tail _ (List.Mem.tail _ (List.Mem.tail _ (List.Mem.tail _ (List.Mem.head _))))))
  clear hk
  have hf : fz_fr [(53, 54), (53, 55), (74, 99999), (75, 99999), (89, 99999), (90, 99999)] h h := fz_fr_rf
  refine fz_iload kX11_tries rfl rfl ?_
  refine fz_aload_n kX11_tries rfl rfl ?_
  refine fz_getV (v := h 53 54) kX11_tries rfl rfl rfl ?_
  have b1 : (-2147483648) ≤ h 53 54 ∧ h 53 54 ≤ 2147483647 := hI.1 53 _
  refine fz_icmp_gt (tgt := 27) kX11_tries rfl (by decide) (fun c2 => ?_) (fun c2 => ?_)
  · refine fz_aload_n kX11_tries rfl rfl ?_
    refine fz_iload kX11_tries rfl rfl ?_
    refine fz_putI kX11_tries rfl rfl rfl ?_
    refine fz_nmu (S := [(53, 54), (53, 55), (74, 99999), (75, 99999), (89, 99999), (90, 99999)]) (h0 := h) (fz_Iv_up hI (by decide) (show (-2147483648) ≤ su by omega) (show su ≤ 2147483647 by omega)) (fz_fr_up hf rfl) (fun H3 hI4 hf5 e6 => ?_)
    have k7 : H3 53 54 = su := by rw [e6]; exact fz_up_e
    clear e6
    refine fz_aload_n kX11_tries rfl rfl ?_
    refine fz_iload kX11_tries rfl rfl ?_
    refine fz_putI kX11_tries rfl rfl rfl ?_
    refine fz_nmu (S := [(53, 54), (53, 55), (74, 99999), (75, 99999), (89, 99999), (90, 99999)]) (h0 := h) (fz_Iv_up hI4 (by decide) (show 0 ≤ 4 by omega) (show 4 ≤ 4 by omega)) (fz_fr_up hf5 rfl) (fun H8 hI9 hf10 e11 => ?_)
    have k12 : H8 53 54 = su := by rw [e11]; exact (fz_up_s (by decide)).trans k7
    have k13 : H8 53 55 = 4 := by rw [e11]; exact fz_up_e
    clear e11
    refine fz_iconst ⟨by decide, by decide⟩ kX11_tries rfl ?_
    refine fz_istore (ls' := [(6, fz_i 0), (0, fz_r 53), (1, fz_i pe), (2, fz_i t), (3, fz_i hr), (4, fz_i 4), (5, fz_i su)]) kX11_tries rfl (by decide) rfl ?_
    have lp19 : ∀ (n18 : Nat) (x14 : Int) (H15 : fz_H), fz_Iv H15 → fz_fr [(53, 54), (53, 55), (74, 99999), (75, 99999), (89, 99999), (90, 99999)] h H15 → (0 ≤ x14 ∧ x14 ≤ 2147483647) → (4 - x14).toNat < n18 → fz_R 1 mX11_tries 42 [(6, fz_i x14), (0, fz_r 53), (1, fz_i pe), (2, fz_i t), (3, fz_i hr), (4, fz_i 4), (5, fz_i su)] [] H15 (qX11_tries_4 h pe t hr su) := by
      intro n18
      induction n18 with
      | zero => intro x14 H15 hI16 hf17 hv22 hm21; exact absurd hm21 (by omega)
      | succ n18 ih20 =>
        intro x14 H15 hI16 hf17 hv22 hm21
        refine fz_iload kX11_tries rfl rfl ?_
        refine fz_iload kX11_tries rfl rfl ?_
        refine fz_icmp_ge (tgt := 69) kX11_tries rfl (by decide) (fun c23 => ?_) (fun c23 => ?_)
        · refine fz_iload kX11_tries rfl rfl ?_
          refine fz_iconst ⟨by decide, by decide⟩ kX11_tries rfl ?_
          refine fz_icmp_ne (tgt := 76) kX11_tries rfl (by decide) (fun c24 => ?_) (fun c24 => ?_)
          · exfalso; omega
          · exact fz_vret kX11_tries rfl rfl ⟨hI16, hf17, rfl⟩
        · refine fz_aload_n kX11_tries rfl rfl ?_
          refine fz_getR (t := 89) kX11_tries rfl rfl ?_
          refine fz_iload kX11_tries rfl rfl ?_
          refine fz_aload_n kX11_tries rfl rfl ?_
          refine fz_getR (t := 90) kX11_tries rfl rfl ?_
          refine fz_iload kX11_tries rfl rfl ?_
          obtain ⟨v25, e26⟩ : ∃ z, H15 90 (x14.toNat) = z := ⟨_, rfl⟩
          refine fz_ialdV (n := 4) (v := v25) kX11_tries rfl rfl (by omega) (by omega) e26 ?_
          have b27 : 0 ≤ v25 ∧ v25 ≤ 7 := by rw [← e26]; exact hI16.1 90 _
          refine fz_iast (n := 4) kX11_tries rfl rfl (by omega) (by omega) ?_
          refine fz_nmu (S := [(53, 54), (53, 55), (74, 99999), (75, 99999), (89, 99999), (90, 99999)]) (h0 := h) (fz_Iv_up hI16 (by decide) (show 0 ≤ v25 by omega) (show v25 ≤ 7 by omega)) (fz_fr_up hf17 rfl) (fun H28 hI29 hf30 e31 => ?_)
          clear e31
          refine fz_iincN (ls' := [(6, fz_i (x14 + 1)), (0, fz_r 53), (1, fz_i pe), (2, fz_i t), (3, fz_i hr), (4, fz_i 4), (5, fz_i su)]) kX11_tries rfl (by decide) rfl (by omega) rfl ?_
          refine fz_goto (tgt := 42) kX11_tries rfl (by decide) ?_
          exact ih20 (x14 + 1) H28 hI29 hf30 (by omega) (by omega)
    exact lp19 _ 0 H8 hI9 hf10 (by omega) (Nat.lt_succ_self _)
  · refine fz_iload kX11_tries rfl rfl ?_
    refine fz_aload_n kX11_tries rfl rfl ?_
    refine fz_getV (v := h 53 54) kX11_tries rfl rfl rfl ?_
    refine fz_icmp_ne (tgt := 69) kX11_tries rfl (by decide) (fun c32 => ?_) (fun c32 => ?_)
    · refine fz_iload kX11_tries rfl rfl ?_
      refine fz_iconst ⟨by decide, by decide⟩ kX11_tries rfl ?_
      refine fz_icmp_ne (tgt := 76) kX11_tries rfl (by decide) (fun c33 => ?_) (fun c33 => ?_)
      · exfalso; omega
      · exact fz_vret kX11_tries rfl rfl ⟨hI, hf, rfl⟩
    · refine fz_aload_n kX11_tries rfl rfl ?_
      refine fz_iload kX11_tries rfl rfl ?_
      refine fz_callV (d' := 0) (M' := mX11_isAhead) (As := [fz_i 4]) (st := []) kX11_tries rfl rfl vX11_isAhead rfl rfl rfl rfl (Nat.le_of_ble_eq_true rfl) (Nat.le_of_ble_eq_true rfl) (by decide) (sX11_isAhead h hI 4 (by omega)) (fun H34 r35 q36 o37 => ?_)
      obtain ⟨e38, y39, rfl, p40⟩ := q36
      subst H34
      clear o37
      refine fz_if_eq (tgt := 69) kX11_tries rfl (by decide) (fun c41 => ?_) (fun c41 => ?_)
      · refine fz_iload kX11_tries rfl rfl ?_
        refine fz_iconst ⟨by decide, by decide⟩ kX11_tries rfl ?_
        refine fz_icmp_ne (tgt := 76) kX11_tries rfl (by decide) (fun c42 => ?_) (fun c42 => ?_)
        · exfalso; omega
        · exact fz_vret kX11_tries rfl rfl ⟨hI, hf, rfl⟩
      · refine fz_aload_n kX11_tries rfl rfl ?_
        refine fz_iload kX11_tries rfl rfl ?_
        refine fz_putI kX11_tries rfl rfl rfl ?_
        refine fz_nmu (S := [(53, 54), (53, 55), (74, 99999), (75, 99999), (89, 99999), (90, 99999)]) (h0 := h) (fz_Iv_up hI (by decide) (show (-2147483648) ≤ su by omega) (show su ≤ 2147483647 by omega)) (fz_fr_up hf rfl) (fun H43 hI44 hf45 e46 => ?_)
        have k47 : H43 53 54 = su := by rw [e46]; exact fz_up_e
        clear e46
        refine fz_aload_n kX11_tries rfl rfl ?_
        refine fz_iload kX11_tries rfl rfl ?_
        refine fz_putI kX11_tries rfl rfl rfl ?_
        refine fz_nmu (S := [(53, 54), (53, 55), (74, 99999), (75, 99999), (89, 99999), (90, 99999)]) (h0 := h) (fz_Iv_up hI44 (by decide) (show 0 ≤ 4 by omega) (show 4 ≤ 4 by omega)) (fz_fr_up hf45 rfl) (fun H48 hI49 hf50 e51 => ?_)
        have k52 : H48 53 54 = su := by rw [e51]; exact (fz_up_s (by decide)).trans k47
        have k53 : H48 53 55 = 4 := by rw [e51]; exact fz_up_e
        clear e51
        refine fz_iconst ⟨by decide, by decide⟩ kX11_tries rfl ?_
        refine fz_istore (ls' := [(6, fz_i 0), (0, fz_r 53), (1, fz_i pe), (2, fz_i t), (3, fz_i hr), (4, fz_i 4), (5, fz_i su)]) kX11_tries rfl (by decide) rfl ?_
        have lp59 : ∀ (n58 : Nat) (x54 : Int) (H55 : fz_H), fz_Iv H55 → fz_fr [(53, 54), (53, 55), (74, 99999), (75, 99999), (89, 99999), (90, 99999)] h H55 → (0 ≤ x54 ∧ x54 ≤ 2147483647) → (4 - x54).toNat < n58 → fz_R 1 mX11_tries 42 [(6, fz_i x54), (0, fz_r 53), (1, fz_i pe), (2, fz_i t), (3, fz_i hr), (4, fz_i 4), (5, fz_i su)] [] H55 (qX11_tries_4 h pe t hr su) := by
          intro n58
          induction n58 with
          | zero => intro x54 H55 hI56 hf57 hv62 hm61; exact absurd hm61 (by omega)
          | succ n58 ih60 =>
            intro x54 H55 hI56 hf57 hv62 hm61
            refine fz_iload kX11_tries rfl rfl ?_
            refine fz_iload kX11_tries rfl rfl ?_
            refine fz_icmp_ge (tgt := 69) kX11_tries rfl (by decide) (fun c63 => ?_) (fun c63 => ?_)
            · refine fz_iload kX11_tries rfl rfl ?_
              refine fz_iconst ⟨by decide, by decide⟩ kX11_tries rfl ?_
              refine fz_icmp_ne (tgt := 76) kX11_tries rfl (by decide) (fun c64 => ?_) (fun c64 => ?_)
              · exfalso; omega
              · exact fz_vret kX11_tries rfl rfl ⟨hI56, hf57, rfl⟩
            · refine fz_aload_n kX11_tries rfl rfl ?_
              refine fz_getR (t := 89) kX11_tries rfl rfl ?_
              refine fz_iload kX11_tries rfl rfl ?_
              refine fz_aload_n kX11_tries rfl rfl ?_
              refine fz_getR (t := 90) kX11_tries rfl rfl ?_
              refine fz_iload kX11_tries rfl rfl ?_
              obtain ⟨v65, e66⟩ : ∃ z, H55 90 (x54.toNat) = z := ⟨_, rfl⟩
              refine fz_ialdV (n := 4) (v := v65) kX11_tries rfl rfl (by omega) (by omega) e66 ?_
              have b67 : 0 ≤ v65 ∧ v65 ≤ 7 := by rw [← e66]; exact hI56.1 90 _
              refine fz_iast (n := 4) kX11_tries rfl rfl (by omega) (by omega) ?_
              refine fz_nmu (S := [(53, 54), (53, 55), (74, 99999), (75, 99999), (89, 99999), (90, 99999)]) (h0 := h) (fz_Iv_up hI56 (by decide) (show 0 ≤ v65 by omega) (show v65 ≤ 7 by omega)) (fz_fr_up hf57 rfl) (fun H68 hI69 hf70 e71 => ?_)
              clear e71
              refine fz_iincN (ls' := [(6, fz_i (x54 + 1)), (0, fz_r 53), (1, fz_i pe), (2, fz_i t), (3, fz_i hr), (4, fz_i 4), (5, fz_i su)]) kX11_tries rfl (by decide) rfl (by omega) rfl ?_
              refine fz_goto (tgt := 42) kX11_tries rfl (by decide) ?_
              exact ih60 (x54 + 1) H68 hI69 hf70 (by omega) (by omega)
        exact lp59 _ 0 H48 hI49 hf50 (by omega) (Nat.lt_succ_self _)

abbrev qX11_tries_3 (h : fz_H) (pe t hr su : Int) : fz_H → Option fz_V → Prop := fun h' r0 => fz_Iv h' ∧ fz_fr [(53, 54), (53, 55), (74, 99999), (75, 99999), (89, 99999), (90, 99999)] h h' ∧ r0 = none
set_option maxHeartbeats 1000000 in
set_option maxRecDepth 100000 in
theorem sX11_tries_3 (h : fz_H) (hI : fz_Iv h) (pe t hr su : Int) (hp0 : 0 ≤ t ∧ t ≤ 7) : fz_R 5 mX11_tries 0 [(0, fz_r 53), (1, fz_i pe), (2, fz_i t), (3, fz_i hr), (4, fz_i 3), (5, fz_i su)] [] h (qX11_tries_3 h pe t hr su) := by
  refine fz_knowl (fun hk => ?_)
  have hr_pe : -2147483648 ≤ pe ∧ pe < 2147483648 := hk _ (List.Mem.tail _ (List.Mem.head _))
  have hr_t : -2147483648 ≤ t ∧ t < 2147483648 := hk _ (List.Mem.tail _ (List.Mem.tail _ (List.Mem.head _)))
  have hr_hr : -2147483648 ≤ hr ∧ hr < 2147483648 := hk _ (List.Mem.tail _ (List.Mem.tail _ (List.Mem.tail _ (List.Mem.head _))))
  have hr_su : -2147483648 ≤ su ∧ su < 2147483648 := hk _ (List.Mem.tail _ (List.Mem.tail _ (List.Mem.tail _ (List.Mem.tail _ (List.Mem.tail _ (List.Mem.head _))))))
  clear hk
  have hf : fz_fr [(53, 54), (53, 55), (74, 99999), (75, 99999), (89, 99999), (90, 99999)] h h := fz_fr_rf
  refine fz_iload kX11_tries rfl rfl ?_
  refine fz_aload_n kX11_tries rfl rfl ?_
  refine fz_getV (v := h 53 54) kX11_tries rfl rfl rfl ?_
  have b1 : (-2147483648) ≤ h 53 54 ∧ h 53 54 ≤ 2147483647 := hI.1 53 _
  refine fz_icmp_gt (tgt := 27) kX11_tries rfl (by decide) (fun c2 => ?_) (fun c2 => ?_)
  · refine fz_aload_n kX11_tries rfl rfl ?_
    refine fz_iload kX11_tries rfl rfl ?_
    refine fz_putI kX11_tries rfl rfl rfl ?_
    refine fz_nmu (S := [(53, 54), (53, 55), (74, 99999), (75, 99999), (89, 99999), (90, 99999)]) (h0 := h) (fz_Iv_up hI (by decide) (show (-2147483648) ≤ su by omega) (show su ≤ 2147483647 by omega)) (fz_fr_up hf rfl) (fun H3 hI4 hf5 e6 => ?_)
    have k7 : H3 53 54 = su := by rw [e6]; exact fz_up_e
    clear e6
    refine fz_aload_n kX11_tries rfl rfl ?_
    refine fz_iload kX11_tries rfl rfl ?_
    refine fz_putI kX11_tries rfl rfl rfl ?_
    refine fz_nmu (S := [(53, 54), (53, 55), (74, 99999), (75, 99999), (89, 99999), (90, 99999)]) (h0 := h) (fz_Iv_up hI4 (by decide) (show 0 ≤ 3 by omega) (show 3 ≤ 4 by omega)) (fz_fr_up hf5 rfl) (fun H8 hI9 hf10 e11 => ?_)
    have k12 : H8 53 54 = su := by rw [e11]; exact (fz_up_s (by decide)).trans k7
    have k13 : H8 53 55 = 3 := by rw [e11]; exact fz_up_e
    clear e11
    refine fz_iconst ⟨by decide, by decide⟩ kX11_tries rfl ?_
    refine fz_istore (ls' := [(6, fz_i 0), (0, fz_r 53), (1, fz_i pe), (2, fz_i t), (3, fz_i hr), (4, fz_i 3), (5, fz_i su)]) kX11_tries rfl (by decide) rfl ?_
    have lp19 : ∀ (n18 : Nat) (x14 : Int) (H15 : fz_H), fz_Iv H15 → fz_fr [(53, 54), (53, 55), (74, 99999), (75, 99999), (89, 99999), (90, 99999)] h H15 → (0 ≤ x14 ∧ x14 ≤ 2147483647) → (3 - x14).toNat < n18 → fz_R 5 mX11_tries 42 [(6, fz_i x14), (0, fz_r 53), (1, fz_i pe), (2, fz_i t), (3, fz_i hr), (4, fz_i 3), (5, fz_i su)] [] H15 (qX11_tries_3 h pe t hr su) := by
      intro n18
      induction n18 with
      | zero => intro x14 H15 hI16 hf17 hv22 hm21; exact absurd hm21 (by omega)
      | succ n18 ih20 =>
        intro x14 H15 hI16 hf17 hv22 hm21
        refine fz_iload kX11_tries rfl rfl ?_
        refine fz_iload kX11_tries rfl rfl ?_
        refine fz_icmp_ge (tgt := 69) kX11_tries rfl (by decide) (fun c23 => ?_) (fun c23 => ?_)
        · refine fz_iload kX11_tries rfl rfl ?_
          refine fz_iconst ⟨by decide, by decide⟩ kX11_tries rfl ?_
          refine fz_icmp_ne (tgt := 76) kX11_tries rfl (by decide) (fun c24 => ?_) (fun c24 => ?_)
          · refine fz_iconst ⟨by decide, by decide⟩ kX11_tries rfl ?_
            refine fz_istore (ls' := [(6, fz_i 0), (0, fz_r 53), (1, fz_i pe), (2, fz_i t), (3, fz_i hr), (4, fz_i 3), (5, fz_i su)]) kX11_tries rfl (by decide) rfl ?_
            have lp30 : ∀ (n29 : Nat) (x25 : Int) (H26 : fz_H), fz_Iv H26 → fz_fr [(53, 54), (53, 55), (74, 99999), (75, 99999), (89, 99999), (90, 99999)] h H26 → (0 ≤ x25 ∧ x25 ≤ 2147483647) → ((h 53 2) - x25).toNat < n29 → fz_R 5 mX11_tries 79 [(6, fz_i x25), (0, fz_r 53), (1, fz_i pe), (2, fz_i t), (3, fz_i hr), (4, fz_i 3), (5, fz_i su)] [] H26 (qX11_tries_3 h pe t hr su) := by
              intro n29
              induction n29 with
              | zero => intro x25 H26 hI27 hf28 hv33 hm32; exact absurd hm32 (by omega)
              | succ n29 ih31 =>
                intro x25 H26 hI27 hf28 hv33 hm32
                refine fz_iload kX11_tries rfl rfl ?_
                refine fz_aload_n kX11_tries rfl rfl ?_
                refine fz_getV (v := h 53 2) kX11_tries rfl rfl (hf28 53 2 rfl) ?_
                have b34 : 0 ≤ h 53 2 ∧ h 53 2 ≤ 12 := hI.1 53 _
                refine fz_icmp_ge (tgt := 217) kX11_tries rfl (by decide) (fun c35 => ?_) (fun c35 => ?_)
                · exact fz_vret kX11_tries rfl rfl ⟨hI27, hf28, rfl⟩
                · refine fz_aload_n kX11_tries rfl rfl ?_
                  refine fz_getR (t := 55) kX11_tries rfl rfl ?_
                  refine fz_iload kX11_tries rfl rfl ?_
                  refine fz_ialdV (n := 12) (v := h 55 (x25.toNat)) kX11_tries rfl rfl (by omega) (by omega) (hf28 55 _ rfl) ?_
                  have b36 : 0 ≤ h 55 (x25.toNat) ∧ h 55 (x25.toNat) ≤ 7 := hI.1 55 _
                  refine fz_iload_n kX11_tries rfl rfl ?_
                  refine fz_icmp_eq (tgt := 113) kX11_tries rfl (by decide) (fun c37 => ?_) (fun c37 => ?_)
                  · refine fz_aload_n kX11_tries rfl rfl ?_
                    refine fz_getR (t := 55) kX11_tries rfl rfl ?_
                    refine fz_iload kX11_tries rfl rfl ?_
                    refine fz_ialdV (n := 12) (v := h 55 (x25.toNat)) kX11_tries rfl rfl (by omega) (by omega) (hf28 55 _ rfl) ?_
                    refine fz_iload_n kX11_tries rfl rfl ?_
                    refine fz_icmp_ne (tgt := 134) kX11_tries rfl (by decide) (fun c38 => ?_) (fun c38 => ?_)
                    · refine fz_aload_n kX11_tries rfl rfl ?_
                      refine fz_getR (t := 55) kX11_tries rfl rfl ?_
                      refine fz_iload kX11_tries rfl rfl ?_
                      refine fz_ialdV (n := 12) (v := h 55 (x25.toNat)) kX11_tries rfl rfl (by omega) (by omega) (hf28 55 _ rfl) ?_
                      refine fz_istore (ls' := [(7, fz_i (h 55 (x25.toNat))), (6, fz_i x25), (0, fz_r 53), (1, fz_i pe), (2, fz_i t), (3, fz_i hr), (4, fz_i 3), (5, fz_i su)]) kX11_tries rfl (by decide) rfl ?_
                      refine fz_iload_n kX11_tries rfl rfl ?_
                      refine fz_aload_n kX11_tries rfl rfl ?_
                      refine fz_getR (t := 57) kX11_tries rfl rfl ?_
                      refine fz_iload kX11_tries rfl rfl ?_
                      refine fz_ialdV (n := 12) (v := h 57 (x25.toNat)) kX11_tries rfl rfl (by omega) (by omega) (hf28 57 _ rfl) ?_
                      have b39 : 0 ≤ h 57 (x25.toNat) ∧ h 57 (x25.toNat) ≤ 24 := hI.1 57 _
                      refine fz_iadd kX11_tries rfl ?_
                      refine fz_nmw (fun z40 e41 => ?_)
                      refine fz_istore (ls' := [(8, fz_i z40), (7, fz_i (h 55 (x25.toNat))), (6, fz_i x25), (0, fz_r 53), (1, fz_i pe), (2, fz_i t), (3, fz_i hr), (4, fz_i 3), (5, fz_i su)]) kX11_tries rfl (by decide) rfl ?_
                      refine fz_iload kX11_tries rfl rfl ?_
                      refine fz_sipush ⟨by decide, by decide⟩ kX11_tries rfl ?_
                      refine fz_icmp_gt (tgt := 211) kX11_tries rfl (by decide) (fun c42 => ?_) (fun c42 => ?_)
                      · refine fz_iincN (ls' := [(6, fz_i (x25 + 1)), (8, fz_i z40), (7, fz_i (h 55 (x25.toNat))), (0, fz_r 53), (1, fz_i pe), (2, fz_i t), (3, fz_i hr), (4, fz_i 3), (5, fz_i su)]) kX11_tries rfl (by decide) rfl (by omega) rfl ?_
                        refine fz_goto (tgt := 79) kX11_tries rfl (by decide) ?_
                        refine fz_sub (fz_pk_sub (ls' := [(6, fz_i (x25 + 1)), (0, fz_r 53), (1, fz_i pe), (2, fz_i t), (3, fz_i hr), (4, fz_i 3), (5, fz_i su)]) [0, 3, 4, 5, 6, 7, 8] rfl) ?_
                        exact ih31 (x25 + 1) H26 hI27 hf28 (by omega) (by omega)
                      · refine fz_aload_n kX11_tries rfl rfl ?_
                        refine fz_iload_n kX11_tries rfl rfl ?_
                        refine fz_iload kX11_tries rfl rfl ?_
                        refine fz_iload kX11_tries rfl rfl ?_
                        refine fz_callV (d' := 4) (M' := mX11_isArrested) (As := [fz_i pe, fz_i (h 55 (x25.toNat)), fz_i z40]) (st := []) kX11_tries rfl rfl vX11_isArrested rfl rfl rfl rfl (Nat.le_of_ble_eq_true rfl) (Nat.le_of_ble_eq_true rfl) (by decide) (sX11_isArrested H26 hI27 pe (h 55 (x25.toNat)) z40 (by omega)) (fun H43 r44 q45 o46 => ?_)
                        obtain ⟨hI47, hf48, y49, rfl, p50⟩ := q45
                        clear o46
                        have hf51 := fz_fr_tr hf28 hf48 (show fz_su [(74, 99999), (75, 99999)] [(53, 54), (53, 55), (74, 99999), (75, 99999), (89, 99999), (90, 99999)] = true from rfl)
                        refine fz_if_eq (tgt := 177) kX11_tries rfl (by decide) (fun c52 => ?_) (fun c52 => ?_)
                        · refine fz_aload_n kX11_tries rfl rfl ?_
                          refine fz_getR (t := 90) kX11_tries rfl rfl ?_
                          refine fz_iload kX11_tries rfl rfl ?_
                          refine fz_iload kX11_tries rfl rfl ?_
                          refine fz_iast (n := 4) kX11_tries rfl rfl (by omega) (by omega) ?_
                          refine fz_nmu (S := [(53, 54), (53, 55), (74, 99999), (75, 99999), (89, 99999), (90, 99999)]) (h0 := h) (fz_Iv_up hI47 (by decide) (show 0 ≤ (h 55 (x25.toNat)) by omega) (show (h 55 (x25.toNat)) ≤ 7 by omega)) (fz_fr_up hf51 rfl) (fun H53 hI54 hf55 e56 => ?_)
                          clear e56
                          refine fz_aload_n kX11_tries rfl rfl ?_
                          refine fz_iload_n kX11_tries rfl rfl ?_
                          refine fz_iload kX11_tries rfl rfl ?_
                          refine fz_iload kX11_tries rfl rfl ?_
                          refine fz_iload kX11_tries rfl rfl ?_
                          refine fz_iconst ⟨by decide, by decide⟩ kX11_tries rfl ?_
                          refine fz_iaddN kX11_tries rfl ⟨by decide, by decide⟩ ?_
                          refine fz_eqi (y := 4) rfl ?_
                          refine fz_iload kX11_tries rfl rfl ?_
                          refine fz_aload_n kX11_tries rfl rfl ?_
                          refine fz_iload_n kX11_tries rfl rfl ?_
                          refine fz_iload kX11_tries rfl rfl ?_
                          refine fz_iload kX11_tries rfl rfl ?_
                          refine fz_callV (d' := 4) (M' := mX11_receivedIn) (As := [fz_i pe, fz_i (h 55 (x25.toNat)), fz_i z40]) (st := [fz_i su, fz_i 4, fz_i z40, fz_i (h 55 (x25.toNat)), fz_i pe, fz_r 53]) kX11_tries rfl rfl vX11_receivedIn rfl rfl rfl rfl (Nat.le_of_ble_eq_true rfl) (Nat.le_of_ble_eq_true rfl) (by decide) (sX11_receivedIn H53 hI54 pe (h 55 (x25.toNat)) z40 (by omega)) (fun H57 r58 q59 o60 => ?_)
                          obtain ⟨hI61, hf62, y64, rfl, f63⟩ := q59
                          clear o60
                          have hf65 := fz_fr_tr hf55 hf62 (show fz_su [(74, 99999), (75, 99999)] [(53, 54), (53, 55), (74, 99999), (75, 99999), (89, 99999), (90, 99999)] = true from rfl)
                          refine fz_iadd kX11_tries rfl ?_
                          refine fz_nmw (fun z66 e67 => ?_)
                          refine fz_callV (d' := 1) (M' := mX11_tries) (As := [fz_i pe, fz_i (h 55 (x25.toNat)), fz_i z40, fz_i 4, fz_i z66]) (st := []) kX11_tries rfl rfl vX11_tries rfl rfl rfl rfl (Nat.le_of_ble_eq_true rfl) (Nat.le_of_ble_eq_true rfl) (by decide) (sX11_tries_4 H57 hI61 pe (h 55 (x25.toNat)) z40 z66 (by omega)) (fun H68 r69 q70 o71 => ?_)
                          obtain ⟨hI72, hf73, rfl⟩ := q70
                          clear o71
                          have hf74 := fz_fr_tr hf65 hf73 (show fz_su [(53, 54), (53, 55), (74, 99999), (75, 99999), (89, 99999), (90, 99999)] [(53, 54), (53, 55), (74, 99999), (75, 99999), (89, 99999), (90, 99999)] = true from rfl)
                          refine fz_iincN (ls' := [(6, fz_i (x25 + 1)), (8, fz_i z40), (7, fz_i (h 55 (x25.toNat))), (0, fz_r 53), (1, fz_i pe), (2, fz_i t), (3, fz_i hr), (4, fz_i 3), (5, fz_i su)]) kX11_tries rfl (by decide) rfl (by omega) rfl ?_
                          refine fz_goto (tgt := 79) kX11_tries rfl (by decide) ?_
                          refine fz_sub (fz_pk_sub (ls' := [(6, fz_i (x25 + 1)), (0, fz_r 53), (1, fz_i pe), (2, fz_i t), (3, fz_i hr), (4, fz_i 3), (5, fz_i su)]) [0, 3, 4, 5, 6, 7, 8] rfl) ?_
                          exact ih31 (x25 + 1) H68 hI72 hf74 (by omega) (by omega)
                        · refine fz_goto (tgt := 211) kX11_tries rfl (by decide) ?_
                          refine fz_iincN (ls' := [(6, fz_i (x25 + 1)), (8, fz_i z40), (7, fz_i (h 55 (x25.toNat))), (0, fz_r 53), (1, fz_i pe), (2, fz_i t), (3, fz_i hr), (4, fz_i 3), (5, fz_i su)]) kX11_tries rfl (by decide) rfl (by omega) rfl ?_
                          refine fz_goto (tgt := 79) kX11_tries rfl (by decide) ?_
                          refine fz_sub (fz_pk_sub (ls' := [(6, fz_i (x25 + 1)), (0, fz_r 53), (1, fz_i pe), (2, fz_i t), (3, fz_i hr), (4, fz_i 3), (5, fz_i su)]) [0, 3, 4, 5, 6, 7, 8] rfl) ?_
                          exact ih31 (x25 + 1) H43 hI47 hf51 (by omega) (by omega)
                    · refine fz_aload_n kX11_tries rfl rfl ?_
                      refine fz_getR (t := 56) kX11_tries rfl rfl ?_
                      refine fz_iload kX11_tries rfl rfl ?_
                      refine fz_ialdV (n := 12) (v := h 56 (x25.toNat)) kX11_tries rfl rfl (by omega) (by omega) (hf28 56 _ rfl) ?_
                      have b75 : 0 ≤ h 56 (x25.toNat) ∧ h 56 (x25.toNat) ≤ 7 := hI.1 56 _
                      refine fz_goto (tgt := 141) kX11_tries rfl (by decide) ?_
                      refine fz_istore (ls' := [(7, fz_i (h 56 (x25.toNat))), (6, fz_i x25), (0, fz_r 53), (1, fz_i pe), (2, fz_i t), (3, fz_i hr), (4, fz_i 3), (5, fz_i su)]) kX11_tries rfl (by decide) rfl ?_
                      refine fz_iload_n kX11_tries rfl rfl ?_
                      refine fz_aload_n kX11_tries rfl rfl ?_
                      refine fz_getR (t := 57) kX11_tries rfl rfl ?_
                      refine fz_iload kX11_tries rfl rfl ?_
                      refine fz_ialdV (n := 12) (v := h 57 (x25.toNat)) kX11_tries rfl rfl (by omega) (by omega) (hf28 57 _ rfl) ?_
                      have b76 : 0 ≤ h 57 (x25.toNat) ∧ h 57 (x25.toNat) ≤ 24 := hI.1 57 _
                      refine fz_iadd kX11_tries rfl ?_
                      refine fz_nmw (fun z77 e78 => ?_)
                      refine fz_istore (ls' := [(8, fz_i z77), (7, fz_i (h 56 (x25.toNat))), (6, fz_i x25), (0, fz_r 53), (1, fz_i pe), (2, fz_i t), (3, fz_i hr), (4, fz_i 3), (5, fz_i su)]) kX11_tries rfl (by decide) rfl ?_
                      refine fz_iload kX11_tries rfl rfl ?_
                      refine fz_sipush ⟨by decide, by decide⟩ kX11_tries rfl ?_
                      refine fz_icmp_gt (tgt := 211) kX11_tries rfl (by decide) (fun c79 => ?_) (fun c79 => ?_)
                      · refine fz_iincN (ls' := [(6, fz_i (x25 + 1)), (8, fz_i z77), (7, fz_i (h 56 (x25.toNat))), (0, fz_r 53), (1, fz_i pe), (2, fz_i t), (3, fz_i hr), (4, fz_i 3), (5, fz_i su)]) kX11_tries rfl (by decide) rfl (by omega) rfl ?_
                        refine fz_goto (tgt := 79) kX11_tries rfl (by decide) ?_
                        refine fz_sub (fz_pk_sub (ls' := [(6, fz_i (x25 + 1)), (0, fz_r 53), (1, fz_i pe), (2, fz_i t), (3, fz_i hr), (4, fz_i 3), (5, fz_i su)]) [0, 3, 4, 5, 6, 7, 8] rfl) ?_
                        exact ih31 (x25 + 1) H26 hI27 hf28 (by omega) (by omega)
                      · refine fz_aload_n kX11_tries rfl rfl ?_
                        refine fz_iload_n kX11_tries rfl rfl ?_
                        refine fz_iload kX11_tries rfl rfl ?_
                        refine fz_iload kX11_tries rfl rfl ?_
                        refine fz_callV (d' := 4) (M' := mX11_isArrested) (As := [fz_i pe, fz_i (h 56 (x25.toNat)), fz_i z77]) (st := []) kX11_tries rfl rfl vX11_isArrested rfl rfl rfl rfl (Nat.le_of_ble_eq_true rfl) (Nat.le_of_ble_eq_true rfl) (by decide) (sX11_isArrested H26 hI27 pe (h 56 (x25.toNat)) z77 (by omega)) (fun H80 r81 q82 o83 => ?_)
                        obtain ⟨hI84, hf85, y86, rfl, p87⟩ := q82
                        clear o83
                        have hf88 := fz_fr_tr hf28 hf85 (show fz_su [(74, 99999), (75, 99999)] [(53, 54), (53, 55), (74, 99999), (75, 99999), (89, 99999), (90, 99999)] = true from rfl)
                        refine fz_if_eq (tgt := 177) kX11_tries rfl (by decide) (fun c89 => ?_) (fun c89 => ?_)
                        · refine fz_aload_n kX11_tries rfl rfl ?_
                          refine fz_getR (t := 90) kX11_tries rfl rfl ?_
                          refine fz_iload kX11_tries rfl rfl ?_
                          refine fz_iload kX11_tries rfl rfl ?_
                          refine fz_iast (n := 4) kX11_tries rfl rfl (by omega) (by omega) ?_
                          refine fz_nmu (S := [(53, 54), (53, 55), (74, 99999), (75, 99999), (89, 99999), (90, 99999)]) (h0 := h) (fz_Iv_up hI84 (by decide) (show 0 ≤ (h 56 (x25.toNat)) by omega) (show (h 56 (x25.toNat)) ≤ 7 by omega)) (fz_fr_up hf88 rfl) (fun H90 hI91 hf92 e93 => ?_)
                          clear e93
                          refine fz_aload_n kX11_tries rfl rfl ?_
                          refine fz_iload_n kX11_tries rfl rfl ?_
                          refine fz_iload kX11_tries rfl rfl ?_
                          refine fz_iload kX11_tries rfl rfl ?_
                          refine fz_iload kX11_tries rfl rfl ?_
                          refine fz_iconst ⟨by decide, by decide⟩ kX11_tries rfl ?_
                          refine fz_iaddN kX11_tries rfl ⟨by decide, by decide⟩ ?_
                          refine fz_eqi (y := 4) rfl ?_
                          refine fz_iload kX11_tries rfl rfl ?_
                          refine fz_aload_n kX11_tries rfl rfl ?_
                          refine fz_iload_n kX11_tries rfl rfl ?_
                          refine fz_iload kX11_tries rfl rfl ?_
                          refine fz_iload kX11_tries rfl rfl ?_
                          refine fz_callV (d' := 4) (M' := mX11_receivedIn) (As := [fz_i pe, fz_i (h 56 (x25.toNat)), fz_i z77]) (st := [fz_i su, fz_i 4, fz_i z77, fz_i (h 56 (x25.toNat)), fz_i pe, fz_r 53]) kX11_tries rfl rfl vX11_receivedIn rfl rfl rfl rfl (Nat.le_of_ble_eq_true rfl) (Nat.le_of_ble_eq_true rfl) (by decide) (sX11_receivedIn H90 hI91 pe (h 56 (x25.toNat)) z77 (by omega)) (fun H94 r95 q96 o97 => ?_)
                          obtain ⟨hI98, hf99, y101, rfl, f100⟩ := q96
                          clear o97
                          have hf102 := fz_fr_tr hf92 hf99 (show fz_su [(74, 99999), (75, 99999)] [(53, 54), (53, 55), (74, 99999), (75, 99999), (89, 99999), (90, 99999)] = true from rfl)
                          refine fz_iadd kX11_tries rfl ?_
                          refine fz_nmw (fun z103 e104 => ?_)
                          refine fz_callV (d' := 1) (M' := mX11_tries) (As := [fz_i pe, fz_i (h 56 (x25.toNat)), fz_i z77, fz_i 4, fz_i z103]) (st := []) kX11_tries rfl rfl vX11_tries rfl rfl rfl rfl (Nat.le_of_ble_eq_true rfl) (Nat.le_of_ble_eq_true rfl) (by decide) (sX11_tries_4 H94 hI98 pe (h 56 (x25.toNat)) z77 z103 (by omega)) (fun H105 r106 q107 o108 => ?_)
                          obtain ⟨hI109, hf110, rfl⟩ := q107
                          clear o108
                          have hf111 := fz_fr_tr hf102 hf110 (show fz_su [(53, 54), (53, 55), (74, 99999), (75, 99999), (89, 99999), (90, 99999)] [(53, 54), (53, 55), (74, 99999), (75, 99999), (89, 99999), (90, 99999)] = true from rfl)
                          refine fz_iincN (ls' := [(6, fz_i (x25 + 1)), (8, fz_i z77), (7, fz_i (h 56 (x25.toNat))), (0, fz_r 53), (1, fz_i pe), (2, fz_i t), (3, fz_i hr), (4, fz_i 3), (5, fz_i su)]) kX11_tries rfl (by decide) rfl (by omega) rfl ?_
                          refine fz_goto (tgt := 79) kX11_tries rfl (by decide) ?_
                          refine fz_sub (fz_pk_sub (ls' := [(6, fz_i (x25 + 1)), (0, fz_r 53), (1, fz_i pe), (2, fz_i t), (3, fz_i hr), (4, fz_i 3), (5, fz_i su)]) [0, 3, 4, 5, 6, 7, 8] rfl) ?_
                          exact ih31 (x25 + 1) H105 hI109 hf111 (by omega) (by omega)
                        · refine fz_goto (tgt := 211) kX11_tries rfl (by decide) ?_
                          refine fz_iincN (ls' := [(6, fz_i (x25 + 1)), (8, fz_i z77), (7, fz_i (h 56 (x25.toNat))), (0, fz_r 53), (1, fz_i pe), (2, fz_i t), (3, fz_i hr), (4, fz_i 3), (5, fz_i su)]) kX11_tries rfl (by decide) rfl (by omega) rfl ?_
                          refine fz_goto (tgt := 79) kX11_tries rfl (by decide) ?_
                          refine fz_sub (fz_pk_sub (ls' := [(6, fz_i (x25 + 1)), (0, fz_r 53), (1, fz_i pe), (2, fz_i t), (3, fz_i hr), (4, fz_i 3), (5, fz_i su)]) [0, 3, 4, 5, 6, 7, 8] rfl) ?_
                          exact ih31 (x25 + 1) H80 hI84 hf88 (by omega) (by omega)
                  · refine fz_aload_n kX11_tries rfl rfl ?_
                    refine fz_getR (t := 56) kX11_tries rfl rfl ?_
                    refine fz_iload kX11_tries rfl rfl ?_
                    refine fz_ialdV (n := 12) (v := h 56 (x25.toNat)) kX11_tries rfl rfl (by omega) (by omega) (hf28 56 _ rfl) ?_
                    have b112 : 0 ≤ h 56 (x25.toNat) ∧ h 56 (x25.toNat) ≤ 7 := hI.1 56 _
                    refine fz_iload_n kX11_tries rfl rfl ?_
                    refine fz_icmp_eq (tgt := 113) kX11_tries rfl (by decide) (fun c113 => ?_) (fun c113 => ?_)
                    · refine fz_aload_n kX11_tries rfl rfl ?_
                      refine fz_getR (t := 55) kX11_tries rfl rfl ?_
                      refine fz_iload kX11_tries rfl rfl ?_
                      refine fz_ialdV (n := 12) (v := h 55 (x25.toNat)) kX11_tries rfl rfl (by omega) (by omega) (hf28 55 _ rfl) ?_
                      refine fz_iload_n kX11_tries rfl rfl ?_
                      refine fz_icmp_ne (tgt := 134) kX11_tries rfl (by decide) (fun c114 => ?_) (fun c114 => ?_)
                      · refine fz_aload_n kX11_tries rfl rfl ?_
                        refine fz_getR (t := 55) kX11_tries rfl rfl ?_
                        refine fz_iload kX11_tries rfl rfl ?_
                        refine fz_ialdV (n := 12) (v := h 55 (x25.toNat)) kX11_tries rfl rfl (by omega) (by omega) (hf28 55 _ rfl) ?_
                        refine fz_istore (ls' := [(7, fz_i (h 55 (x25.toNat))), (6, fz_i x25), (0, fz_r 53), (1, fz_i pe), (2, fz_i t), (3, fz_i hr), (4, fz_i 3), (5, fz_i su)]) kX11_tries rfl (by decide) rfl ?_
                        refine fz_iload_n kX11_tries rfl rfl ?_
                        refine fz_aload_n kX11_tries rfl rfl ?_
                        refine fz_getR (t := 57) kX11_tries rfl rfl ?_
                        refine fz_iload kX11_tries rfl rfl ?_
                        refine fz_ialdV (n := 12) (v := h 57 (x25.toNat)) kX11_tries rfl rfl (by omega) (by omega) (hf28 57 _ rfl) ?_
                        have b115 : 0 ≤ h 57 (x25.toNat) ∧ h 57 (x25.toNat) ≤ 24 := hI.1 57 _
                        refine fz_iadd kX11_tries rfl ?_
                        refine fz_nmw (fun z116 e117 => ?_)
                        refine fz_istore (ls' := [(8, fz_i z116), (7, fz_i (h 55 (x25.toNat))), (6, fz_i x25), (0, fz_r 53), (1, fz_i pe), (2, fz_i t), (3, fz_i hr), (4, fz_i 3), (5, fz_i su)]) kX11_tries rfl (by decide) rfl ?_
                        refine fz_iload kX11_tries rfl rfl ?_
                        refine fz_sipush ⟨by decide, by decide⟩ kX11_tries rfl ?_
                        refine fz_icmp_gt (tgt := 211) kX11_tries rfl (by decide) (fun c118 => ?_) (fun c118 => ?_)
                        · refine fz_iincN (ls' := [(6, fz_i (x25 + 1)), (8, fz_i z116), (7, fz_i (h 55 (x25.toNat))), (0, fz_r 53), (1, fz_i pe), (2, fz_i t), (3, fz_i hr), (4, fz_i 3), (5, fz_i su)]) kX11_tries rfl (by decide) rfl (by omega) rfl ?_
                          refine fz_goto (tgt := 79) kX11_tries rfl (by decide) ?_
                          refine fz_sub (fz_pk_sub (ls' := [(6, fz_i (x25 + 1)), (0, fz_r 53), (1, fz_i pe), (2, fz_i t), (3, fz_i hr), (4, fz_i 3), (5, fz_i su)]) [0, 3, 4, 5, 6, 7, 8] rfl) ?_
                          exact ih31 (x25 + 1) H26 hI27 hf28 (by omega) (by omega)
                        · refine fz_aload_n kX11_tries rfl rfl ?_
                          refine fz_iload_n kX11_tries rfl rfl ?_
                          refine fz_iload kX11_tries rfl rfl ?_
                          refine fz_iload kX11_tries rfl rfl ?_
                          refine fz_callV (d' := 4) (M' := mX11_isArrested) (As := [fz_i pe, fz_i (h 55 (x25.toNat)), fz_i z116]) (st := []) kX11_tries rfl rfl vX11_isArrested rfl rfl rfl rfl (Nat.le_of_ble_eq_true rfl) (Nat.le_of_ble_eq_true rfl) (by decide) (sX11_isArrested H26 hI27 pe (h 55 (x25.toNat)) z116 (by omega)) (fun H119 r120 q121 o122 => ?_)
                          obtain ⟨hI123, hf124, y125, rfl, p126⟩ := q121
                          clear o122
                          have hf127 := fz_fr_tr hf28 hf124 (show fz_su [(74, 99999), (75, 99999)] [(53, 54), (53, 55), (74, 99999), (75, 99999), (89, 99999), (90, 99999)] = true from rfl)
                          refine fz_if_eq (tgt := 177) kX11_tries rfl (by decide) (fun c128 => ?_) (fun c128 => ?_)
                          · refine fz_aload_n kX11_tries rfl rfl ?_
                            refine fz_getR (t := 90) kX11_tries rfl rfl ?_
                            refine fz_iload kX11_tries rfl rfl ?_
                            refine fz_iload kX11_tries rfl rfl ?_
                            refine fz_iast (n := 4) kX11_tries rfl rfl (by omega) (by omega) ?_
                            refine fz_nmu (S := [(53, 54), (53, 55), (74, 99999), (75, 99999), (89, 99999), (90, 99999)]) (h0 := h) (fz_Iv_up hI123 (by decide) (show 0 ≤ (h 55 (x25.toNat)) by omega) (show (h 55 (x25.toNat)) ≤ 7 by omega)) (fz_fr_up hf127 rfl) (fun H129 hI130 hf131 e132 => ?_)
                            clear e132
                            refine fz_aload_n kX11_tries rfl rfl ?_
                            refine fz_iload_n kX11_tries rfl rfl ?_
                            refine fz_iload kX11_tries rfl rfl ?_
                            refine fz_iload kX11_tries rfl rfl ?_
                            refine fz_iload kX11_tries rfl rfl ?_
                            refine fz_iconst ⟨by decide, by decide⟩ kX11_tries rfl ?_
                            refine fz_iaddN kX11_tries rfl ⟨by decide, by decide⟩ ?_
                            refine fz_eqi (y := 4) rfl ?_
                            refine fz_iload kX11_tries rfl rfl ?_
                            refine fz_aload_n kX11_tries rfl rfl ?_
                            refine fz_iload_n kX11_tries rfl rfl ?_
                            refine fz_iload kX11_tries rfl rfl ?_
                            refine fz_iload kX11_tries rfl rfl ?_
                            refine fz_callV (d' := 4) (M' := mX11_receivedIn) (As := [fz_i pe, fz_i (h 55 (x25.toNat)), fz_i z116]) (st := [fz_i su, fz_i 4, fz_i z116, fz_i (h 55 (x25.toNat)), fz_i pe, fz_r 53]) kX11_tries rfl rfl vX11_receivedIn rfl rfl rfl rfl (Nat.le_of_ble_eq_true rfl) (Nat.le_of_ble_eq_true rfl) (by decide) (sX11_receivedIn H129 hI130 pe (h 55 (x25.toNat)) z116 (by omega)) (fun H133 r134 q135 o136 => ?_)
                            obtain ⟨hI137, hf138, y140, rfl, f139⟩ := q135
                            clear o136
                            have hf141 := fz_fr_tr hf131 hf138 (show fz_su [(74, 99999), (75, 99999)] [(53, 54), (53, 55), (74, 99999), (75, 99999), (89, 99999), (90, 99999)] = true from rfl)
                            refine fz_iadd kX11_tries rfl ?_
                            refine fz_nmw (fun z142 e143 => ?_)
                            refine fz_callV (d' := 1) (M' := mX11_tries) (As := [fz_i pe, fz_i (h 55 (x25.toNat)), fz_i z116, fz_i 4, fz_i z142]) (st := []) kX11_tries rfl rfl vX11_tries rfl rfl rfl rfl (Nat.le_of_ble_eq_true rfl) (Nat.le_of_ble_eq_true rfl) (by decide) (sX11_tries_4 H133 hI137 pe (h 55 (x25.toNat)) z116 z142 (by omega)) (fun H144 r145 q146 o147 => ?_)
                            obtain ⟨hI148, hf149, rfl⟩ := q146
                            clear o147
                            have hf150 := fz_fr_tr hf141 hf149 (show fz_su [(53, 54), (53, 55), (74, 99999), (75, 99999), (89, 99999), (90, 99999)] [(53, 54), (53, 55), (74, 99999), (75, 99999), (89, 99999), (90, 99999)] = true from rfl)
                            refine fz_iincN (ls' := [(6, fz_i (x25 + 1)), (8, fz_i z116), (7, fz_i (h 55 (x25.toNat))), (0, fz_r 53), (1, fz_i pe), (2, fz_i t), (3, fz_i hr), (4, fz_i 3), (5, fz_i su)]) kX11_tries rfl (by decide) rfl (by omega) rfl ?_
                            refine fz_goto (tgt := 79) kX11_tries rfl (by decide) ?_
                            refine fz_sub (fz_pk_sub (ls' := [(6, fz_i (x25 + 1)), (0, fz_r 53), (1, fz_i pe), (2, fz_i t), (3, fz_i hr), (4, fz_i 3), (5, fz_i su)]) [0, 3, 4, 5, 6, 7, 8] rfl) ?_
                            exact ih31 (x25 + 1) H144 hI148 hf150 (by omega) (by omega)
                          · refine fz_goto (tgt := 211) kX11_tries rfl (by decide) ?_
                            refine fz_iincN (ls' := [(6, fz_i (x25 + 1)), (8, fz_i z116), (7, fz_i (h 55 (x25.toNat))), (0, fz_r 53), (1, fz_i pe), (2, fz_i t), (3, fz_i hr), (4, fz_i 3), (5, fz_i su)]) kX11_tries rfl (by decide) rfl (by omega) rfl ?_
                            refine fz_goto (tgt := 79) kX11_tries rfl (by decide) ?_
                            refine fz_sub (fz_pk_sub (ls' := [(6, fz_i (x25 + 1)), (0, fz_r 53), (1, fz_i pe), (2, fz_i t), (3, fz_i hr), (4, fz_i 3), (5, fz_i su)]) [0, 3, 4, 5, 6, 7, 8] rfl) ?_
                            exact ih31 (x25 + 1) H119 hI123 hf127 (by omega) (by omega)
                      · refine fz_aload_n kX11_tries rfl rfl ?_
                        refine fz_getR (t := 56) kX11_tries rfl rfl ?_
                        refine fz_iload kX11_tries rfl rfl ?_
                        refine fz_ialdV (n := 12) (v := h 56 (x25.toNat)) kX11_tries rfl rfl (by omega) (by omega) (hf28 56 _ rfl) ?_
                        refine fz_goto (tgt := 141) kX11_tries rfl (by decide) ?_
                        refine fz_istore (ls' := [(7, fz_i (h 56 (x25.toNat))), (6, fz_i x25), (0, fz_r 53), (1, fz_i pe), (2, fz_i t), (3, fz_i hr), (4, fz_i 3), (5, fz_i su)]) kX11_tries rfl (by decide) rfl ?_
                        refine fz_iload_n kX11_tries rfl rfl ?_
                        refine fz_aload_n kX11_tries rfl rfl ?_
                        refine fz_getR (t := 57) kX11_tries rfl rfl ?_
                        refine fz_iload kX11_tries rfl rfl ?_
                        refine fz_ialdV (n := 12) (v := h 57 (x25.toNat)) kX11_tries rfl rfl (by omega) (by omega) (hf28 57 _ rfl) ?_
                        have b151 : 0 ≤ h 57 (x25.toNat) ∧ h 57 (x25.toNat) ≤ 24 := hI.1 57 _
                        refine fz_iadd kX11_tries rfl ?_
                        refine fz_nmw (fun z152 e153 => ?_)
                        refine fz_istore (ls' := [(8, fz_i z152), (7, fz_i (h 56 (x25.toNat))), (6, fz_i x25), (0, fz_r 53), (1, fz_i pe), (2, fz_i t), (3, fz_i hr), (4, fz_i 3), (5, fz_i su)]) kX11_tries rfl (by decide) rfl ?_
                        refine fz_iload kX11_tries rfl rfl ?_
                        refine fz_sipush ⟨by decide, by decide⟩ kX11_tries rfl ?_
                        refine fz_icmp_gt (tgt := 211) kX11_tries rfl (by decide) (fun c154 => ?_) (fun c154 => ?_)
                        · refine fz_iincN (ls' := [(6, fz_i (x25 + 1)), (8, fz_i z152), (7, fz_i (h 56 (x25.toNat))), (0, fz_r 53), (1, fz_i pe), (2, fz_i t), (3, fz_i hr), (4, fz_i 3), (5, fz_i su)]) kX11_tries rfl (by decide) rfl (by omega) rfl ?_
                          refine fz_goto (tgt := 79) kX11_tries rfl (by decide) ?_
                          refine fz_sub (fz_pk_sub (ls' := [(6, fz_i (x25 + 1)), (0, fz_r 53), (1, fz_i pe), (2, fz_i t), (3, fz_i hr), (4, fz_i 3), (5, fz_i su)]) [0, 3, 4, 5, 6, 7, 8] rfl) ?_
                          exact ih31 (x25 + 1) H26 hI27 hf28 (by omega) (by omega)
                        · refine fz_aload_n kX11_tries rfl rfl ?_
                          refine fz_iload_n kX11_tries rfl rfl ?_
                          refine fz_iload kX11_tries rfl rfl ?_
                          refine fz_iload kX11_tries rfl rfl ?_
                          refine fz_callV (d' := 4) (M' := mX11_isArrested) (As := [fz_i pe, fz_i (h 56 (x25.toNat)), fz_i z152]) (st := []) kX11_tries rfl rfl vX11_isArrested rfl rfl rfl rfl (Nat.le_of_ble_eq_true rfl) (Nat.le_of_ble_eq_true rfl) (by decide) (sX11_isArrested H26 hI27 pe (h 56 (x25.toNat)) z152 (by omega)) (fun H155 r156 q157 o158 => ?_)
                          obtain ⟨hI159, hf160, y161, rfl, p162⟩ := q157
                          clear o158
                          have hf163 := fz_fr_tr hf28 hf160 (show fz_su [(74, 99999), (75, 99999)] [(53, 54), (53, 55), (74, 99999), (75, 99999), (89, 99999), (90, 99999)] = true from rfl)
                          refine fz_if_eq (tgt := 177) kX11_tries rfl (by decide) (fun c164 => ?_) (fun c164 => ?_)
                          · refine fz_aload_n kX11_tries rfl rfl ?_
                            refine fz_getR (t := 90) kX11_tries rfl rfl ?_
                            refine fz_iload kX11_tries rfl rfl ?_
                            refine fz_iload kX11_tries rfl rfl ?_
                            refine fz_iast (n := 4) kX11_tries rfl rfl (by omega) (by omega) ?_
                            refine fz_nmu (S := [(53, 54), (53, 55), (74, 99999), (75, 99999), (89, 99999), (90, 99999)]) (h0 := h) (fz_Iv_up hI159 (by decide) (show 0 ≤ (h 56 (x25.toNat)) by omega) (show (h 56 (x25.toNat)) ≤ 7 by omega)) (fz_fr_up hf163 rfl) (fun H165 hI166 hf167 e168 => ?_)
                            clear e168
                            refine fz_aload_n kX11_tries rfl rfl ?_
                            refine fz_iload_n kX11_tries rfl rfl ?_
                            refine fz_iload kX11_tries rfl rfl ?_
                            refine fz_iload kX11_tries rfl rfl ?_
                            refine fz_iload kX11_tries rfl rfl ?_
                            refine fz_iconst ⟨by decide, by decide⟩ kX11_tries rfl ?_
                            refine fz_iaddN kX11_tries rfl ⟨by decide, by decide⟩ ?_
                            refine fz_eqi (y := 4) rfl ?_
                            refine fz_iload kX11_tries rfl rfl ?_
                            refine fz_aload_n kX11_tries rfl rfl ?_
                            refine fz_iload_n kX11_tries rfl rfl ?_
                            refine fz_iload kX11_tries rfl rfl ?_
                            refine fz_iload kX11_tries rfl rfl ?_
                            refine fz_callV (d' := 4) (M' := mX11_receivedIn) (As := [fz_i pe, fz_i (h 56 (x25.toNat)), fz_i z152]) (st := [fz_i su, fz_i 4, fz_i z152, fz_i (h 56 (x25.toNat)), fz_i pe, fz_r 53]) kX11_tries rfl rfl vX11_receivedIn rfl rfl rfl rfl (Nat.le_of_ble_eq_true rfl) (Nat.le_of_ble_eq_true rfl) (by decide) (sX11_receivedIn H165 hI166 pe (h 56 (x25.toNat)) z152 (by omega)) (fun H169 r170 q171 o172 => ?_)
                            obtain ⟨hI173, hf174, y176, rfl, f175⟩ := q171
                            clear o172
                            have hf177 := fz_fr_tr hf167 hf174 (show fz_su [(74, 99999), (75, 99999)] [(53, 54), (53, 55), (74, 99999), (75, 99999), (89, 99999), (90, 99999)] = true from rfl)
                            refine fz_iadd kX11_tries rfl ?_
                            refine fz_nmw (fun z178 e179 => ?_)
                            refine fz_callV (d' := 1) (M' := mX11_tries) (As := [fz_i pe, fz_i (h 56 (x25.toNat)), fz_i z152, fz_i 4, fz_i z178]) (st := []) kX11_tries rfl rfl vX11_tries rfl rfl rfl rfl (Nat.le_of_ble_eq_true rfl) (Nat.le_of_ble_eq_true rfl) (by decide) (sX11_tries_4 H169 hI173 pe (h 56 (x25.toNat)) z152 z178 (by omega)) (fun H180 r181 q182 o183 => ?_)
                            obtain ⟨hI184, hf185, rfl⟩ := q182
                            clear o183
                            have hf186 := fz_fr_tr hf177 hf185 (show fz_su [(53, 54), (53, 55), (74, 99999), (75, 99999), (89, 99999), (90, 99999)] [(53, 54), (53, 55), (74, 99999), (75, 99999), (89, 99999), (90, 99999)] = true from rfl)
                            refine fz_iincN (ls' := [(6, fz_i (x25 + 1)), (8, fz_i z152), (7, fz_i (h 56 (x25.toNat))), (0, fz_r 53), (1, fz_i pe), (2, fz_i t), (3, fz_i hr), (4, fz_i 3), (5, fz_i su)]) kX11_tries rfl (by decide) rfl (by omega) rfl ?_
                            refine fz_goto (tgt := 79) kX11_tries rfl (by decide) ?_
                            refine fz_sub (fz_pk_sub (ls' := [(6, fz_i (x25 + 1)), (0, fz_r 53), (1, fz_i pe), (2, fz_i t), (3, fz_i hr), (4, fz_i 3), (5, fz_i su)]) [0, 3, 4, 5, 6, 7, 8] rfl) ?_
                            exact ih31 (x25 + 1) H180 hI184 hf186 (by omega) (by omega)
                          · refine fz_goto (tgt := 211) kX11_tries rfl (by decide) ?_
                            refine fz_iincN (ls' := [(6, fz_i (x25 + 1)), (8, fz_i z152), (7, fz_i (h 56 (x25.toNat))), (0, fz_r 53), (1, fz_i pe), (2, fz_i t), (3, fz_i hr), (4, fz_i 3), (5, fz_i su)]) kX11_tries rfl (by decide) rfl (by omega) rfl ?_
                            refine fz_goto (tgt := 79) kX11_tries rfl (by decide) ?_
                            refine fz_sub (fz_pk_sub (ls' := [(6, fz_i (x25 + 1)), (0, fz_r 53), (1, fz_i pe), (2, fz_i t), (3, fz_i hr), (4, fz_i 3), (5, fz_i su)]) [0, 3, 4, 5, 6, 7, 8] rfl) ?_
                            exact ih31 (x25 + 1) H155 hI159 hf163 (by omega) (by omega)
                    · refine fz_goto (tgt := 211) kX11_tries rfl (by decide) ?_
                      refine fz_iincN (ls' := [(6, fz_i (x25 + 1)), (0, fz_r 53), (1, fz_i pe), (2, fz_i t), (3, fz_i hr), (4, fz_i 3), (5, fz_i su)]) kX11_tries rfl (by decide) rfl (by omega) rfl ?_
                      refine fz_goto (tgt := 79) kX11_tries rfl (by decide) ?_
                      exact ih31 (x25 + 1) H26 hI27 hf28 (by omega) (by omega)
            exact lp30 _ 0 H15 hI16 hf17 (by omega) (Nat.lt_succ_self _)
          · exfalso; omega
        · refine fz_aload_n kX11_tries rfl rfl ?_
          refine fz_getR (t := 89) kX11_tries rfl rfl ?_
          refine fz_iload kX11_tries rfl rfl ?_
          refine fz_aload_n kX11_tries rfl rfl ?_
          refine fz_getR (t := 90) kX11_tries rfl rfl ?_
          refine fz_iload kX11_tries rfl rfl ?_
          obtain ⟨v187, e188⟩ : ∃ z, H15 90 (x14.toNat) = z := ⟨_, rfl⟩
          refine fz_ialdV (n := 4) (v := v187) kX11_tries rfl rfl (by omega) (by omega) e188 ?_
          have b189 : 0 ≤ v187 ∧ v187 ≤ 7 := by rw [← e188]; exact hI16.1 90 _
          refine fz_iast (n := 4) kX11_tries rfl rfl (by omega) (by omega) ?_
          refine fz_nmu (S := [(53, 54), (53, 55), (74, 99999), (75, 99999), (89, 99999), (90, 99999)]) (h0 := h) (fz_Iv_up hI16 (by decide) (show 0 ≤ v187 by omega) (show v187 ≤ 7 by omega)) (fz_fr_up hf17 rfl) (fun H190 hI191 hf192 e193 => ?_)
          clear e193
          refine fz_iincN (ls' := [(6, fz_i (x14 + 1)), (0, fz_r 53), (1, fz_i pe), (2, fz_i t), (3, fz_i hr), (4, fz_i 3), (5, fz_i su)]) kX11_tries rfl (by decide) rfl (by omega) rfl ?_
          refine fz_goto (tgt := 42) kX11_tries rfl (by decide) ?_
          exact ih20 (x14 + 1) H190 hI191 hf192 (by omega) (by omega)
    exact lp19 _ 0 H8 hI9 hf10 (by omega) (Nat.lt_succ_self _)
  · refine fz_iload kX11_tries rfl rfl ?_
    refine fz_aload_n kX11_tries rfl rfl ?_
    refine fz_getV (v := h 53 54) kX11_tries rfl rfl rfl ?_
    refine fz_icmp_ne (tgt := 69) kX11_tries rfl (by decide) (fun c194 => ?_) (fun c194 => ?_)
    · refine fz_iload kX11_tries rfl rfl ?_
      refine fz_iconst ⟨by decide, by decide⟩ kX11_tries rfl ?_
      refine fz_icmp_ne (tgt := 76) kX11_tries rfl (by decide) (fun c195 => ?_) (fun c195 => ?_)
      · refine fz_iconst ⟨by decide, by decide⟩ kX11_tries rfl ?_
        refine fz_istore (ls' := [(6, fz_i 0), (0, fz_r 53), (1, fz_i pe), (2, fz_i t), (3, fz_i hr), (4, fz_i 3), (5, fz_i su)]) kX11_tries rfl (by decide) rfl ?_
        have lp201 : ∀ (n200 : Nat) (x196 : Int) (H197 : fz_H), fz_Iv H197 → fz_fr [(53, 54), (53, 55), (74, 99999), (75, 99999), (89, 99999), (90, 99999)] h H197 → (0 ≤ x196 ∧ x196 ≤ 2147483647) → ((h 53 2) - x196).toNat < n200 → fz_R 5 mX11_tries 79 [(6, fz_i x196), (0, fz_r 53), (1, fz_i pe), (2, fz_i t), (3, fz_i hr), (4, fz_i 3), (5, fz_i su)] [] H197 (qX11_tries_3 h pe t hr su) := by
          intro n200
          induction n200 with
          | zero => intro x196 H197 hI198 hf199 hv204 hm203; exact absurd hm203 (by omega)
          | succ n200 ih202 =>
            intro x196 H197 hI198 hf199 hv204 hm203
            refine fz_iload kX11_tries rfl rfl ?_
            refine fz_aload_n kX11_tries rfl rfl ?_
            refine fz_getV (v := h 53 2) kX11_tries rfl rfl (hf199 53 2 rfl) ?_
            have b205 : 0 ≤ h 53 2 ∧ h 53 2 ≤ 12 := hI.1 53 _
            refine fz_icmp_ge (tgt := 217) kX11_tries rfl (by decide) (fun c206 => ?_) (fun c206 => ?_)
            · exact fz_vret kX11_tries rfl rfl ⟨hI198, hf199, rfl⟩
            · refine fz_aload_n kX11_tries rfl rfl ?_
              refine fz_getR (t := 55) kX11_tries rfl rfl ?_
              refine fz_iload kX11_tries rfl rfl ?_
              refine fz_ialdV (n := 12) (v := h 55 (x196.toNat)) kX11_tries rfl rfl (by omega) (by omega) (hf199 55 _ rfl) ?_
              have b207 : 0 ≤ h 55 (x196.toNat) ∧ h 55 (x196.toNat) ≤ 7 := hI.1 55 _
              refine fz_iload_n kX11_tries rfl rfl ?_
              refine fz_icmp_eq (tgt := 113) kX11_tries rfl (by decide) (fun c208 => ?_) (fun c208 => ?_)
              · refine fz_aload_n kX11_tries rfl rfl ?_
                refine fz_getR (t := 55) kX11_tries rfl rfl ?_
                refine fz_iload kX11_tries rfl rfl ?_
                refine fz_ialdV (n := 12) (v := h 55 (x196.toNat)) kX11_tries rfl rfl (by omega) (by omega) (hf199 55 _ rfl) ?_
                refine fz_iload_n kX11_tries rfl rfl ?_
                refine fz_icmp_ne (tgt := 134) kX11_tries rfl (by decide) (fun c209 => ?_) (fun c209 => ?_)
                · refine fz_aload_n kX11_tries rfl rfl ?_
                  refine fz_getR (t := 55) kX11_tries rfl rfl ?_
                  refine fz_iload kX11_tries rfl rfl ?_
                  refine fz_ialdV (n := 12) (v := h 55 (x196.toNat)) kX11_tries rfl rfl (by omega) (by omega) (hf199 55 _ rfl) ?_
                  refine fz_istore (ls' := [(7, fz_i (h 55 (x196.toNat))), (6, fz_i x196), (0, fz_r 53), (1, fz_i pe), (2, fz_i t), (3, fz_i hr), (4, fz_i 3), (5, fz_i su)]) kX11_tries rfl (by decide) rfl ?_
                  refine fz_iload_n kX11_tries rfl rfl ?_
                  refine fz_aload_n kX11_tries rfl rfl ?_
                  refine fz_getR (t := 57) kX11_tries rfl rfl ?_
                  refine fz_iload kX11_tries rfl rfl ?_
                  refine fz_ialdV (n := 12) (v := h 57 (x196.toNat)) kX11_tries rfl rfl (by omega) (by omega) (hf199 57 _ rfl) ?_
                  have b210 : 0 ≤ h 57 (x196.toNat) ∧ h 57 (x196.toNat) ≤ 24 := hI.1 57 _
                  refine fz_iadd kX11_tries rfl ?_
                  refine fz_nmw (fun z211 e212 => ?_)
                  refine fz_istore (ls' := [(8, fz_i z211), (7, fz_i (h 55 (x196.toNat))), (6, fz_i x196), (0, fz_r 53), (1, fz_i pe), (2, fz_i t), (3, fz_i hr), (4, fz_i 3), (5, fz_i su)]) kX11_tries rfl (by decide) rfl ?_
                  refine fz_iload kX11_tries rfl rfl ?_
                  refine fz_sipush ⟨by decide, by decide⟩ kX11_tries rfl ?_
                  refine fz_icmp_gt (tgt := 211) kX11_tries rfl (by decide) (fun c213 => ?_) (fun c213 => ?_)
                  · refine fz_iincN (ls' := [(6, fz_i (x196 + 1)), (8, fz_i z211), (7, fz_i (h 55 (x196.toNat))), (0, fz_r 53), (1, fz_i pe), (2, fz_i t), (3, fz_i hr), (4, fz_i 3), (5, fz_i su)]) kX11_tries rfl (by decide) rfl (by omega) rfl ?_
                    refine fz_goto (tgt := 79) kX11_tries rfl (by decide) ?_
                    refine fz_sub (fz_pk_sub (ls' := [(6, fz_i (x196 + 1)), (0, fz_r 53), (1, fz_i pe), (2, fz_i t), (3, fz_i hr), (4, fz_i 3), (5, fz_i su)]) [0, 3, 4, 5, 6, 7, 8] rfl) ?_
                    exact ih202 (x196 + 1) H197 hI198 hf199 (by omega) (by omega)
                  · refine fz_aload_n kX11_tries rfl rfl ?_
                    refine fz_iload_n kX11_tries rfl rfl ?_
                    refine fz_iload kX11_tries rfl rfl ?_
                    refine fz_iload kX11_tries rfl rfl ?_
                    refine fz_callV (d' := 4) (M' := mX11_isArrested) (As := [fz_i pe, fz_i (h 55 (x196.toNat)), fz_i z211]) (st := []) kX11_tries rfl rfl vX11_isArrested rfl rfl rfl rfl (Nat.le_of_ble_eq_true rfl) (Nat.le_of_ble_eq_true rfl) (by decide) (sX11_isArrested H197 hI198 pe (h 55 (x196.toNat)) z211 (by omega)) (fun H214 r215 q216 o217 => ?_)
                    obtain ⟨hI218, hf219, y220, rfl, p221⟩ := q216
                    clear o217
                    have hf222 := fz_fr_tr hf199 hf219 (show fz_su [(74, 99999), (75, 99999)] [(53, 54), (53, 55), (74, 99999), (75, 99999), (89, 99999), (90, 99999)] = true from rfl)
                    refine fz_if_eq (tgt := 177) kX11_tries rfl (by decide) (fun c223 => ?_) (fun c223 => ?_)
                    · refine fz_aload_n kX11_tries rfl rfl ?_
                      refine fz_getR (t := 90) kX11_tries rfl rfl ?_
                      refine fz_iload kX11_tries rfl rfl ?_
                      refine fz_iload kX11_tries rfl rfl ?_
                      refine fz_iast (n := 4) kX11_tries rfl rfl (by omega) (by omega) ?_
                      refine fz_nmu (S := [(53, 54), (53, 55), (74, 99999), (75, 99999), (89, 99999), (90, 99999)]) (h0 := h) (fz_Iv_up hI218 (by decide) (show 0 ≤ (h 55 (x196.toNat)) by omega) (show (h 55 (x196.toNat)) ≤ 7 by omega)) (fz_fr_up hf222 rfl) (fun H224 hI225 hf226 e227 => ?_)
                      clear e227
                      refine fz_aload_n kX11_tries rfl rfl ?_
                      refine fz_iload_n kX11_tries rfl rfl ?_
                      refine fz_iload kX11_tries rfl rfl ?_
                      refine fz_iload kX11_tries rfl rfl ?_
                      refine fz_iload kX11_tries rfl rfl ?_
                      refine fz_iconst ⟨by decide, by decide⟩ kX11_tries rfl ?_
                      refine fz_iaddN kX11_tries rfl ⟨by decide, by decide⟩ ?_
                      refine fz_eqi (y := 4) rfl ?_
                      refine fz_iload kX11_tries rfl rfl ?_
                      refine fz_aload_n kX11_tries rfl rfl ?_
                      refine fz_iload_n kX11_tries rfl rfl ?_
                      refine fz_iload kX11_tries rfl rfl ?_
                      refine fz_iload kX11_tries rfl rfl ?_
                      refine fz_callV (d' := 4) (M' := mX11_receivedIn) (As := [fz_i pe, fz_i (h 55 (x196.toNat)), fz_i z211]) (st := [fz_i su, fz_i 4, fz_i z211, fz_i (h 55 (x196.toNat)), fz_i pe, fz_r 53]) kX11_tries rfl rfl vX11_receivedIn rfl rfl rfl rfl (Nat.le_of_ble_eq_true rfl) (Nat.le_of_ble_eq_true rfl) (by decide) (sX11_receivedIn H224 hI225 pe (h 55 (x196.toNat)) z211 (by omega)) (fun H228 r229 q230 o231 => ?_)
                      obtain ⟨hI232, hf233, y235, rfl, f234⟩ := q230
                      clear o231
                      have hf236 := fz_fr_tr hf226 hf233 (show fz_su [(74, 99999), (75, 99999)] [(53, 54), (53, 55), (74, 99999), (75, 99999), (89, 99999), (90, 99999)] = true from rfl)
                      refine fz_iadd kX11_tries rfl ?_
                      refine fz_nmw (fun z237 e238 => ?_)
                      refine fz_callV (d' := 1) (M' := mX11_tries) (As := [fz_i pe, fz_i (h 55 (x196.toNat)), fz_i z211, fz_i 4, fz_i z237]) (st := []) kX11_tries rfl rfl vX11_tries rfl rfl rfl rfl (Nat.le_of_ble_eq_true rfl) (Nat.le_of_ble_eq_true rfl) (by decide) (sX11_tries_4 H228 hI232 pe (h 55 (x196.toNat)) z211 z237 (by omega)) (fun H239 r240 q241 o242 => ?_)
                      obtain ⟨hI243, hf244, rfl⟩ := q241
                      clear o242
                      have hf245 := fz_fr_tr hf236 hf244 (show fz_su [(53, 54), (53, 55), (74, 99999), (75, 99999), (89, 99999), (90, 99999)] [(53, 54), (53, 55), (74, 99999), (75, 99999), (89, 99999), (90, 99999)] = true from rfl)
                      refine fz_iincN (ls' := [(6, fz_i (x196 + 1)), (8, fz_i z211), (7, fz_i (h 55 (x196.toNat))), (0, fz_r 53), (1, fz_i pe), (2, fz_i t), (3, fz_i hr), (4, fz_i 3), (5, fz_i su)]) kX11_tries rfl (by decide) rfl (by omega) rfl ?_
                      refine fz_goto (tgt := 79) kX11_tries rfl (by decide) ?_
                      refine fz_sub (fz_pk_sub (ls' := [(6, fz_i (x196 + 1)), (0, fz_r 53), (1, fz_i pe), (2, fz_i t), (3, fz_i hr), (4, fz_i 3), (5, fz_i su)]) [0, 3, 4, 5, 6, 7, 8] rfl) ?_
                      exact ih202 (x196 + 1) H239 hI243 hf245 (by omega) (by omega)
                    · refine fz_goto (tgt := 211) kX11_tries rfl (by decide) ?_
                      refine fz_iincN (ls' := [(6, fz_i (x196 + 1)), (8, fz_i z211), (7, fz_i (h 55 (x196.toNat))), (0, fz_r 53), (1, fz_i pe), (2, fz_i t), (3, fz_i hr), (4, fz_i 3), (5, fz_i su)]) kX11_tries rfl (by decide) rfl (by omega) rfl ?_
                      refine fz_goto (tgt := 79) kX11_tries rfl (by decide) ?_
                      refine fz_sub (fz_pk_sub (ls' := [(6, fz_i (x196 + 1)), (0, fz_r 53), (1, fz_i pe), (2, fz_i t), (3, fz_i hr), (4, fz_i 3), (5, fz_i su)]) [0, 3, 4, 5, 6, 7, 8] rfl) ?_
                      exact ih202 (x196 + 1) H214 hI218 hf222 (by omega) (by omega)
                · refine fz_aload_n kX11_tries rfl rfl ?_
                  refine fz_getR (t := 56) kX11_tries rfl rfl ?_
                  refine fz_iload kX11_tries rfl rfl ?_
                  refine fz_ialdV (n := 12) (v := h 56 (x196.toNat)) kX11_tries rfl rfl (by omega) (by omega) (hf199 56 _ rfl) ?_
                  have b246 : 0 ≤ h 56 (x196.toNat) ∧ h 56 (x196.toNat) ≤ 7 := hI.1 56 _
                  refine fz_goto (tgt := 141) kX11_tries rfl (by decide) ?_
                  refine fz_istore (ls' := [(7, fz_i (h 56 (x196.toNat))), (6, fz_i x196), (0, fz_r 53), (1, fz_i pe), (2, fz_i t), (3, fz_i hr), (4, fz_i 3), (5, fz_i su)]) kX11_tries rfl (by decide) rfl ?_
                  refine fz_iload_n kX11_tries rfl rfl ?_
                  refine fz_aload_n kX11_tries rfl rfl ?_
                  refine fz_getR (t := 57) kX11_tries rfl rfl ?_
                  refine fz_iload kX11_tries rfl rfl ?_
                  refine fz_ialdV (n := 12) (v := h 57 (x196.toNat)) kX11_tries rfl rfl (by omega) (by omega) (hf199 57 _ rfl) ?_
                  have b247 : 0 ≤ h 57 (x196.toNat) ∧ h 57 (x196.toNat) ≤ 24 := hI.1 57 _
                  refine fz_iadd kX11_tries rfl ?_
                  refine fz_nmw (fun z248 e249 => ?_)
                  refine fz_istore (ls' := [(8, fz_i z248), (7, fz_i (h 56 (x196.toNat))), (6, fz_i x196), (0, fz_r 53), (1, fz_i pe), (2, fz_i t), (3, fz_i hr), (4, fz_i 3), (5, fz_i su)]) kX11_tries rfl (by decide) rfl ?_
                  refine fz_iload kX11_tries rfl rfl ?_
                  refine fz_sipush ⟨by decide, by decide⟩ kX11_tries rfl ?_
                  refine fz_icmp_gt (tgt := 211) kX11_tries rfl (by decide) (fun c250 => ?_) (fun c250 => ?_)
                  · refine fz_iincN (ls' := [(6, fz_i (x196 + 1)), (8, fz_i z248), (7, fz_i (h 56 (x196.toNat))), (0, fz_r 53), (1, fz_i pe), (2, fz_i t), (3, fz_i hr), (4, fz_i 3), (5, fz_i su)]) kX11_tries rfl (by decide) rfl (by omega) rfl ?_
                    refine fz_goto (tgt := 79) kX11_tries rfl (by decide) ?_
                    refine fz_sub (fz_pk_sub (ls' := [(6, fz_i (x196 + 1)), (0, fz_r 53), (1, fz_i pe), (2, fz_i t), (3, fz_i hr), (4, fz_i 3), (5, fz_i su)]) [0, 3, 4, 5, 6, 7, 8] rfl) ?_
                    exact ih202 (x196 + 1) H197 hI198 hf199 (by omega) (by omega)
                  · refine fz_aload_n kX11_tries rfl rfl ?_
                    refine fz_iload_n kX11_tries rfl rfl ?_
                    refine fz_iload kX11_tries rfl rfl ?_
                    refine fz_iload kX11_tries rfl rfl ?_
                    refine fz_callV (d' := 4) (M' := mX11_isArrested) (As := [fz_i pe, fz_i (h 56 (x196.toNat)), fz_i z248]) (st := []) kX11_tries rfl rfl vX11_isArrested rfl rfl rfl rfl (Nat.le_of_ble_eq_true rfl) (Nat.le_of_ble_eq_true rfl) (by decide) (sX11_isArrested H197 hI198 pe (h 56 (x196.toNat)) z248 (by omega)) (fun H251 r252 q253 o254 => ?_)
                    obtain ⟨hI255, hf256, y257, rfl, p258⟩ := q253
                    clear o254
                    have hf259 := fz_fr_tr hf199 hf256 (show fz_su [(74, 99999), (75, 99999)] [(53, 54), (53, 55), (74, 99999), (75, 99999), (89, 99999), (90, 99999)] = true from rfl)
                    refine fz_if_eq (tgt := 177) kX11_tries rfl (by decide) (fun c260 => ?_) (fun c260 => ?_)
                    · refine fz_aload_n kX11_tries rfl rfl ?_
                      refine fz_getR (t := 90) kX11_tries rfl rfl ?_
                      refine fz_iload kX11_tries rfl rfl ?_
                      refine fz_iload kX11_tries rfl rfl ?_
                      refine fz_iast (n := 4) kX11_tries rfl rfl (by omega) (by omega) ?_
                      refine fz_nmu (S := [(53, 54), (53, 55), (74, 99999), (75, 99999), (89, 99999), (90, 99999)]) (h0 := h) (fz_Iv_up hI255 (by decide) (show 0 ≤ (h 56 (x196.toNat)) by omega) (show (h 56 (x196.toNat)) ≤ 7 by omega)) (fz_fr_up hf259 rfl) (fun H261 hI262 hf263 e264 => ?_)
                      clear e264
                      refine fz_aload_n kX11_tries rfl rfl ?_
                      refine fz_iload_n kX11_tries rfl rfl ?_
                      refine fz_iload kX11_tries rfl rfl ?_
                      refine fz_iload kX11_tries rfl rfl ?_
                      refine fz_iload kX11_tries rfl rfl ?_
                      refine fz_iconst ⟨by decide, by decide⟩ kX11_tries rfl ?_
                      refine fz_iaddN kX11_tries rfl ⟨by decide, by decide⟩ ?_
                      refine fz_eqi (y := 4) rfl ?_
                      refine fz_iload kX11_tries rfl rfl ?_
                      refine fz_aload_n kX11_tries rfl rfl ?_
                      refine fz_iload_n kX11_tries rfl rfl ?_
                      refine fz_iload kX11_tries rfl rfl ?_
                      refine fz_iload kX11_tries rfl rfl ?_
                      refine fz_callV (d' := 4) (M' := mX11_receivedIn) (As := [fz_i pe, fz_i (h 56 (x196.toNat)), fz_i z248]) (st := [fz_i su, fz_i 4, fz_i z248, fz_i (h 56 (x196.toNat)), fz_i pe, fz_r 53]) kX11_tries rfl rfl vX11_receivedIn rfl rfl rfl rfl (Nat.le_of_ble_eq_true rfl) (Nat.le_of_ble_eq_true rfl) (by decide) (sX11_receivedIn H261 hI262 pe (h 56 (x196.toNat)) z248 (by omega)) (fun H265 r266 q267 o268 => ?_)
                      obtain ⟨hI269, hf270, y272, rfl, f271⟩ := q267
                      clear o268
                      have hf273 := fz_fr_tr hf263 hf270 (show fz_su [(74, 99999), (75, 99999)] [(53, 54), (53, 55), (74, 99999), (75, 99999), (89, 99999), (90, 99999)] = true from rfl)
                      refine fz_iadd kX11_tries rfl ?_
                      refine fz_nmw (fun z274 e275 => ?_)
                      refine fz_callV (d' := 1) (M' := mX11_tries) (As := [fz_i pe, fz_i (h 56 (x196.toNat)), fz_i z248, fz_i 4, fz_i z274]) (st := []) kX11_tries rfl rfl vX11_tries rfl rfl rfl rfl (Nat.le_of_ble_eq_true rfl) (Nat.le_of_ble_eq_true rfl) (by decide) (sX11_tries_4 H265 hI269 pe (h 56 (x196.toNat)) z248 z274 (by omega)) (fun H276 r277 q278 o279 => ?_)
                      obtain ⟨hI280, hf281, rfl⟩ := q278
                      clear o279
                      have hf282 := fz_fr_tr hf273 hf281 (show fz_su [(53, 54), (53, 55), (74, 99999), (75, 99999), (89, 99999), (90, 99999)] [(53, 54), (53, 55), (74, 99999), (75, 99999), (89, 99999), (90, 99999)] = true from rfl)
                      refine fz_iincN (ls' := [(6, fz_i (x196 + 1)), (8, fz_i z248), (7, fz_i (h 56 (x196.toNat))), (0, fz_r 53), (1, fz_i pe), (2, fz_i t), (3, fz_i hr), (4, fz_i 3), (5, fz_i su)]) kX11_tries rfl (by decide) rfl (by omega) rfl ?_
                      refine fz_goto (tgt := 79) kX11_tries rfl (by decide) ?_
                      refine fz_sub (fz_pk_sub (ls' := [(6, fz_i (x196 + 1)), (0, fz_r 53), (1, fz_i pe), (2, fz_i t), (3, fz_i hr), (4, fz_i 3), (5, fz_i su)]) [0, 3, 4, 5, 6, 7, 8] rfl) ?_
                      exact ih202 (x196 + 1) H276 hI280 hf282 (by omega) (by omega)
                    · refine fz_goto (tgt := 211) kX11_tries rfl (by decide) ?_
                      refine fz_iincN (ls' := [(6, fz_i (x196 + 1)), (8, fz_i z248), (7, fz_i (h 56 (x196.toNat))), (0, fz_r 53), (1, fz_i pe), (2, fz_i t), (3, fz_i hr), (4, fz_i 3), (5, fz_i su)]) kX11_tries rfl (by decide) rfl (by omega) rfl ?_
                      refine fz_goto (tgt := 79) kX11_tries rfl (by decide) ?_
                      refine fz_sub (fz_pk_sub (ls' := [(6, fz_i (x196 + 1)), (0, fz_r 53), (1, fz_i pe), (2, fz_i t), (3, fz_i hr), (4, fz_i 3), (5, fz_i su)]) [0, 3, 4, 5, 6, 7, 8] rfl) ?_
                      exact ih202 (x196 + 1) H251 hI255 hf259 (by omega) (by omega)
              · refine fz_aload_n kX11_tries rfl rfl ?_
                refine fz_getR (t := 56) kX11_tries rfl rfl ?_
                refine fz_iload kX11_tries rfl rfl ?_
                refine fz_ialdV (n := 12) (v := h 56 (x196.toNat)) kX11_tries rfl rfl (by omega) (by omega) (hf199 56 _ rfl) ?_
                have b283 : 0 ≤ h 56 (x196.toNat) ∧ h 56 (x196.toNat) ≤ 7 := hI.1 56 _
                refine fz_iload_n kX11_tries rfl rfl ?_
                refine fz_icmp_eq (tgt := 113) kX11_tries rfl (by decide) (fun c284 => ?_) (fun c284 => ?_)
                · refine fz_aload_n kX11_tries rfl rfl ?_
                  refine fz_getR (t := 55) kX11_tries rfl rfl ?_
                  refine fz_iload kX11_tries rfl rfl ?_
                  refine fz_ialdV (n := 12) (v := h 55 (x196.toNat)) kX11_tries rfl rfl (by omega) (by omega) (hf199 55 _ rfl) ?_
                  refine fz_iload_n kX11_tries rfl rfl ?_
                  refine fz_icmp_ne (tgt := 134) kX11_tries rfl (by decide) (fun c285 => ?_) (fun c285 => ?_)
                  · refine fz_aload_n kX11_tries rfl rfl ?_
                    refine fz_getR (t := 55) kX11_tries rfl rfl ?_
                    refine fz_iload kX11_tries rfl rfl ?_
                    refine fz_ialdV (n := 12) (v := h 55 (x196.toNat)) kX11_tries rfl rfl (by omega) (by omega) (hf199 55 _ rfl) ?_
                    refine fz_istore (ls' := [(7, fz_i (h 55 (x196.toNat))), (6, fz_i x196), (0, fz_r 53), (1, fz_i pe), (2, fz_i t), (3, fz_i hr), (4, fz_i 3), (5, fz_i su)]) kX11_tries rfl (by decide) rfl ?_
                    refine fz_iload_n kX11_tries rfl rfl ?_
                    refine fz_aload_n kX11_tries rfl rfl ?_
                    refine fz_getR (t := 57) kX11_tries rfl rfl ?_
                    refine fz_iload kX11_tries rfl rfl ?_
                    refine fz_ialdV (n := 12) (v := h 57 (x196.toNat)) kX11_tries rfl rfl (by omega) (by omega) (hf199 57 _ rfl) ?_
                    have b286 : 0 ≤ h 57 (x196.toNat) ∧ h 57 (x196.toNat) ≤ 24 := hI.1 57 _
                    refine fz_iadd kX11_tries rfl ?_
                    refine fz_nmw (fun z287 e288 => ?_)
                    refine fz_istore (ls' := [(8, fz_i z287), (7, fz_i (h 55 (x196.toNat))), (6, fz_i x196), (0, fz_r 53), (1, fz_i pe), (2, fz_i t), (3, fz_i hr), (4, fz_i 3), (5, fz_i su)]) kX11_tries rfl (by decide) rfl ?_
                    refine fz_iload kX11_tries rfl rfl ?_
                    refine fz_sipush ⟨by decide, by decide⟩ kX11_tries rfl ?_
                    refine fz_icmp_gt (tgt := 211) kX11_tries rfl (by decide) (fun c289 => ?_) (fun c289 => ?_)
                    · refine fz_iincN (ls' := [(6, fz_i (x196 + 1)), (8, fz_i z287), (7, fz_i (h 55 (x196.toNat))), (0, fz_r 53), (1, fz_i pe), (2, fz_i t), (3, fz_i hr), (4, fz_i 3), (5, fz_i su)]) kX11_tries rfl (by decide) rfl (by omega) rfl ?_
                      refine fz_goto (tgt := 79) kX11_tries rfl (by decide) ?_
                      refine fz_sub (fz_pk_sub (ls' := [(6, fz_i (x196 + 1)), (0, fz_r 53), (1, fz_i pe), (2, fz_i t), (3, fz_i hr), (4, fz_i 3), (5, fz_i su)]) [0, 3, 4, 5, 6, 7, 8] rfl) ?_
                      exact ih202 (x196 + 1) H197 hI198 hf199 (by omega) (by omega)
                    · refine fz_aload_n kX11_tries rfl rfl ?_
                      refine fz_iload_n kX11_tries rfl rfl ?_
                      refine fz_iload kX11_tries rfl rfl ?_
                      refine fz_iload kX11_tries rfl rfl ?_
                      refine fz_callV (d' := 4) (M' := mX11_isArrested) (As := [fz_i pe, fz_i (h 55 (x196.toNat)), fz_i z287]) (st := []) kX11_tries rfl rfl vX11_isArrested rfl rfl rfl rfl (Nat.le_of_ble_eq_true rfl) (Nat.le_of_ble_eq_true rfl) (by decide) (sX11_isArrested H197 hI198 pe (h 55 (x196.toNat)) z287 (by omega)) (fun H290 r291 q292 o293 => ?_)
                      obtain ⟨hI294, hf295, y296, rfl, p297⟩ := q292
                      clear o293
                      have hf298 := fz_fr_tr hf199 hf295 (show fz_su [(74, 99999), (75, 99999)] [(53, 54), (53, 55), (74, 99999), (75, 99999), (89, 99999), (90, 99999)] = true from rfl)
                      refine fz_if_eq (tgt := 177) kX11_tries rfl (by decide) (fun c299 => ?_) (fun c299 => ?_)
                      · refine fz_aload_n kX11_tries rfl rfl ?_
                        refine fz_getR (t := 90) kX11_tries rfl rfl ?_
                        refine fz_iload kX11_tries rfl rfl ?_
                        refine fz_iload kX11_tries rfl rfl ?_
                        refine fz_iast (n := 4) kX11_tries rfl rfl (by omega) (by omega) ?_
                        refine fz_nmu (S := [(53, 54), (53, 55), (74, 99999), (75, 99999), (89, 99999), (90, 99999)]) (h0 := h) (fz_Iv_up hI294 (by decide) (show 0 ≤ (h 55 (x196.toNat)) by omega) (show (h 55 (x196.toNat)) ≤ 7 by omega)) (fz_fr_up hf298 rfl) (fun H300 hI301 hf302 e303 => ?_)
                        clear e303
                        refine fz_aload_n kX11_tries rfl rfl ?_
                        refine fz_iload_n kX11_tries rfl rfl ?_
                        refine fz_iload kX11_tries rfl rfl ?_
                        refine fz_iload kX11_tries rfl rfl ?_
                        refine fz_iload kX11_tries rfl rfl ?_
                        refine fz_iconst ⟨by decide, by decide⟩ kX11_tries rfl ?_
                        refine fz_iaddN kX11_tries rfl ⟨by decide, by decide⟩ ?_
                        refine fz_eqi (y := 4) rfl ?_
                        refine fz_iload kX11_tries rfl rfl ?_
                        refine fz_aload_n kX11_tries rfl rfl ?_
                        refine fz_iload_n kX11_tries rfl rfl ?_
                        refine fz_iload kX11_tries rfl rfl ?_
                        refine fz_iload kX11_tries rfl rfl ?_
                        refine fz_callV (d' := 4) (M' := mX11_receivedIn) (As := [fz_i pe, fz_i (h 55 (x196.toNat)), fz_i z287]) (st := [fz_i su, fz_i 4, fz_i z287, fz_i (h 55 (x196.toNat)), fz_i pe, fz_r 53]) kX11_tries rfl rfl vX11_receivedIn rfl rfl rfl rfl (Nat.le_of_ble_eq_true rfl) (Nat.le_of_ble_eq_true rfl) (by decide) (sX11_receivedIn H300 hI301 pe (h 55 (x196.toNat)) z287 (by omega)) (fun H304 r305 q306 o307 => ?_)
                        obtain ⟨hI308, hf309, y311, rfl, f310⟩ := q306
                        clear o307
                        have hf312 := fz_fr_tr hf302 hf309 (show fz_su [(74, 99999), (75, 99999)] [(53, 54), (53, 55), (74, 99999), (75, 99999), (89, 99999), (90, 99999)] = true from rfl)
                        refine fz_iadd kX11_tries rfl ?_
                        refine fz_nmw (fun z313 e314 => ?_)
                        refine fz_callV (d' := 1) (M' := mX11_tries) (As := [fz_i pe, fz_i (h 55 (x196.toNat)), fz_i z287, fz_i 4, fz_i z313]) (st := []) kX11_tries rfl rfl vX11_tries rfl rfl rfl rfl (Nat.le_of_ble_eq_true rfl) (Nat.le_of_ble_eq_true rfl) (by decide) (sX11_tries_4 H304 hI308 pe (h 55 (x196.toNat)) z287 z313 (by omega)) (fun H315 r316 q317 o318 => ?_)
                        obtain ⟨hI319, hf320, rfl⟩ := q317
                        clear o318
                        have hf321 := fz_fr_tr hf312 hf320 (show fz_su [(53, 54), (53, 55), (74, 99999), (75, 99999), (89, 99999), (90, 99999)] [(53, 54), (53, 55), (74, 99999), (75, 99999), (89, 99999), (90, 99999)] = true from rfl)
                        refine fz_iincN (ls' := [(6, fz_i (x196 + 1)), (8, fz_i z287), (7, fz_i (h 55 (x196.toNat))), (0, fz_r 53), (1, fz_i pe), (2, fz_i t), (3, fz_i hr), (4, fz_i 3), (5, fz_i su)]) kX11_tries rfl (by decide) rfl (by omega) rfl ?_
                        refine fz_goto (tgt := 79) kX11_tries rfl (by decide) ?_
                        refine fz_sub (fz_pk_sub (ls' := [(6, fz_i (x196 + 1)), (0, fz_r 53), (1, fz_i pe), (2, fz_i t), (3, fz_i hr), (4, fz_i 3), (5, fz_i su)]) [0, 3, 4, 5, 6, 7, 8] rfl) ?_
                        exact ih202 (x196 + 1) H315 hI319 hf321 (by omega) (by omega)
                      · refine fz_goto (tgt := 211) kX11_tries rfl (by decide) ?_
                        refine fz_iincN (ls' := [(6, fz_i (x196 + 1)), (8, fz_i z287), (7, fz_i (h 55 (x196.toNat))), (0, fz_r 53), (1, fz_i pe), (2, fz_i t), (3, fz_i hr), (4, fz_i 3), (5, fz_i su)]) kX11_tries rfl (by decide) rfl (by omega) rfl ?_
                        refine fz_goto (tgt := 79) kX11_tries rfl (by decide) ?_
                        refine fz_sub (fz_pk_sub (ls' := [(6, fz_i (x196 + 1)), (0, fz_r 53), (1, fz_i pe), (2, fz_i t), (3, fz_i hr), (4, fz_i 3), (5, fz_i su)]) [0, 3, 4, 5, 6, 7, 8] rfl) ?_
                        exact ih202 (x196 + 1) H290 hI294 hf298 (by omega) (by omega)
                  · refine fz_aload_n kX11_tries rfl rfl ?_
                    refine fz_getR (t := 56) kX11_tries rfl rfl ?_
                    refine fz_iload kX11_tries rfl rfl ?_
                    refine fz_ialdV (n := 12) (v := h 56 (x196.toNat)) kX11_tries rfl rfl (by omega) (by omega) (hf199 56 _ rfl) ?_
                    refine fz_goto (tgt := 141) kX11_tries rfl (by decide) ?_
                    refine fz_istore (ls' := [(7, fz_i (h 56 (x196.toNat))), (6, fz_i x196), (0, fz_r 53), (1, fz_i pe), (2, fz_i t), (3, fz_i hr), (4, fz_i 3), (5, fz_i su)]) kX11_tries rfl (by decide) rfl ?_
                    refine fz_iload_n kX11_tries rfl rfl ?_
                    refine fz_aload_n kX11_tries rfl rfl ?_
                    refine fz_getR (t := 57) kX11_tries rfl rfl ?_
                    refine fz_iload kX11_tries rfl rfl ?_
                    refine fz_ialdV (n := 12) (v := h 57 (x196.toNat)) kX11_tries rfl rfl (by omega) (by omega) (hf199 57 _ rfl) ?_
                    have b322 : 0 ≤ h 57 (x196.toNat) ∧ h 57 (x196.toNat) ≤ 24 := hI.1 57 _
                    refine fz_iadd kX11_tries rfl ?_
                    refine fz_nmw (fun z323 e324 => ?_)
                    refine fz_istore (ls' := [(8, fz_i z323), (7, fz_i (h 56 (x196.toNat))), (6, fz_i x196), (0, fz_r 53), (1, fz_i pe), (2, fz_i t), (3, fz_i hr), (4, fz_i 3), (5, fz_i su)]) kX11_tries rfl (by decide) rfl ?_
                    refine fz_iload kX11_tries rfl rfl ?_
                    refine fz_sipush ⟨by decide, by decide⟩ kX11_tries rfl ?_
                    refine fz_icmp_gt (tgt := 211) kX11_tries rfl (by decide) (fun c325 => ?_) (fun c325 => ?_)
                    · refine fz_iincN (ls' := [(6, fz_i (x196 + 1)), (8, fz_i z323), (7, fz_i (h 56 (x196.toNat))), (0, fz_r 53), (1, fz_i pe), (2, fz_i t), (3, fz_i hr), (4, fz_i 3), (5, fz_i su)]) kX11_tries rfl (by decide) rfl (by omega) rfl ?_
                      refine fz_goto (tgt := 79) kX11_tries rfl (by decide) ?_
                      refine fz_sub (fz_pk_sub (ls' := [(6, fz_i (x196 + 1)), (0, fz_r 53), (1, fz_i pe), (2, fz_i t), (3, fz_i hr), (4, fz_i 3), (5, fz_i su)]) [0, 3, 4, 5, 6, 7, 8] rfl) ?_
                      exact ih202 (x196 + 1) H197 hI198 hf199 (by omega) (by omega)
                    · refine fz_aload_n kX11_tries rfl rfl ?_
                      refine fz_iload_n kX11_tries rfl rfl ?_
                      refine fz_iload kX11_tries rfl rfl ?_
                      refine fz_iload kX11_tries rfl rfl ?_
                      refine fz_callV (d' := 4) (M' := mX11_isArrested) (As := [fz_i pe, fz_i (h 56 (x196.toNat)), fz_i z323]) (st := []) kX11_tries rfl rfl vX11_isArrested rfl rfl rfl rfl (Nat.le_of_ble_eq_true rfl) (Nat.le_of_ble_eq_true rfl) (by decide) (sX11_isArrested H197 hI198 pe (h 56 (x196.toNat)) z323 (by omega)) (fun H326 r327 q328 o329 => ?_)
                      obtain ⟨hI330, hf331, y332, rfl, p333⟩ := q328
                      clear o329
                      have hf334 := fz_fr_tr hf199 hf331 (show fz_su [(74, 99999), (75, 99999)] [(53, 54), (53, 55), (74, 99999), (75, 99999), (89, 99999), (90, 99999)] = true from rfl)
                      refine fz_if_eq (tgt := 177) kX11_tries rfl (by decide) (fun c335 => ?_) (fun c335 => ?_)
                      · refine fz_aload_n kX11_tries rfl rfl ?_
                        refine fz_getR (t := 90) kX11_tries rfl rfl ?_
                        refine fz_iload kX11_tries rfl rfl ?_
                        refine fz_iload kX11_tries rfl rfl ?_
                        refine fz_iast (n := 4) kX11_tries rfl rfl (by omega) (by omega) ?_
                        refine fz_nmu (S := [(53, 54), (53, 55), (74, 99999), (75, 99999), (89, 99999), (90, 99999)]) (h0 := h) (fz_Iv_up hI330 (by decide) (show 0 ≤ (h 56 (x196.toNat)) by omega) (show (h 56 (x196.toNat)) ≤ 7 by omega)) (fz_fr_up hf334 rfl) (fun H336 hI337 hf338 e339 => ?_)
                        clear e339
                        refine fz_aload_n kX11_tries rfl rfl ?_
                        refine fz_iload_n kX11_tries rfl rfl ?_
                        refine fz_iload kX11_tries rfl rfl ?_
                        refine fz_iload kX11_tries rfl rfl ?_
                        refine fz_iload kX11_tries rfl rfl ?_
                        refine fz_iconst ⟨by decide, by decide⟩ kX11_tries rfl ?_
                        refine fz_iaddN kX11_tries rfl ⟨by decide, by decide⟩ ?_
                        refine fz_eqi (y := 4) rfl ?_
                        refine fz_iload kX11_tries rfl rfl ?_
                        refine fz_aload_n kX11_tries rfl rfl ?_
                        refine fz_iload_n kX11_tries rfl rfl ?_
                        refine fz_iload kX11_tries rfl rfl ?_
                        refine fz_iload kX11_tries rfl rfl ?_
                        refine fz_callV (d' := 4) (M' := mX11_receivedIn) (As := [fz_i pe, fz_i (h 56 (x196.toNat)), fz_i z323]) (st := [fz_i su, fz_i 4, fz_i z323, fz_i (h 56 (x196.toNat)), fz_i pe, fz_r 53]) kX11_tries rfl rfl vX11_receivedIn rfl rfl rfl rfl (Nat.le_of_ble_eq_true rfl) (Nat.le_of_ble_eq_true rfl) (by decide) (sX11_receivedIn H336 hI337 pe (h 56 (x196.toNat)) z323 (by omega)) (fun H340 r341 q342 o343 => ?_)
                        obtain ⟨hI344, hf345, y347, rfl, f346⟩ := q342
                        clear o343
                        have hf348 := fz_fr_tr hf338 hf345 (show fz_su [(74, 99999), (75, 99999)] [(53, 54), (53, 55), (74, 99999), (75, 99999), (89, 99999), (90, 99999)] = true from rfl)
                        refine fz_iadd kX11_tries rfl ?_
                        refine fz_nmw (fun z349 e350 => ?_)
                        refine fz_callV (d' := 1) (M' := mX11_tries) (As := [fz_i pe, fz_i (h 56 (x196.toNat)), fz_i z323, fz_i 4, fz_i z349]) (st := []) kX11_tries rfl rfl vX11_tries rfl rfl rfl rfl (Nat.le_of_ble_eq_true rfl) (Nat.le_of_ble_eq_true rfl) (by decide) (sX11_tries_4 H340 hI344 pe (h 56 (x196.toNat)) z323 z349 (by omega)) (fun H351 r352 q353 o354 => ?_)
                        obtain ⟨hI355, hf356, rfl⟩ := q353
                        clear o354
                        have hf357 := fz_fr_tr hf348 hf356 (show fz_su [(53, 54), (53, 55), (74, 99999), (75, 99999), (89, 99999), (90, 99999)] [(53, 54), (53, 55), (74, 99999), (75, 99999), (89, 99999), (90, 99999)] = true from rfl)
                        refine fz_iincN (ls' := [(6, fz_i (x196 + 1)), (8, fz_i z323), (7, fz_i (h 56 (x196.toNat))), (0, fz_r 53), (1, fz_i pe), (2, fz_i t), (3, fz_i hr), (4, fz_i 3), (5, fz_i su)]) kX11_tries rfl (by decide) rfl (by omega) rfl ?_
                        refine fz_goto (tgt := 79) kX11_tries rfl (by decide) ?_
                        refine fz_sub (fz_pk_sub (ls' := [(6, fz_i (x196 + 1)), (0, fz_r 53), (1, fz_i pe), (2, fz_i t), (3, fz_i hr), (4, fz_i 3), (5, fz_i su)]) [0, 3, 4, 5, 6, 7, 8] rfl) ?_
                        exact ih202 (x196 + 1) H351 hI355 hf357 (by omega) (by omega)
                      · refine fz_goto (tgt := 211) kX11_tries rfl (by decide) ?_
                        refine fz_iincN (ls' := [(6, fz_i (x196 + 1)), (8, fz_i z323), (7, fz_i (h 56 (x196.toNat))), (0, fz_r 53), (1, fz_i pe), (2, fz_i t), (3, fz_i hr), (4, fz_i 3), (5, fz_i su)]) kX11_tries rfl (by decide) rfl (by omega) rfl ?_
                        refine fz_goto (tgt := 79) kX11_tries rfl (by decide) ?_
                        refine fz_sub (fz_pk_sub (ls' := [(6, fz_i (x196 + 1)), (0, fz_r 53), (1, fz_i pe), (2, fz_i t), (3, fz_i hr), (4, fz_i 3), (5, fz_i su)]) [0, 3, 4, 5, 6, 7, 8] rfl) ?_
                        exact ih202 (x196 + 1) H326 hI330 hf334 (by omega) (by omega)
                · refine fz_goto (tgt := 211) kX11_tries rfl (by decide) ?_
                  refine fz_iincN (ls' := [(6, fz_i (x196 + 1)), (0, fz_r 53), (1, fz_i pe), (2, fz_i t), (3, fz_i hr), (4, fz_i 3), (5, fz_i su)]) kX11_tries rfl (by decide) rfl (by omega) rfl ?_
                  refine fz_goto (tgt := 79) kX11_tries rfl (by decide) ?_
                  exact ih202 (x196 + 1) H197 hI198 hf199 (by omega) (by omega)
        exact lp201 _ 0 h hI hf (by omega) (Nat.lt_succ_self _)
      · exfalso; omega
    · refine fz_aload_n kX11_tries rfl rfl ?_
      refine fz_iload kX11_tries rfl rfl ?_
      refine fz_callV (d' := 0) (M' := mX11_isAhead) (As := [fz_i 3]) (st := []) kX11_tries rfl rfl vX11_isAhead rfl rfl rfl rfl (Nat.le_of_ble_eq_true rfl) (Nat.le_of_ble_eq_true rfl) (by decide) (sX11_isAhead h hI 3 (by omega)) (fun H358 r359 q360 o361 => ?_)
      obtain ⟨e362, y363, rfl, p364⟩ := q360
      subst H358
      clear o361
      refine fz_if_eq (tgt := 69) kX11_tries rfl (by decide) (fun c365 => ?_) (fun c365 => ?_)
      · refine fz_iload kX11_tries rfl rfl ?_
        refine fz_iconst ⟨by decide, by decide⟩ kX11_tries rfl ?_
        refine fz_icmp_ne (tgt := 76) kX11_tries rfl (by decide) (fun c366 => ?_) (fun c366 => ?_)
        · refine fz_iconst ⟨by decide, by decide⟩ kX11_tries rfl ?_
          refine fz_istore (ls' := [(6, fz_i 0), (0, fz_r 53), (1, fz_i pe), (2, fz_i t), (3, fz_i hr), (4, fz_i 3), (5, fz_i su)]) kX11_tries rfl (by decide) rfl ?_
          have lp372 : ∀ (n371 : Nat) (x367 : Int) (H368 : fz_H), fz_Iv H368 → fz_fr [(53, 54), (53, 55), (74, 99999), (75, 99999), (89, 99999), (90, 99999)] h H368 → (0 ≤ x367 ∧ x367 ≤ 2147483647) → ((h 53 2) - x367).toNat < n371 → fz_R 5 mX11_tries 79 [(6, fz_i x367), (0, fz_r 53), (1, fz_i pe), (2, fz_i t), (3, fz_i hr), (4, fz_i 3), (5, fz_i su)] [] H368 (qX11_tries_3 h pe t hr su) := by
            intro n371
            induction n371 with
            | zero => intro x367 H368 hI369 hf370 hv375 hm374; exact absurd hm374 (by omega)
            | succ n371 ih373 =>
              intro x367 H368 hI369 hf370 hv375 hm374
              refine fz_iload kX11_tries rfl rfl ?_
              refine fz_aload_n kX11_tries rfl rfl ?_
              refine fz_getV (v := h 53 2) kX11_tries rfl rfl (hf370 53 2 rfl) ?_
              have b376 : 0 ≤ h 53 2 ∧ h 53 2 ≤ 12 := hI.1 53 _
              refine fz_icmp_ge (tgt := 217) kX11_tries rfl (by decide) (fun c377 => ?_) (fun c377 => ?_)
              · exact fz_vret kX11_tries rfl rfl ⟨hI369, hf370, rfl⟩
              · refine fz_aload_n kX11_tries rfl rfl ?_
                refine fz_getR (t := 55) kX11_tries rfl rfl ?_
                refine fz_iload kX11_tries rfl rfl ?_
                refine fz_ialdV (n := 12) (v := h 55 (x367.toNat)) kX11_tries rfl rfl (by omega) (by omega) (hf370 55 _ rfl) ?_
                have b378 : 0 ≤ h 55 (x367.toNat) ∧ h 55 (x367.toNat) ≤ 7 := hI.1 55 _
                refine fz_iload_n kX11_tries rfl rfl ?_
                refine fz_icmp_eq (tgt := 113) kX11_tries rfl (by decide) (fun c379 => ?_) (fun c379 => ?_)
                · refine fz_aload_n kX11_tries rfl rfl ?_
                  refine fz_getR (t := 55) kX11_tries rfl rfl ?_
                  refine fz_iload kX11_tries rfl rfl ?_
                  refine fz_ialdV (n := 12) (v := h 55 (x367.toNat)) kX11_tries rfl rfl (by omega) (by omega) (hf370 55 _ rfl) ?_
                  refine fz_iload_n kX11_tries rfl rfl ?_
                  refine fz_icmp_ne (tgt := 134) kX11_tries rfl (by decide) (fun c380 => ?_) (fun c380 => ?_)
                  · refine fz_aload_n kX11_tries rfl rfl ?_
                    refine fz_getR (t := 55) kX11_tries rfl rfl ?_
                    refine fz_iload kX11_tries rfl rfl ?_
                    refine fz_ialdV (n := 12) (v := h 55 (x367.toNat)) kX11_tries rfl rfl (by omega) (by omega) (hf370 55 _ rfl) ?_
                    refine fz_istore (ls' := [(7, fz_i (h 55 (x367.toNat))), (6, fz_i x367), (0, fz_r 53), (1, fz_i pe), (2, fz_i t), (3, fz_i hr), (4, fz_i 3), (5, fz_i su)]) kX11_tries rfl (by decide) rfl ?_
                    refine fz_iload_n kX11_tries rfl rfl ?_
                    refine fz_aload_n kX11_tries rfl rfl ?_
                    refine fz_getR (t := 57) kX11_tries rfl rfl ?_
                    refine fz_iload kX11_tries rfl rfl ?_
                    refine fz_ialdV (n := 12) (v := h 57 (x367.toNat)) kX11_tries rfl rfl (by omega) (by omega) (hf370 57 _ rfl) ?_
                    have b381 : 0 ≤ h 57 (x367.toNat) ∧ h 57 (x367.toNat) ≤ 24 := hI.1 57 _
                    refine fz_iadd kX11_tries rfl ?_
                    refine fz_nmw (fun z382 e383 => ?_)
                    refine fz_istore (ls' := [(8, fz_i z382), (7, fz_i (h 55 (x367.toNat))), (6, fz_i x367), (0, fz_r 53), (1, fz_i pe), (2, fz_i t), (3, fz_i hr), (4, fz_i 3), (5, fz_i su)]) kX11_tries rfl (by decide) rfl ?_
                    refine fz_iload kX11_tries rfl rfl ?_
                    refine fz_sipush ⟨by decide, by decide⟩ kX11_tries rfl ?_
                    refine fz_icmp_gt (tgt := 211) kX11_tries rfl (by decide) (fun c384 => ?_) (fun c384 => ?_)
                    · refine fz_iincN (ls' := [(6, fz_i (x367 + 1)), (8, fz_i z382), (7, fz_i (h 55 (x367.toNat))), (0, fz_r 53), (1, fz_i pe), (2, fz_i t), (3, fz_i hr), (4, fz_i 3), (5, fz_i su)]) kX11_tries rfl (by decide) rfl (by omega) rfl ?_
                      refine fz_goto (tgt := 79) kX11_tries rfl (by decide) ?_
                      refine fz_sub (fz_pk_sub (ls' := [(6, fz_i (x367 + 1)), (0, fz_r 53), (1, fz_i pe), (2, fz_i t), (3, fz_i hr), (4, fz_i 3), (5, fz_i su)]) [0, 3, 4, 5, 6, 7, 8] rfl) ?_
                      exact ih373 (x367 + 1) H368 hI369 hf370 (by omega) (by omega)
                    · refine fz_aload_n kX11_tries rfl rfl ?_
                      refine fz_iload_n kX11_tries rfl rfl ?_
                      refine fz_iload kX11_tries rfl rfl ?_
                      refine fz_iload kX11_tries rfl rfl ?_
                      refine fz_callV (d' := 4) (M' := mX11_isArrested) (As := [fz_i pe, fz_i (h 55 (x367.toNat)), fz_i z382]) (st := []) kX11_tries rfl rfl vX11_isArrested rfl rfl rfl rfl (Nat.le_of_ble_eq_true rfl) (Nat.le_of_ble_eq_true rfl) (by decide) (sX11_isArrested H368 hI369 pe (h 55 (x367.toNat)) z382 (by omega)) (fun H385 r386 q387 o388 => ?_)
                      obtain ⟨hI389, hf390, y391, rfl, p392⟩ := q387
                      clear o388
                      have hf393 := fz_fr_tr hf370 hf390 (show fz_su [(74, 99999), (75, 99999)] [(53, 54), (53, 55), (74, 99999), (75, 99999), (89, 99999), (90, 99999)] = true from rfl)
                      refine fz_if_eq (tgt := 177) kX11_tries rfl (by decide) (fun c394 => ?_) (fun c394 => ?_)
                      · refine fz_aload_n kX11_tries rfl rfl ?_
                        refine fz_getR (t := 90) kX11_tries rfl rfl ?_
                        refine fz_iload kX11_tries rfl rfl ?_
                        refine fz_iload kX11_tries rfl rfl ?_
                        refine fz_iast (n := 4) kX11_tries rfl rfl (by omega) (by omega) ?_
                        refine fz_nmu (S := [(53, 54), (53, 55), (74, 99999), (75, 99999), (89, 99999), (90, 99999)]) (h0 := h) (fz_Iv_up hI389 (by decide) (show 0 ≤ (h 55 (x367.toNat)) by omega) (show (h 55 (x367.toNat)) ≤ 7 by omega)) (fz_fr_up hf393 rfl) (fun H395 hI396 hf397 e398 => ?_)
                        clear e398
                        refine fz_aload_n kX11_tries rfl rfl ?_
                        refine fz_iload_n kX11_tries rfl rfl ?_
                        refine fz_iload kX11_tries rfl rfl ?_
                        refine fz_iload kX11_tries rfl rfl ?_
                        refine fz_iload kX11_tries rfl rfl ?_
                        refine fz_iconst ⟨by decide, by decide⟩ kX11_tries rfl ?_
                        refine fz_iaddN kX11_tries rfl ⟨by decide, by decide⟩ ?_
                        refine fz_eqi (y := 4) rfl ?_
                        refine fz_iload kX11_tries rfl rfl ?_
                        refine fz_aload_n kX11_tries rfl rfl ?_
                        refine fz_iload_n kX11_tries rfl rfl ?_
                        refine fz_iload kX11_tries rfl rfl ?_
                        refine fz_iload kX11_tries rfl rfl ?_
                        refine fz_callV (d' := 4) (M' := mX11_receivedIn) (As := [fz_i pe, fz_i (h 55 (x367.toNat)), fz_i z382]) (st := [fz_i su, fz_i 4, fz_i z382, fz_i (h 55 (x367.toNat)), fz_i pe, fz_r 53]) kX11_tries rfl rfl vX11_receivedIn rfl rfl rfl rfl (Nat.le_of_ble_eq_true rfl) (Nat.le_of_ble_eq_true rfl) (by decide) (sX11_receivedIn H395 hI396 pe (h 55 (x367.toNat)) z382 (by omega)) (fun H399 r400 q401 o402 => ?_)
                        obtain ⟨hI403, hf404, y406, rfl, f405⟩ := q401
                        clear o402
                        have hf407 := fz_fr_tr hf397 hf404 (show fz_su [(74, 99999), (75, 99999)] [(53, 54), (53, 55), (74, 99999), (75, 99999), (89, 99999), (90, 99999)] = true from rfl)
                        refine fz_iadd kX11_tries rfl ?_
                        refine fz_nmw (fun z408 e409 => ?_)
                        refine fz_callV (d' := 1) (M' := mX11_tries) (As := [fz_i pe, fz_i (h 55 (x367.toNat)), fz_i z382, fz_i 4, fz_i z408]) (st := []) kX11_tries rfl rfl vX11_tries rfl rfl rfl rfl (Nat.le_of_ble_eq_true rfl) (Nat.le_of_ble_eq_true rfl) (by decide) (sX11_tries_4 H399 hI403 pe (h 55 (x367.toNat)) z382 z408 (by omega)) (fun H410 r411 q412 o413 => ?_)
                        obtain ⟨hI414, hf415, rfl⟩ := q412
                        clear o413
                        have hf416 := fz_fr_tr hf407 hf415 (show fz_su [(53, 54), (53, 55), (74, 99999), (75, 99999), (89, 99999), (90, 99999)] [(53, 54), (53, 55), (74, 99999), (75, 99999), (89, 99999), (90, 99999)] = true from rfl)
                        refine fz_iincN (ls' := [(6, fz_i (x367 + 1)), (8, fz_i z382), (7, fz_i (h 55 (x367.toNat))), (0, fz_r 53), (1, fz_i pe), (2, fz_i t), (3, fz_i hr), (4, fz_i 3), (5, fz_i su)]) kX11_tries rfl (by decide) rfl (by omega) rfl ?_
                        refine fz_goto (tgt := 79) kX11_tries rfl (by decide) ?_
                        refine fz_sub (fz_pk_sub (ls' := [(6, fz_i (x367 + 1)), (0, fz_r 53), (1, fz_i pe), (2, fz_i t), (3, fz_i hr), (4, fz_i 3), (5, fz_i su)]) [0, 3, 4, 5, 6, 7, 8] rfl) ?_
                        exact ih373 (x367 + 1) H410 hI414 hf416 (by omega) (by omega)
                      · refine fz_goto (tgt := 211) kX11_tries rfl (by decide) ?_
                        refine fz_iincN (ls' := [(6, fz_i (x367 + 1)), (8, fz_i z382), (7, fz_i (h 55 (x367.toNat))), (0, fz_r 53), (1, fz_i pe), (2, fz_i t), (3, fz_i hr), (4, fz_i 3), (5, fz_i su)]) kX11_tries rfl (by decide) rfl (by omega) rfl ?_
                        refine fz_goto (tgt := 79) kX11_tries rfl (by decide) ?_
                        refine fz_sub (fz_pk_sub (ls' := [(6, fz_i (x367 + 1)), (0, fz_r 53), (1, fz_i pe), (2, fz_i t), (3, fz_i hr), (4, fz_i 3), (5, fz_i su)]) [0, 3, 4, 5, 6, 7, 8] rfl) ?_
                        exact ih373 (x367 + 1) H385 hI389 hf393 (by omega) (by omega)
                  · refine fz_aload_n kX11_tries rfl rfl ?_
                    refine fz_getR (t := 56) kX11_tries rfl rfl ?_
                    refine fz_iload kX11_tries rfl rfl ?_
                    refine fz_ialdV (n := 12) (v := h 56 (x367.toNat)) kX11_tries rfl rfl (by omega) (by omega) (hf370 56 _ rfl) ?_
                    have b417 : 0 ≤ h 56 (x367.toNat) ∧ h 56 (x367.toNat) ≤ 7 := hI.1 56 _
                    refine fz_goto (tgt := 141) kX11_tries rfl (by decide) ?_
                    refine fz_istore (ls' := [(7, fz_i (h 56 (x367.toNat))), (6, fz_i x367), (0, fz_r 53), (1, fz_i pe), (2, fz_i t), (3, fz_i hr), (4, fz_i 3), (5, fz_i su)]) kX11_tries rfl (by decide) rfl ?_
                    refine fz_iload_n kX11_tries rfl rfl ?_
                    refine fz_aload_n kX11_tries rfl rfl ?_
                    refine fz_getR (t := 57) kX11_tries rfl rfl ?_
                    refine fz_iload kX11_tries rfl rfl ?_
                    refine fz_ialdV (n := 12) (v := h 57 (x367.toNat)) kX11_tries rfl rfl (by omega) (by omega) (hf370 57 _ rfl) ?_
                    have b418 : 0 ≤ h 57 (x367.toNat) ∧ h 57 (x367.toNat) ≤ 24 := hI.1 57 _
                    refine fz_iadd kX11_tries rfl ?_
                    refine fz_nmw (fun z419 e420 => ?_)
                    refine fz_istore (ls' := [(8, fz_i z419), (7, fz_i (h 56 (x367.toNat))), (6, fz_i x367), (0, fz_r 53), (1, fz_i pe), (2, fz_i t), (3, fz_i hr), (4, fz_i 3), (5, fz_i su)]) kX11_tries rfl (by decide) rfl ?_
                    refine fz_iload kX11_tries rfl rfl ?_
                    refine fz_sipush ⟨by decide, by decide⟩ kX11_tries rfl ?_
                    refine fz_icmp_gt (tgt := 211) kX11_tries rfl (by decide) (fun c421 => ?_) (fun c421 => ?_)
                    · refine fz_iincN (ls' := [(6, fz_i (x367 + 1)), (8, fz_i z419), (7, fz_i (h 56 (x367.toNat))), (0, fz_r 53), (1, fz_i pe), (2, fz_i t), (3, fz_i hr), (4, fz_i 3), (5, fz_i su)]) kX11_tries rfl (by decide) rfl (by omega) rfl ?_
                      refine fz_goto (tgt := 79) kX11_tries rfl (by decide) ?_
                      refine fz_sub (fz_pk_sub (ls' := [(6, fz_i (x367 + 1)), (0, fz_r 53), (1, fz_i pe), (2, fz_i t), (3, fz_i hr), (4, fz_i 3), (5, fz_i su)]) [0, 3, 4, 5, 6, 7, 8] rfl) ?_
                      exact ih373 (x367 + 1) H368 hI369 hf370 (by omega) (by omega)
                    · refine fz_aload_n kX11_tries rfl rfl ?_
                      refine fz_iload_n kX11_tries rfl rfl ?_
                      refine fz_iload kX11_tries rfl rfl ?_
                      refine fz_iload kX11_tries rfl rfl ?_
                      refine fz_callV (d' := 4) (M' := mX11_isArrested) (As := [fz_i pe, fz_i (h 56 (x367.toNat)), fz_i z419]) (st := []) kX11_tries rfl rfl vX11_isArrested rfl rfl rfl rfl (Nat.le_of_ble_eq_true rfl) (Nat.le_of_ble_eq_true rfl) (by decide) (sX11_isArrested H368 hI369 pe (h 56 (x367.toNat)) z419 (by omega)) (fun H422 r423 q424 o425 => ?_)
                      obtain ⟨hI426, hf427, y428, rfl, p429⟩ := q424
                      clear o425
                      have hf430 := fz_fr_tr hf370 hf427 (show fz_su [(74, 99999), (75, 99999)] [(53, 54), (53, 55), (74, 99999), (75, 99999), (89, 99999), (90, 99999)] = true from rfl)
                      refine fz_if_eq (tgt := 177) kX11_tries rfl (by decide) (fun c431 => ?_) (fun c431 => ?_)
                      · refine fz_aload_n kX11_tries rfl rfl ?_
                        refine fz_getR (t := 90) kX11_tries rfl rfl ?_
                        refine fz_iload kX11_tries rfl rfl ?_
                        refine fz_iload kX11_tries rfl rfl ?_
                        refine fz_iast (n := 4) kX11_tries rfl rfl (by omega) (by omega) ?_
                        refine fz_nmu (S := [(53, 54), (53, 55), (74, 99999), (75, 99999), (89, 99999), (90, 99999)]) (h0 := h) (fz_Iv_up hI426 (by decide) (show 0 ≤ (h 56 (x367.toNat)) by omega) (show (h 56 (x367.toNat)) ≤ 7 by omega)) (fz_fr_up hf430 rfl) (fun H432 hI433 hf434 e435 => ?_)
                        clear e435
                        refine fz_aload_n kX11_tries rfl rfl ?_
                        refine fz_iload_n kX11_tries rfl rfl ?_
                        refine fz_iload kX11_tries rfl rfl ?_
                        refine fz_iload kX11_tries rfl rfl ?_
                        refine fz_iload kX11_tries rfl rfl ?_
                        refine fz_iconst ⟨by decide, by decide⟩ kX11_tries rfl ?_
                        refine fz_iaddN kX11_tries rfl ⟨by decide, by decide⟩ ?_
                        refine fz_eqi (y := 4) rfl ?_
                        refine fz_iload kX11_tries rfl rfl ?_
                        refine fz_aload_n kX11_tries rfl rfl ?_
                        refine fz_iload_n kX11_tries rfl rfl ?_
                        refine fz_iload kX11_tries rfl rfl ?_
                        refine fz_iload kX11_tries rfl rfl ?_
                        refine fz_callV (d' := 4) (M' := mX11_receivedIn) (As := [fz_i pe, fz_i (h 56 (x367.toNat)), fz_i z419]) (st := [fz_i su, fz_i 4, fz_i z419, fz_i (h 56 (x367.toNat)), fz_i pe, fz_r 53]) kX11_tries rfl rfl vX11_receivedIn rfl rfl rfl rfl (Nat.le_of_ble_eq_true rfl) (Nat.le_of_ble_eq_true rfl) (by decide) (sX11_receivedIn H432 hI433 pe (h 56 (x367.toNat)) z419 (by omega)) (fun H436 r437 q438 o439 => ?_)
                        obtain ⟨hI440, hf441, y443, rfl, f442⟩ := q438
                        clear o439
                        have hf444 := fz_fr_tr hf434 hf441 (show fz_su [(74, 99999), (75, 99999)] [(53, 54), (53, 55), (74, 99999), (75, 99999), (89, 99999), (90, 99999)] = true from rfl)
                        refine fz_iadd kX11_tries rfl ?_
                        refine fz_nmw (fun z445 e446 => ?_)
                        refine fz_callV (d' := 1) (M' := mX11_tries) (As := [fz_i pe, fz_i (h 56 (x367.toNat)), fz_i z419, fz_i 4, fz_i z445]) (st := []) kX11_tries rfl rfl vX11_tries rfl rfl rfl rfl (Nat.le_of_ble_eq_true rfl) (Nat.le_of_ble_eq_true rfl) (by decide) (sX11_tries_4 H436 hI440 pe (h 56 (x367.toNat)) z419 z445 (by omega)) (fun H447 r448 q449 o450 => ?_)
                        obtain ⟨hI451, hf452, rfl⟩ := q449
                        clear o450
                        have hf453 := fz_fr_tr hf444 hf452 (show fz_su [(53, 54), (53, 55), (74, 99999), (75, 99999), (89, 99999), (90, 99999)] [(53, 54), (53, 55), (74, 99999), (75, 99999), (89, 99999), (90, 99999)] = true from rfl)
                        refine fz_iincN (ls' := [(6, fz_i (x367 + 1)), (8, fz_i z419), (7, fz_i (h 56 (x367.toNat))), (0, fz_r 53), (1, fz_i pe), (2, fz_i t), (3, fz_i hr), (4, fz_i 3), (5, fz_i su)]) kX11_tries rfl (by decide) rfl (by omega) rfl ?_
                        refine fz_goto (tgt := 79) kX11_tries rfl (by decide) ?_
                        refine fz_sub (fz_pk_sub (ls' := [(6, fz_i (x367 + 1)), (0, fz_r 53), (1, fz_i pe), (2, fz_i t), (3, fz_i hr), (4, fz_i 3), (5, fz_i su)]) [0, 3, 4, 5, 6, 7, 8] rfl) ?_
                        exact ih373 (x367 + 1) H447 hI451 hf453 (by omega) (by omega)
                      · refine fz_goto (tgt := 211) kX11_tries rfl (by decide) ?_
                        refine fz_iincN (ls' := [(6, fz_i (x367 + 1)), (8, fz_i z419), (7, fz_i (h 56 (x367.toNat))), (0, fz_r 53), (1, fz_i pe), (2, fz_i t), (3, fz_i hr), (4, fz_i 3), (5, fz_i su)]) kX11_tries rfl (by decide) rfl (by omega) rfl ?_
                        refine fz_goto (tgt := 79) kX11_tries rfl (by decide) ?_
                        refine fz_sub (fz_pk_sub (ls' := [(6, fz_i (x367 + 1)), (0, fz_r 53), (1, fz_i pe), (2, fz_i t), (3, fz_i hr), (4, fz_i 3), (5, fz_i su)]) [0, 3, 4, 5, 6, 7, 8] rfl) ?_
                        exact ih373 (x367 + 1) H422 hI426 hf430 (by omega) (by omega)
                · refine fz_aload_n kX11_tries rfl rfl ?_
                  refine fz_getR (t := 56) kX11_tries rfl rfl ?_
                  refine fz_iload kX11_tries rfl rfl ?_
                  refine fz_ialdV (n := 12) (v := h 56 (x367.toNat)) kX11_tries rfl rfl (by omega) (by omega) (hf370 56 _ rfl) ?_
                  have b454 : 0 ≤ h 56 (x367.toNat) ∧ h 56 (x367.toNat) ≤ 7 := hI.1 56 _
                  refine fz_iload_n kX11_tries rfl rfl ?_
                  refine fz_icmp_eq (tgt := 113) kX11_tries rfl (by decide) (fun c455 => ?_) (fun c455 => ?_)
                  · refine fz_aload_n kX11_tries rfl rfl ?_
                    refine fz_getR (t := 55) kX11_tries rfl rfl ?_
                    refine fz_iload kX11_tries rfl rfl ?_
                    refine fz_ialdV (n := 12) (v := h 55 (x367.toNat)) kX11_tries rfl rfl (by omega) (by omega) (hf370 55 _ rfl) ?_
                    refine fz_iload_n kX11_tries rfl rfl ?_
                    refine fz_icmp_ne (tgt := 134) kX11_tries rfl (by decide) (fun c456 => ?_) (fun c456 => ?_)
                    · refine fz_aload_n kX11_tries rfl rfl ?_
                      refine fz_getR (t := 55) kX11_tries rfl rfl ?_
                      refine fz_iload kX11_tries rfl rfl ?_
                      refine fz_ialdV (n := 12) (v := h 55 (x367.toNat)) kX11_tries rfl rfl (by omega) (by omega) (hf370 55 _ rfl) ?_
                      refine fz_istore (ls' := [(7, fz_i (h 55 (x367.toNat))), (6, fz_i x367), (0, fz_r 53), (1, fz_i pe), (2, fz_i t), (3, fz_i hr), (4, fz_i 3), (5, fz_i su)]) kX11_tries rfl (by decide) rfl ?_
                      refine fz_iload_n kX11_tries rfl rfl ?_
                      refine fz_aload_n kX11_tries rfl rfl ?_
                      refine fz_getR (t := 57) kX11_tries rfl rfl ?_
                      refine fz_iload kX11_tries rfl rfl ?_
                      refine fz_ialdV (n := 12) (v := h 57 (x367.toNat)) kX11_tries rfl rfl (by omega) (by omega) (hf370 57 _ rfl) ?_
                      have b457 : 0 ≤ h 57 (x367.toNat) ∧ h 57 (x367.toNat) ≤ 24 := hI.1 57 _
                      refine fz_iadd kX11_tries rfl ?_
                      refine fz_nmw (fun z458 e459 => ?_)
                      refine fz_istore (ls' := [(8, fz_i z458), (7, fz_i (h 55 (x367.toNat))), (6, fz_i x367), (0, fz_r 53), (1, fz_i pe), (2, fz_i t), (3, fz_i hr), (4, fz_i 3), (5, fz_i su)]) kX11_tries rfl (by decide) rfl ?_
                      refine fz_iload kX11_tries rfl rfl ?_
                      refine fz_sipush ⟨by decide, by decide⟩ kX11_tries rfl ?_
                      refine fz_icmp_gt (tgt := 211) kX11_tries rfl (by decide) (fun c460 => ?_) (fun c460 => ?_)
                      · refine fz_iincN (ls' := [(6, fz_i (x367 + 1)), (8, fz_i z458), (7, fz_i (h 55 (x367.toNat))), (0, fz_r 53), (1, fz_i pe), (2, fz_i t), (3, fz_i hr), (4, fz_i 3), (5, fz_i su)]) kX11_tries rfl (by decide) rfl (by omega) rfl ?_
                        refine fz_goto (tgt := 79) kX11_tries rfl (by decide) ?_
                        refine fz_sub (fz_pk_sub (ls' := [(6, fz_i (x367 + 1)), (0, fz_r 53), (1, fz_i pe), (2, fz_i t), (3, fz_i hr), (4, fz_i 3), (5, fz_i su)]) [0, 3, 4, 5, 6, 7, 8] rfl) ?_
                        exact ih373 (x367 + 1) H368 hI369 hf370 (by omega) (by omega)
                      · refine fz_aload_n kX11_tries rfl rfl ?_
                        refine fz_iload_n kX11_tries rfl rfl ?_
                        refine fz_iload kX11_tries rfl rfl ?_
                        refine fz_iload kX11_tries rfl rfl ?_
                        refine fz_callV (d' := 4) (M' := mX11_isArrested) (As := [fz_i pe, fz_i (h 55 (x367.toNat)), fz_i z458]) (st := []) kX11_tries rfl rfl vX11_isArrested rfl rfl rfl rfl (Nat.le_of_ble_eq_true rfl) (Nat.le_of_ble_eq_true rfl) (by decide) (sX11_isArrested H368 hI369 pe (h 55 (x367.toNat)) z458 (by omega)) (fun H461 r462 q463 o464 => ?_)
                        obtain ⟨hI465, hf466, y467, rfl, p468⟩ := q463
                        clear o464
                        have hf469 := fz_fr_tr hf370 hf466 (show fz_su [(74, 99999), (75, 99999)] [(53, 54), (53, 55), (74, 99999), (75, 99999), (89, 99999), (90, 99999)] = true from rfl)
                        refine fz_if_eq (tgt := 177) kX11_tries rfl (by decide) (fun c470 => ?_) (fun c470 => ?_)
                        · refine fz_aload_n kX11_tries rfl rfl ?_
                          refine fz_getR (t := 90) kX11_tries rfl rfl ?_
                          refine fz_iload kX11_tries rfl rfl ?_
                          refine fz_iload kX11_tries rfl rfl ?_
                          refine fz_iast (n := 4) kX11_tries rfl rfl (by omega) (by omega) ?_
                          refine fz_nmu (S := [(53, 54), (53, 55), (74, 99999), (75, 99999), (89, 99999), (90, 99999)]) (h0 := h) (fz_Iv_up hI465 (by decide) (show 0 ≤ (h 55 (x367.toNat)) by omega) (show (h 55 (x367.toNat)) ≤ 7 by omega)) (fz_fr_up hf469 rfl) (fun H471 hI472 hf473 e474 => ?_)
                          clear e474
                          refine fz_aload_n kX11_tries rfl rfl ?_
                          refine fz_iload_n kX11_tries rfl rfl ?_
                          refine fz_iload kX11_tries rfl rfl ?_
                          refine fz_iload kX11_tries rfl rfl ?_
                          refine fz_iload kX11_tries rfl rfl ?_
                          refine fz_iconst ⟨by decide, by decide⟩ kX11_tries rfl ?_
                          refine fz_iaddN kX11_tries rfl ⟨by decide, by decide⟩ ?_
                          refine fz_eqi (y := 4) rfl ?_
                          refine fz_iload kX11_tries rfl rfl ?_
                          refine fz_aload_n kX11_tries rfl rfl ?_
                          refine fz_iload_n kX11_tries rfl rfl ?_
                          refine fz_iload kX11_tries rfl rfl ?_
                          refine fz_iload kX11_tries rfl rfl ?_
                          refine fz_callV (d' := 4) (M' := mX11_receivedIn) (As := [fz_i pe, fz_i (h 55 (x367.toNat)), fz_i z458]) (st := [fz_i su, fz_i 4, fz_i z458, fz_i (h 55 (x367.toNat)), fz_i pe, fz_r 53]) kX11_tries rfl rfl vX11_receivedIn rfl rfl rfl rfl (Nat.le_of_ble_eq_true rfl) (Nat.le_of_ble_eq_true rfl) (by decide) (sX11_receivedIn H471 hI472 pe (h 55 (x367.toNat)) z458 (by omega)) (fun H475 r476 q477 o478 => ?_)
                          obtain ⟨hI479, hf480, y482, rfl, f481⟩ := q477
                          clear o478
                          have hf483 := fz_fr_tr hf473 hf480 (show fz_su [(74, 99999), (75, 99999)] [(53, 54), (53, 55), (74, 99999), (75, 99999), (89, 99999), (90, 99999)] = true from rfl)
                          refine fz_iadd kX11_tries rfl ?_
                          refine fz_nmw (fun z484 e485 => ?_)
                          refine fz_callV (d' := 1) (M' := mX11_tries) (As := [fz_i pe, fz_i (h 55 (x367.toNat)), fz_i z458, fz_i 4, fz_i z484]) (st := []) kX11_tries rfl rfl vX11_tries rfl rfl rfl rfl (Nat.le_of_ble_eq_true rfl) (Nat.le_of_ble_eq_true rfl) (by decide) (sX11_tries_4 H475 hI479 pe (h 55 (x367.toNat)) z458 z484 (by omega)) (fun H486 r487 q488 o489 => ?_)
                          obtain ⟨hI490, hf491, rfl⟩ := q488
                          clear o489
                          have hf492 := fz_fr_tr hf483 hf491 (show fz_su [(53, 54), (53, 55), (74, 99999), (75, 99999), (89, 99999), (90, 99999)] [(53, 54), (53, 55), (74, 99999), (75, 99999), (89, 99999), (90, 99999)] = true from rfl)
                          refine fz_iincN (ls' := [(6, fz_i (x367 + 1)), (8, fz_i z458), (7, fz_i (h 55 (x367.toNat))), (0, fz_r 53), (1, fz_i pe), (2, fz_i t), (3, fz_i hr), (4, fz_i 3), (5, fz_i su)]) kX11_tries rfl (by decide) rfl (by omega) rfl ?_
                          refine fz_goto (tgt := 79) kX11_tries rfl (by decide) ?_
                          refine fz_sub (fz_pk_sub (ls' := [(6, fz_i (x367 + 1)), (0, fz_r 53), (1, fz_i pe), (2, fz_i t), (3, fz_i hr), (4, fz_i 3), (5, fz_i su)]) [0, 3, 4, 5, 6, 7, 8] rfl) ?_
                          exact ih373 (x367 + 1) H486 hI490 hf492 (by omega) (by omega)
                        · refine fz_goto (tgt := 211) kX11_tries rfl (by decide) ?_
                          refine fz_iincN (ls' := [(6, fz_i (x367 + 1)), (8, fz_i z458), (7, fz_i (h 55 (x367.toNat))), (0, fz_r 53), (1, fz_i pe), (2, fz_i t), (3, fz_i hr), (4, fz_i 3), (5, fz_i su)]) kX11_tries rfl (by decide) rfl (by omega) rfl ?_
                          refine fz_goto (tgt := 79) kX11_tries rfl (by decide) ?_
                          refine fz_sub (fz_pk_sub (ls' := [(6, fz_i (x367 + 1)), (0, fz_r 53), (1, fz_i pe), (2, fz_i t), (3, fz_i hr), (4, fz_i 3), (5, fz_i su)]) [0, 3, 4, 5, 6, 7, 8] rfl) ?_
                          exact ih373 (x367 + 1) H461 hI465 hf469 (by omega) (by omega)
                    · refine fz_aload_n kX11_tries rfl rfl ?_
                      refine fz_getR (t := 56) kX11_tries rfl rfl ?_
                      refine fz_iload kX11_tries rfl rfl ?_
                      refine fz_ialdV (n := 12) (v := h 56 (x367.toNat)) kX11_tries rfl rfl (by omega) (by omega) (hf370 56 _ rfl) ?_
                      refine fz_goto (tgt := 141) kX11_tries rfl (by decide) ?_
                      refine fz_istore (ls' := [(7, fz_i (h 56 (x367.toNat))), (6, fz_i x367), (0, fz_r 53), (1, fz_i pe), (2, fz_i t), (3, fz_i hr), (4, fz_i 3), (5, fz_i su)]) kX11_tries rfl (by decide) rfl ?_
                      refine fz_iload_n kX11_tries rfl rfl ?_
                      refine fz_aload_n kX11_tries rfl rfl ?_
                      refine fz_getR (t := 57) kX11_tries rfl rfl ?_
                      refine fz_iload kX11_tries rfl rfl ?_
                      refine fz_ialdV (n := 12) (v := h 57 (x367.toNat)) kX11_tries rfl rfl (by omega) (by omega) (hf370 57 _ rfl) ?_
                      have b493 : 0 ≤ h 57 (x367.toNat) ∧ h 57 (x367.toNat) ≤ 24 := hI.1 57 _
                      refine fz_iadd kX11_tries rfl ?_
                      refine fz_nmw (fun z494 e495 => ?_)
                      refine fz_istore (ls' := [(8, fz_i z494), (7, fz_i (h 56 (x367.toNat))), (6, fz_i x367), (0, fz_r 53), (1, fz_i pe), (2, fz_i t), (3, fz_i hr), (4, fz_i 3), (5, fz_i su)]) kX11_tries rfl (by decide) rfl ?_
                      refine fz_iload kX11_tries rfl rfl ?_
                      refine fz_sipush ⟨by decide, by decide⟩ kX11_tries rfl ?_
                      refine fz_icmp_gt (tgt := 211) kX11_tries rfl (by decide) (fun c496 => ?_) (fun c496 => ?_)
                      · refine fz_iincN (ls' := [(6, fz_i (x367 + 1)), (8, fz_i z494), (7, fz_i (h 56 (x367.toNat))), (0, fz_r 53), (1, fz_i pe), (2, fz_i t), (3, fz_i hr), (4, fz_i 3), (5, fz_i su)]) kX11_tries rfl (by decide) rfl (by omega) rfl ?_
                        refine fz_goto (tgt := 79) kX11_tries rfl (by decide) ?_
                        refine fz_sub (fz_pk_sub (ls' := [(6, fz_i (x367 + 1)), (0, fz_r 53), (1, fz_i pe), (2, fz_i t), (3, fz_i hr), (4, fz_i 3), (5, fz_i su)]) [0, 3, 4, 5, 6, 7, 8] rfl) ?_
                        exact ih373 (x367 + 1) H368 hI369 hf370 (by omega) (by omega)
                      · refine fz_aload_n kX11_tries rfl rfl ?_
                        refine fz_iload_n kX11_tries rfl rfl ?_
                        refine fz_iload kX11_tries rfl rfl ?_
                        refine fz_iload kX11_tries rfl rfl ?_
                        refine fz_callV (d' := 4) (M' := mX11_isArrested) (As := [fz_i pe, fz_i (h 56 (x367.toNat)), fz_i z494]) (st := []) kX11_tries rfl rfl vX11_isArrested rfl rfl rfl rfl (Nat.le_of_ble_eq_true rfl) (Nat.le_of_ble_eq_true rfl) (by decide) (sX11_isArrested H368 hI369 pe (h 56 (x367.toNat)) z494 (by omega)) (fun H497 r498 q499 o500 => ?_)
                        obtain ⟨hI501, hf502, y503, rfl, p504⟩ := q499
                        clear o500
                        have hf505 := fz_fr_tr hf370 hf502 (show fz_su [(74, 99999), (75, 99999)] [(53, 54), (53, 55), (74, 99999), (75, 99999), (89, 99999), (90, 99999)] = true from rfl)
                        refine fz_if_eq (tgt := 177) kX11_tries rfl (by decide) (fun c506 => ?_) (fun c506 => ?_)
                        · refine fz_aload_n kX11_tries rfl rfl ?_
                          refine fz_getR (t := 90) kX11_tries rfl rfl ?_
                          refine fz_iload kX11_tries rfl rfl ?_
                          refine fz_iload kX11_tries rfl rfl ?_
                          refine fz_iast (n := 4) kX11_tries rfl rfl (by omega) (by omega) ?_
                          refine fz_nmu (S := [(53, 54), (53, 55), (74, 99999), (75, 99999), (89, 99999), (90, 99999)]) (h0 := h) (fz_Iv_up hI501 (by decide) (show 0 ≤ (h 56 (x367.toNat)) by omega) (show (h 56 (x367.toNat)) ≤ 7 by omega)) (fz_fr_up hf505 rfl) (fun H507 hI508 hf509 e510 => ?_)
                          clear e510
                          refine fz_aload_n kX11_tries rfl rfl ?_
                          refine fz_iload_n kX11_tries rfl rfl ?_
                          refine fz_iload kX11_tries rfl rfl ?_
                          refine fz_iload kX11_tries rfl rfl ?_
                          refine fz_iload kX11_tries rfl rfl ?_
                          refine fz_iconst ⟨by decide, by decide⟩ kX11_tries rfl ?_
                          refine fz_iaddN kX11_tries rfl ⟨by decide, by decide⟩ ?_
                          refine fz_eqi (y := 4) rfl ?_
                          refine fz_iload kX11_tries rfl rfl ?_
                          refine fz_aload_n kX11_tries rfl rfl ?_
                          refine fz_iload_n kX11_tries rfl rfl ?_
                          refine fz_iload kX11_tries rfl rfl ?_
                          refine fz_iload kX11_tries rfl rfl ?_
                          refine fz_callV (d' := 4) (M' := mX11_receivedIn) (As := [fz_i pe, fz_i (h 56 (x367.toNat)), fz_i z494]) (st := [fz_i su, fz_i 4, fz_i z494, fz_i (h 56 (x367.toNat)), fz_i pe, fz_r 53]) kX11_tries rfl rfl vX11_receivedIn rfl rfl rfl rfl (Nat.le_of_ble_eq_true rfl) (Nat.le_of_ble_eq_true rfl) (by decide) (sX11_receivedIn H507 hI508 pe (h 56 (x367.toNat)) z494 (by omega)) (fun H511 r512 q513 o514 => ?_)
                          obtain ⟨hI515, hf516, y518, rfl, f517⟩ := q513
                          clear o514
                          have hf519 := fz_fr_tr hf509 hf516 (show fz_su [(74, 99999), (75, 99999)] [(53, 54), (53, 55), (74, 99999), (75, 99999), (89, 99999), (90, 99999)] = true from rfl)
                          refine fz_iadd kX11_tries rfl ?_
                          refine fz_nmw (fun z520 e521 => ?_)
                          refine fz_callV (d' := 1) (M' := mX11_tries) (As := [fz_i pe, fz_i (h 56 (x367.toNat)), fz_i z494, fz_i 4, fz_i z520]) (st := []) kX11_tries rfl rfl vX11_tries rfl rfl rfl rfl (Nat.le_of_ble_eq_true rfl) (Nat.le_of_ble_eq_true rfl) (by decide) (sX11_tries_4 H511 hI515 pe (h 56 (x367.toNat)) z494 z520 (by omega)) (fun H522 r523 q524 o525 => ?_)
                          obtain ⟨hI526, hf527, rfl⟩ := q524
                          clear o525
                          have hf528 := fz_fr_tr hf519 hf527 (show fz_su [(53, 54), (53, 55), (74, 99999), (75, 99999), (89, 99999), (90, 99999)] [(53, 54), (53, 55), (74, 99999), (75, 99999), (89, 99999), (90, 99999)] = true from rfl)
                          refine fz_iincN (ls' := [(6, fz_i (x367 + 1)), (8, fz_i z494), (7, fz_i (h 56 (x367.toNat))), (0, fz_r 53), (1, fz_i pe), (2, fz_i t), (3, fz_i hr), (4, fz_i 3), (5, fz_i su)]) kX11_tries rfl (by decide) rfl (by omega) rfl ?_
                          refine fz_goto (tgt := 79) kX11_tries rfl (by decide) ?_
                          refine fz_sub (fz_pk_sub (ls' := [(6, fz_i (x367 + 1)), (0, fz_r 53), (1, fz_i pe), (2, fz_i t), (3, fz_i hr), (4, fz_i 3), (5, fz_i su)]) [0, 3, 4, 5, 6, 7, 8] rfl) ?_
                          exact ih373 (x367 + 1) H522 hI526 hf528 (by omega) (by omega)
                        · refine fz_goto (tgt := 211) kX11_tries rfl (by decide) ?_
                          refine fz_iincN (ls' := [(6, fz_i (x367 + 1)), (8, fz_i z494), (7, fz_i (h 56 (x367.toNat))), (0, fz_r 53), (1, fz_i pe), (2, fz_i t), (3, fz_i hr), (4, fz_i 3), (5, fz_i su)]) kX11_tries rfl (by decide) rfl (by omega) rfl ?_
                          refine fz_goto (tgt := 79) kX11_tries rfl (by decide) ?_
                          refine fz_sub (fz_pk_sub (ls' := [(6, fz_i (x367 + 1)), (0, fz_r 53), (1, fz_i pe), (2, fz_i t), (3, fz_i hr), (4, fz_i 3), (5, fz_i su)]) [0, 3, 4, 5, 6, 7, 8] rfl) ?_
                          exact ih373 (x367 + 1) H497 hI501 hf505 (by omega) (by omega)
                  · refine fz_goto (tgt := 211) kX11_tries rfl (by decide) ?_
                    refine fz_iincN (ls' := [(6, fz_i (x367 + 1)), (0, fz_r 53), (1, fz_i pe), (2, fz_i t), (3, fz_i hr), (4, fz_i 3), (5, fz_i su)]) kX11_tries rfl (by decide) rfl (by omega) rfl ?_
                    refine fz_goto (tgt := 79) kX11_tries rfl (by decide) ?_
                    exact ih373 (x367 + 1) H368 hI369 hf370 (by omega) (by omega)
          exact lp372 _ 0 h hI hf (by omega) (Nat.lt_succ_self _)
        · exfalso; omega
      · refine fz_aload_n kX11_tries rfl rfl ?_
        refine fz_iload kX11_tries rfl rfl ?_
        refine fz_putI kX11_tries rfl rfl rfl ?_
        refine fz_nmu (S := [(53, 54), (53, 55), (74, 99999), (75, 99999), (89, 99999), (90, 99999)]) (h0 := h) (fz_Iv_up hI (by decide) (show (-2147483648) ≤ su by omega) (show su ≤ 2147483647 by omega)) (fz_fr_up hf rfl) (fun H529 hI530 hf531 e532 => ?_)
        have k533 : H529 53 54 = su := by rw [e532]; exact fz_up_e
        clear e532
        refine fz_aload_n kX11_tries rfl rfl ?_
        refine fz_iload kX11_tries rfl rfl ?_
        refine fz_putI kX11_tries rfl rfl rfl ?_
        refine fz_nmu (S := [(53, 54), (53, 55), (74, 99999), (75, 99999), (89, 99999), (90, 99999)]) (h0 := h) (fz_Iv_up hI530 (by decide) (show 0 ≤ 3 by omega) (show 3 ≤ 4 by omega)) (fz_fr_up hf531 rfl) (fun H534 hI535 hf536 e537 => ?_)
        have k538 : H534 53 54 = su := by rw [e537]; exact (fz_up_s (by decide)).trans k533
        have k539 : H534 53 55 = 3 := by rw [e537]; exact fz_up_e
        clear e537
        refine fz_iconst ⟨by decide, by decide⟩ kX11_tries rfl ?_
        refine fz_istore (ls' := [(6, fz_i 0), (0, fz_r 53), (1, fz_i pe), (2, fz_i t), (3, fz_i hr), (4, fz_i 3), (5, fz_i su)]) kX11_tries rfl (by decide) rfl ?_
        have lp545 : ∀ (n544 : Nat) (x540 : Int) (H541 : fz_H), fz_Iv H541 → fz_fr [(53, 54), (53, 55), (74, 99999), (75, 99999), (89, 99999), (90, 99999)] h H541 → (0 ≤ x540 ∧ x540 ≤ 2147483647) → (3 - x540).toNat < n544 → fz_R 5 mX11_tries 42 [(6, fz_i x540), (0, fz_r 53), (1, fz_i pe), (2, fz_i t), (3, fz_i hr), (4, fz_i 3), (5, fz_i su)] [] H541 (qX11_tries_3 h pe t hr su) := by
          intro n544
          induction n544 with
          | zero => intro x540 H541 hI542 hf543 hv548 hm547; exact absurd hm547 (by omega)
          | succ n544 ih546 =>
            intro x540 H541 hI542 hf543 hv548 hm547
            refine fz_iload kX11_tries rfl rfl ?_
            refine fz_iload kX11_tries rfl rfl ?_
            refine fz_icmp_ge (tgt := 69) kX11_tries rfl (by decide) (fun c549 => ?_) (fun c549 => ?_)
            · refine fz_iload kX11_tries rfl rfl ?_
              refine fz_iconst ⟨by decide, by decide⟩ kX11_tries rfl ?_
              refine fz_icmp_ne (tgt := 76) kX11_tries rfl (by decide) (fun c550 => ?_) (fun c550 => ?_)
              · refine fz_iconst ⟨by decide, by decide⟩ kX11_tries rfl ?_
                refine fz_istore (ls' := [(6, fz_i 0), (0, fz_r 53), (1, fz_i pe), (2, fz_i t), (3, fz_i hr), (4, fz_i 3), (5, fz_i su)]) kX11_tries rfl (by decide) rfl ?_
                have lp556 : ∀ (n555 : Nat) (x551 : Int) (H552 : fz_H), fz_Iv H552 → fz_fr [(53, 54), (53, 55), (74, 99999), (75, 99999), (89, 99999), (90, 99999)] h H552 → (0 ≤ x551 ∧ x551 ≤ 2147483647) → ((h 53 2) - x551).toNat < n555 → fz_R 5 mX11_tries 79 [(6, fz_i x551), (0, fz_r 53), (1, fz_i pe), (2, fz_i t), (3, fz_i hr), (4, fz_i 3), (5, fz_i su)] [] H552 (qX11_tries_3 h pe t hr su) := by
                  intro n555
                  induction n555 with
                  | zero => intro x551 H552 hI553 hf554 hv559 hm558; exact absurd hm558 (by omega)
                  | succ n555 ih557 =>
                    intro x551 H552 hI553 hf554 hv559 hm558
                    refine fz_iload kX11_tries rfl rfl ?_
                    refine fz_aload_n kX11_tries rfl rfl ?_
                    refine fz_getV (v := h 53 2) kX11_tries rfl rfl (hf554 53 2 rfl) ?_
                    have b560 : 0 ≤ h 53 2 ∧ h 53 2 ≤ 12 := hI.1 53 _
                    refine fz_icmp_ge (tgt := 217) kX11_tries rfl (by decide) (fun c561 => ?_) (fun c561 => ?_)
                    · exact fz_vret kX11_tries rfl rfl ⟨hI553, hf554, rfl⟩
                    · refine fz_aload_n kX11_tries rfl rfl ?_
                      refine fz_getR (t := 55) kX11_tries rfl rfl ?_
                      refine fz_iload kX11_tries rfl rfl ?_
                      refine fz_ialdV (n := 12) (v := h 55 (x551.toNat)) kX11_tries rfl rfl (by omega) (by omega) (hf554 55 _ rfl) ?_
                      have b562 : 0 ≤ h 55 (x551.toNat) ∧ h 55 (x551.toNat) ≤ 7 := hI.1 55 _
                      refine fz_iload_n kX11_tries rfl rfl ?_
                      refine fz_icmp_eq (tgt := 113) kX11_tries rfl (by decide) (fun c563 => ?_) (fun c563 => ?_)
                      · refine fz_aload_n kX11_tries rfl rfl ?_
                        refine fz_getR (t := 55) kX11_tries rfl rfl ?_
                        refine fz_iload kX11_tries rfl rfl ?_
                        refine fz_ialdV (n := 12) (v := h 55 (x551.toNat)) kX11_tries rfl rfl (by omega) (by omega) (hf554 55 _ rfl) ?_
                        refine fz_iload_n kX11_tries rfl rfl ?_
                        refine fz_icmp_ne (tgt := 134) kX11_tries rfl (by decide) (fun c564 => ?_) (fun c564 => ?_)
                        · refine fz_aload_n kX11_tries rfl rfl ?_
                          refine fz_getR (t := 55) kX11_tries rfl rfl ?_
                          refine fz_iload kX11_tries rfl rfl ?_
                          refine fz_ialdV (n := 12) (v := h 55 (x551.toNat)) kX11_tries rfl rfl (by omega) (by omega) (hf554 55 _ rfl) ?_
                          refine fz_istore (ls' := [(7, fz_i (h 55 (x551.toNat))), (6, fz_i x551), (0, fz_r 53), (1, fz_i pe), (2, fz_i t), (3, fz_i hr), (4, fz_i 3), (5, fz_i su)]) kX11_tries rfl (by decide) rfl ?_
                          refine fz_iload_n kX11_tries rfl rfl ?_
                          refine fz_aload_n kX11_tries rfl rfl ?_
                          refine fz_getR (t := 57) kX11_tries rfl rfl ?_
                          refine fz_iload kX11_tries rfl rfl ?_
                          refine fz_ialdV (n := 12) (v := h 57 (x551.toNat)) kX11_tries rfl rfl (by omega) (by omega) (hf554 57 _ rfl) ?_
                          have b565 : 0 ≤ h 57 (x551.toNat) ∧ h 57 (x551.toNat) ≤ 24 := hI.1 57 _
                          refine fz_iadd kX11_tries rfl ?_
                          refine fz_nmw (fun z566 e567 => ?_)
                          refine fz_istore (ls' := [(8, fz_i z566), (7, fz_i (h 55 (x551.toNat))), (6, fz_i x551), (0, fz_r 53), (1, fz_i pe), (2, fz_i t), (3, fz_i hr), (4, fz_i 3), (5, fz_i su)]) kX11_tries rfl (by decide) rfl ?_
                          refine fz_iload kX11_tries rfl rfl ?_
                          refine fz_sipush ⟨by decide, by decide⟩ kX11_tries rfl ?_
                          refine fz_icmp_gt (tgt := 211) kX11_tries rfl (by decide) (fun c568 => ?_) (fun c568 => ?_)
                          · refine fz_iincN (ls' := [(6, fz_i (x551 + 1)), (8, fz_i z566), (7, fz_i (h 55 (x551.toNat))), (0, fz_r 53), (1, fz_i pe), (2, fz_i t), (3, fz_i hr), (4, fz_i 3), (5, fz_i su)]) kX11_tries rfl (by decide) rfl (by omega) rfl ?_
                            refine fz_goto (tgt := 79) kX11_tries rfl (by decide) ?_
                            refine fz_sub (fz_pk_sub (ls' := [(6, fz_i (x551 + 1)), (0, fz_r 53), (1, fz_i pe), (2, fz_i t), (3, fz_i hr), (4, fz_i 3), (5, fz_i su)]) [0, 3, 4, 5, 6, 7, 8] rfl) ?_
                            exact ih557 (x551 + 1) H552 hI553 hf554 (by omega) (by omega)
                          · refine fz_aload_n kX11_tries rfl rfl ?_
                            refine fz_iload_n kX11_tries rfl rfl ?_
                            refine fz_iload kX11_tries rfl rfl ?_
                            refine fz_iload kX11_tries rfl rfl ?_
                            refine fz_callV (d' := 4) (M' := mX11_isArrested) (As := [fz_i pe, fz_i (h 55 (x551.toNat)), fz_i z566]) (st := []) kX11_tries rfl rfl vX11_isArrested rfl rfl rfl rfl (Nat.le_of_ble_eq_true rfl) (Nat.le_of_ble_eq_true rfl) (by decide) (sX11_isArrested H552 hI553 pe (h 55 (x551.toNat)) z566 (by omega)) (fun H569 r570 q571 o572 => ?_)
                            obtain ⟨hI573, hf574, y575, rfl, p576⟩ := q571
                            clear o572
                            have hf577 := fz_fr_tr hf554 hf574 (show fz_su [(74, 99999), (75, 99999)] [(53, 54), (53, 55), (74, 99999), (75, 99999), (89, 99999), (90, 99999)] = true from rfl)
                            refine fz_if_eq (tgt := 177) kX11_tries rfl (by decide) (fun c578 => ?_) (fun c578 => ?_)
                            · refine fz_aload_n kX11_tries rfl rfl ?_
                              refine fz_getR (t := 90) kX11_tries rfl rfl ?_
                              refine fz_iload kX11_tries rfl rfl ?_
                              refine fz_iload kX11_tries rfl rfl ?_
                              refine fz_iast (n := 4) kX11_tries rfl rfl (by omega) (by omega) ?_
                              refine fz_nmu (S := [(53, 54), (53, 55), (74, 99999), (75, 99999), (89, 99999), (90, 99999)]) (h0 := h) (fz_Iv_up hI573 (by decide) (show 0 ≤ (h 55 (x551.toNat)) by omega) (show (h 55 (x551.toNat)) ≤ 7 by omega)) (fz_fr_up hf577 rfl) (fun H579 hI580 hf581 e582 => ?_)
                              clear e582
                              refine fz_aload_n kX11_tries rfl rfl ?_
                              refine fz_iload_n kX11_tries rfl rfl ?_
                              refine fz_iload kX11_tries rfl rfl ?_
                              refine fz_iload kX11_tries rfl rfl ?_
                              refine fz_iload kX11_tries rfl rfl ?_
                              refine fz_iconst ⟨by decide, by decide⟩ kX11_tries rfl ?_
                              refine fz_iaddN kX11_tries rfl ⟨by decide, by decide⟩ ?_
                              refine fz_eqi (y := 4) rfl ?_
                              refine fz_iload kX11_tries rfl rfl ?_
                              refine fz_aload_n kX11_tries rfl rfl ?_
                              refine fz_iload_n kX11_tries rfl rfl ?_
                              refine fz_iload kX11_tries rfl rfl ?_
                              refine fz_iload kX11_tries rfl rfl ?_
                              refine fz_callV (d' := 4) (M' := mX11_receivedIn) (As := [fz_i pe, fz_i (h 55 (x551.toNat)), fz_i z566]) (st := [fz_i su, fz_i 4, fz_i z566, fz_i (h 55 (x551.toNat)), fz_i pe, fz_r 53]) kX11_tries rfl rfl vX11_receivedIn rfl rfl rfl rfl (Nat.le_of_ble_eq_true rfl) (Nat.le_of_ble_eq_true rfl) (by decide) (sX11_receivedIn H579 hI580 pe (h 55 (x551.toNat)) z566 (by omega)) (fun H583 r584 q585 o586 => ?_)
                              obtain ⟨hI587, hf588, y590, rfl, f589⟩ := q585
                              clear o586
                              have hf591 := fz_fr_tr hf581 hf588 (show fz_su [(74, 99999), (75, 99999)] [(53, 54), (53, 55), (74, 99999), (75, 99999), (89, 99999), (90, 99999)] = true from rfl)
                              refine fz_iadd kX11_tries rfl ?_
                              refine fz_nmw (fun z592 e593 => ?_)
                              refine fz_callV (d' := 1) (M' := mX11_tries) (As := [fz_i pe, fz_i (h 55 (x551.toNat)), fz_i z566, fz_i 4, fz_i z592]) (st := []) kX11_tries rfl rfl vX11_tries rfl rfl rfl rfl (Nat.le_of_ble_eq_true rfl) (Nat.le_of_ble_eq_true rfl) (by decide) (sX11_tries_4 H583 hI587 pe (h 55 (x551.toNat)) z566 z592 (by omega)) (fun H594 r595 q596 o597 => ?_)
                              obtain ⟨hI598, hf599, rfl⟩ := q596
                              clear o597
                              have hf600 := fz_fr_tr hf591 hf599 (show fz_su [(53, 54), (53, 55), (74, 99999), (75, 99999), (89, 99999), (90, 99999)] [(53, 54), (53, 55), (74, 99999), (75, 99999), (89, 99999), (90, 99999)] = true from rfl)
                              refine fz_iincN (ls' := [(6, fz_i (x551 + 1)), (8, fz_i z566), (7, fz_i (h 55 (x551.toNat))), (0, fz_r 53), (1, fz_i pe), (2, fz_i t), (3, fz_i hr), (4, fz_i 3), (5, fz_i su)]) kX11_tries rfl (by decide) rfl (by omega) rfl ?_
                              refine fz_goto (tgt := 79) kX11_tries rfl (by decide) ?_
                              refine fz_sub (fz_pk_sub (ls' := [(6, fz_i (x551 + 1)), (0, fz_r 53), (1, fz_i pe), (2, fz_i t), (3, fz_i hr), (4, fz_i 3), (5, fz_i su)]) [0, 3, 4, 5, 6, 7, 8] rfl) ?_
                              exact ih557 (x551 + 1) H594 hI598 hf600 (by omega) (by omega)
                            · refine fz_goto (tgt := 211) kX11_tries rfl (by decide) ?_
                              refine fz_iincN (ls' := [(6, fz_i (x551 + 1)), (8, fz_i z566), (7, fz_i (h 55 (x551.toNat))), (0, fz_r 53), (1, fz_i pe), (2, fz_i t), (3, fz_i hr), (4, fz_i 3), (5, fz_i su)]) kX11_tries rfl (by decide) rfl (by omega) rfl ?_
                              refine fz_goto (tgt := 79) kX11_tries rfl (by decide) ?_
                              refine fz_sub (fz_pk_sub (ls' := [(6, fz_i (x551 + 1)), (0, fz_r 53), (1, fz_i pe), (2, fz_i t), (3, fz_i hr), (4, fz_i 3), (5, fz_i su)]) [0, 3, 4, 5, 6, 7, 8] rfl) ?_
                              exact ih557 (x551 + 1) H569 hI573 hf577 (by omega) (by omega)
                        · refine fz_aload_n kX11_tries rfl rfl ?_
                          refine fz_getR (t := 56) kX11_tries rfl rfl ?_
                          refine fz_iload kX11_tries rfl rfl ?_
                          refine fz_ialdV (n := 12) (v := h 56 (x551.toNat)) kX11_tries rfl rfl (by omega) (by omega) (hf554 56 _ rfl) ?_
                          have b601 : 0 ≤ h 56 (x551.toNat) ∧ h 56 (x551.toNat) ≤ 7 := hI.1 56 _
                          refine fz_goto (tgt := 141) kX11_tries rfl (by decide) ?_
                          refine fz_istore (ls' := [(7, fz_i (h 56 (x551.toNat))), (6, fz_i x551), (0, fz_r 53), (1, fz_i pe), (2, fz_i t), (3, fz_i hr), (4, fz_i 3), (5, fz_i su)]) kX11_tries rfl (by decide) rfl ?_
                          refine fz_iload_n kX11_tries rfl rfl ?_
                          refine fz_aload_n kX11_tries rfl rfl ?_
                          refine fz_getR (t := 57) kX11_tries rfl rfl ?_
                          refine fz_iload kX11_tries rfl rfl ?_
                          refine fz_ialdV (n := 12) (v := h 57 (x551.toNat)) kX11_tries rfl rfl (by omega) (by omega) (hf554 57 _ rfl) ?_
                          have b602 : 0 ≤ h 57 (x551.toNat) ∧ h 57 (x551.toNat) ≤ 24 := hI.1 57 _
                          refine fz_iadd kX11_tries rfl ?_
                          refine fz_nmw (fun z603 e604 => ?_)
                          refine fz_istore (ls' := [(8, fz_i z603), (7, fz_i (h 56 (x551.toNat))), (6, fz_i x551), (0, fz_r 53), (1, fz_i pe), (2, fz_i t), (3, fz_i hr), (4, fz_i 3), (5, fz_i su)]) kX11_tries rfl (by decide) rfl ?_
                          refine fz_iload kX11_tries rfl rfl ?_
                          refine fz_sipush ⟨by decide, by decide⟩ kX11_tries rfl ?_
                          refine fz_icmp_gt (tgt := 211) kX11_tries rfl (by decide) (fun c605 => ?_) (fun c605 => ?_)
                          · refine fz_iincN (ls' := [(6, fz_i (x551 + 1)), (8, fz_i z603), (7, fz_i (h 56 (x551.toNat))), (0, fz_r 53), (1, fz_i pe), (2, fz_i t), (3, fz_i hr), (4, fz_i 3), (5, fz_i su)]) kX11_tries rfl (by decide) rfl (by omega) rfl ?_
                            refine fz_goto (tgt := 79) kX11_tries rfl (by decide) ?_
                            refine fz_sub (fz_pk_sub (ls' := [(6, fz_i (x551 + 1)), (0, fz_r 53), (1, fz_i pe), (2, fz_i t), (3, fz_i hr), (4, fz_i 3), (5, fz_i su)]) [0, 3, 4, 5, 6, 7, 8] rfl) ?_
                            exact ih557 (x551 + 1) H552 hI553 hf554 (by omega) (by omega)
                          · refine fz_aload_n kX11_tries rfl rfl ?_
                            refine fz_iload_n kX11_tries rfl rfl ?_
                            refine fz_iload kX11_tries rfl rfl ?_
                            refine fz_iload kX11_tries rfl rfl ?_
                            refine fz_callV (d' := 4) (M' := mX11_isArrested) (As := [fz_i pe, fz_i (h 56 (x551.toNat)), fz_i z603]) (st := []) kX11_tries rfl rfl vX11_isArrested rfl rfl rfl rfl (Nat.le_of_ble_eq_true rfl) (Nat.le_of_ble_eq_true rfl) (by decide) (sX11_isArrested H552 hI553 pe (h 56 (x551.toNat)) z603 (by omega)) (fun H606 r607 q608 o609 => ?_)
                            obtain ⟨hI610, hf611, y612, rfl, p613⟩ := q608
                            clear o609
                            have hf614 := fz_fr_tr hf554 hf611 (show fz_su [(74, 99999), (75, 99999)] [(53, 54), (53, 55), (74, 99999), (75, 99999), (89, 99999), (90, 99999)] = true from rfl)
                            refine fz_if_eq (tgt := 177) kX11_tries rfl (by decide) (fun c615 => ?_) (fun c615 => ?_)
                            · refine fz_aload_n kX11_tries rfl rfl ?_
                              refine fz_getR (t := 90) kX11_tries rfl rfl ?_
                              refine fz_iload kX11_tries rfl rfl ?_
                              refine fz_iload kX11_tries rfl rfl ?_
                              refine fz_iast (n := 4) kX11_tries rfl rfl (by omega) (by omega) ?_
                              refine fz_nmu (S := [(53, 54), (53, 55), (74, 99999), (75, 99999), (89, 99999), (90, 99999)]) (h0 := h) (fz_Iv_up hI610 (by decide) (show 0 ≤ (h 56 (x551.toNat)) by omega) (show (h 56 (x551.toNat)) ≤ 7 by omega)) (fz_fr_up hf614 rfl) (fun H616 hI617 hf618 e619 => ?_)
                              clear e619
                              refine fz_aload_n kX11_tries rfl rfl ?_
                              refine fz_iload_n kX11_tries rfl rfl ?_
                              refine fz_iload kX11_tries rfl rfl ?_
                              refine fz_iload kX11_tries rfl rfl ?_
                              refine fz_iload kX11_tries rfl rfl ?_
                              refine fz_iconst ⟨by decide, by decide⟩ kX11_tries rfl ?_
                              refine fz_iaddN kX11_tries rfl ⟨by decide, by decide⟩ ?_
                              refine fz_eqi (y := 4) rfl ?_
                              refine fz_iload kX11_tries rfl rfl ?_
                              refine fz_aload_n kX11_tries rfl rfl ?_
                              refine fz_iload_n kX11_tries rfl rfl ?_
                              refine fz_iload kX11_tries rfl rfl ?_
                              refine fz_iload kX11_tries rfl rfl ?_
                              refine fz_callV (d' := 4) (M' := mX11_receivedIn) (As := [fz_i pe, fz_i (h 56 (x551.toNat)), fz_i z603]) (st := [fz_i su, fz_i 4, fz_i z603, fz_i (h 56 (x551.toNat)), fz_i pe, fz_r 53]) kX11_tries rfl rfl vX11_receivedIn rfl rfl rfl rfl (Nat.le_of_ble_eq_true rfl) (Nat.le_of_ble_eq_true rfl) (by decide) (sX11_receivedIn H616 hI617 pe (h 56 (x551.toNat)) z603 (by omega)) (fun H620 r621 q622 o623 => ?_)
                              obtain ⟨hI624, hf625, y627, rfl, f626⟩ := q622
                              clear o623
                              have hf628 := fz_fr_tr hf618 hf625 (show fz_su [(74, 99999), (75, 99999)] [(53, 54), (53, 55), (74, 99999), (75, 99999), (89, 99999), (90, 99999)] = true from rfl)
                              refine fz_iadd kX11_tries rfl ?_
                              refine fz_nmw (fun z629 e630 => ?_)
                              refine fz_callV (d' := 1) (M' := mX11_tries) (As := [fz_i pe, fz_i (h 56 (x551.toNat)), fz_i z603, fz_i 4, fz_i z629]) (st := []) kX11_tries rfl rfl vX11_tries rfl rfl rfl rfl (Nat.le_of_ble_eq_true rfl) (Nat.le_of_ble_eq_true rfl) (by decide) (sX11_tries_4 H620 hI624 pe (h 56 (x551.toNat)) z603 z629 (by omega)) (fun H631 r632 q633 o634 => ?_)
                              obtain ⟨hI635, hf636, rfl⟩ := q633
                              clear o634
                              have hf637 := fz_fr_tr hf628 hf636 (show fz_su [(53, 54), (53, 55), (74, 99999), (75, 99999), (89, 99999), (90, 99999)] [(53, 54), (53, 55), (74, 99999), (75, 99999), (89, 99999), (90, 99999)] = true from rfl)
                              refine fz_iincN (ls' := [(6, fz_i (x551 + 1)), (8, fz_i z603), (7, fz_i (h 56 (x551.toNat))), (0, fz_r 53), (1, fz_i pe), (2, fz_i t), (3, fz_i hr), (4, fz_i 3), (5, fz_i su)]) kX11_tries rfl (by decide) rfl (by omega) rfl ?_
                              refine fz_goto (tgt := 79) kX11_tries rfl (by decide) ?_
                              refine fz_sub (fz_pk_sub (ls' := [(6, fz_i (x551 + 1)), (0, fz_r 53), (1, fz_i pe), (2, fz_i t), (3, fz_i hr), (4, fz_i 3), (5, fz_i su)]) [0, 3, 4, 5, 6, 7, 8] rfl) ?_
                              exact ih557 (x551 + 1) H631 hI635 hf637 (by omega) (by omega)
                            · refine fz_goto (tgt := 211) kX11_tries rfl (by decide) ?_
                              refine fz_iincN (ls' := [(6, fz_i (x551 + 1)), (8, fz_i z603), (7, fz_i (h 56 (x551.toNat))), (0, fz_r 53), (1, fz_i pe), (2, fz_i t), (3, fz_i hr), (4, fz_i 3), (5, fz_i su)]) kX11_tries rfl (by decide) rfl (by omega) rfl ?_
                              refine fz_goto (tgt := 79) kX11_tries rfl (by decide) ?_
                              refine fz_sub (fz_pk_sub (ls' := [(6, fz_i (x551 + 1)), (0, fz_r 53), (1, fz_i pe), (2, fz_i t), (3, fz_i hr), (4, fz_i 3), (5, fz_i su)]) [0, 3, 4, 5, 6, 7, 8] rfl) ?_
                              exact ih557 (x551 + 1) H606 hI610 hf614 (by omega) (by omega)
                      · refine fz_aload_n kX11_tries rfl rfl ?_
                        refine fz_getR (t := 56) kX11_tries rfl rfl ?_
                        refine fz_iload kX11_tries rfl rfl ?_
                        refine fz_ialdV (n := 12) (v := h 56 (x551.toNat)) kX11_tries rfl rfl (by omega) (by omega) (hf554 56 _ rfl) ?_
                        have b638 : 0 ≤ h 56 (x551.toNat) ∧ h 56 (x551.toNat) ≤ 7 := hI.1 56 _
                        refine fz_iload_n kX11_tries rfl rfl ?_
                        refine fz_icmp_eq (tgt := 113) kX11_tries rfl (by decide) (fun c639 => ?_) (fun c639 => ?_)
                        · refine fz_aload_n kX11_tries rfl rfl ?_
                          refine fz_getR (t := 55) kX11_tries rfl rfl ?_
                          refine fz_iload kX11_tries rfl rfl ?_
                          refine fz_ialdV (n := 12) (v := h 55 (x551.toNat)) kX11_tries rfl rfl (by omega) (by omega) (hf554 55 _ rfl) ?_
                          refine fz_iload_n kX11_tries rfl rfl ?_
                          refine fz_icmp_ne (tgt := 134) kX11_tries rfl (by decide) (fun c640 => ?_) (fun c640 => ?_)
                          · refine fz_aload_n kX11_tries rfl rfl ?_
                            refine fz_getR (t := 55) kX11_tries rfl rfl ?_
                            refine fz_iload kX11_tries rfl rfl ?_
                            refine fz_ialdV (n := 12) (v := h 55 (x551.toNat)) kX11_tries rfl rfl (by omega) (by omega) (hf554 55 _ rfl) ?_
                            refine fz_istore (ls' := [(7, fz_i (h 55 (x551.toNat))), (6, fz_i x551), (0, fz_r 53), (1, fz_i pe), (2, fz_i t), (3, fz_i hr), (4, fz_i 3), (5, fz_i su)]) kX11_tries rfl (by decide) rfl ?_
                            refine fz_iload_n kX11_tries rfl rfl ?_
                            refine fz_aload_n kX11_tries rfl rfl ?_
                            refine fz_getR (t := 57) kX11_tries rfl rfl ?_
                            refine fz_iload kX11_tries rfl rfl ?_
                            refine fz_ialdV (n := 12) (v := h 57 (x551.toNat)) kX11_tries rfl rfl (by omega) (by omega) (hf554 57 _ rfl) ?_
                            have b641 : 0 ≤ h 57 (x551.toNat) ∧ h 57 (x551.toNat) ≤ 24 := hI.1 57 _
                            refine fz_iadd kX11_tries rfl ?_
                            refine fz_nmw (fun z642 e643 => ?_)
                            refine fz_istore (ls' := [(8, fz_i z642), (7, fz_i (h 55 (x551.toNat))), (6, fz_i x551), (0, fz_r 53), (1, fz_i pe), (2, fz_i t), (3, fz_i hr), (4, fz_i 3), (5, fz_i su)]) kX11_tries rfl (by decide) rfl ?_
                            refine fz_iload kX11_tries rfl rfl ?_
                            refine fz_sipush ⟨by decide, by decide⟩ kX11_tries rfl ?_
                            refine fz_icmp_gt (tgt := 211) kX11_tries rfl (by decide) (fun c644 => ?_) (fun c644 => ?_)
                            · refine fz_iincN (ls' := [(6, fz_i (x551 + 1)), (8, fz_i z642), (7, fz_i (h 55 (x551.toNat))), (0, fz_r 53), (1, fz_i pe), (2, fz_i t), (3, fz_i hr), (4, fz_i 3), (5, fz_i su)]) kX11_tries rfl (by decide) rfl (by omega) rfl ?_
                              refine fz_goto (tgt := 79) kX11_tries rfl (by decide) ?_
                              refine fz_sub (fz_pk_sub (ls' := [(6, fz_i (x551 + 1)), (0, fz_r 53), (1, fz_i pe), (2, fz_i t), (3, fz_i hr), (4, fz_i 3), (5, fz_i su)]) [0, 3, 4, 5, 6, 7, 8] rfl) ?_
                              exact ih557 (x551 + 1) H552 hI553 hf554 (by omega) (by omega)
                            · refine fz_aload_n kX11_tries rfl rfl ?_
                              refine fz_iload_n kX11_tries rfl rfl ?_
                              refine fz_iload kX11_tries rfl rfl ?_
                              refine fz_iload kX11_tries rfl rfl ?_
                              refine fz_callV (d' := 4) (M' := mX11_isArrested) (As := [fz_i pe, fz_i (h 55 (x551.toNat)), fz_i z642]) (st := []) kX11_tries rfl rfl vX11_isArrested rfl rfl rfl rfl (Nat.le_of_ble_eq_true rfl) (Nat.le_of_ble_eq_true rfl) (by decide) (sX11_isArrested H552 hI553 pe (h 55 (x551.toNat)) z642 (by omega)) (fun H645 r646 q647 o648 => ?_)
                              obtain ⟨hI649, hf650, y651, rfl, p652⟩ := q647
                              clear o648
                              have hf653 := fz_fr_tr hf554 hf650 (show fz_su [(74, 99999), (75, 99999)] [(53, 54), (53, 55), (74, 99999), (75, 99999), (89, 99999), (90, 99999)] = true from rfl)
                              refine fz_if_eq (tgt := 177) kX11_tries rfl (by decide) (fun c654 => ?_) (fun c654 => ?_)
                              · refine fz_aload_n kX11_tries rfl rfl ?_
                                refine fz_getR (t := 90) kX11_tries rfl rfl ?_
                                refine fz_iload kX11_tries rfl rfl ?_
                                refine fz_iload kX11_tries rfl rfl ?_
                                refine fz_iast (n := 4) kX11_tries rfl rfl (by omega) (by omega) ?_
                                refine fz_nmu (S := [(53, 54), (53, 55), (74, 99999), (75, 99999), (89, 99999), (90, 99999)]) (h0 := h) (fz_Iv_up hI649 (by decide) (show 0 ≤ (h 55 (x551.toNat)) by omega) (show (h 55 (x551.toNat)) ≤ 7 by omega)) (fz_fr_up hf653 rfl) (fun H655 hI656 hf657 e658 => ?_)
                                clear e658
                                refine fz_aload_n kX11_tries rfl rfl ?_
                                refine fz_iload_n kX11_tries rfl rfl ?_
                                refine fz_iload kX11_tries rfl rfl ?_
                                refine fz_iload kX11_tries rfl rfl ?_
                                refine fz_iload kX11_tries rfl rfl ?_
                                refine fz_iconst ⟨by decide, by decide⟩ kX11_tries rfl ?_
                                refine fz_iaddN kX11_tries rfl ⟨by decide, by decide⟩ ?_
                                refine fz_eqi (y := 4) rfl ?_
                                refine fz_iload kX11_tries rfl rfl ?_
                                refine fz_aload_n kX11_tries rfl rfl ?_
                                refine fz_iload_n kX11_tries rfl rfl ?_
                                refine fz_iload kX11_tries rfl rfl ?_
                                refine fz_iload kX11_tries rfl rfl ?_
                                refine fz_callV (d' := 4) (M' := mX11_receivedIn) (As := [fz_i pe, fz_i (h 55 (x551.toNat)), fz_i z642]) (st := [fz_i su, fz_i 4, fz_i z642, fz_i (h 55 (x551.toNat)), fz_i pe, fz_r 53]) kX11_tries rfl rfl vX11_receivedIn rfl rfl rfl rfl (Nat.le_of_ble_eq_true rfl) (Nat.le_of_ble_eq_true rfl) (by decide) (sX11_receivedIn H655 hI656 pe (h 55 (x551.toNat)) z642 (by omega)) (fun H659 r660 q661 o662 => ?_)
                                obtain ⟨hI663, hf664, y666, rfl, f665⟩ := q661
                                clear o662
                                have hf667 := fz_fr_tr hf657 hf664 (show fz_su [(74, 99999), (75, 99999)] [(53, 54), (53, 55), (74, 99999), (75, 99999), (89, 99999), (90, 99999)] = true from rfl)
                                refine fz_iadd kX11_tries rfl ?_
                                refine fz_nmw (fun z668 e669 => ?_)
                                refine fz_callV (d' := 1) (M' := mX11_tries) (As := [fz_i pe, fz_i (h 55 (x551.toNat)), fz_i z642, fz_i 4, fz_i z668]) (st := []) kX11_tries rfl rfl vX11_tries rfl rfl rfl rfl (Nat.le_of_ble_eq_true rfl) (Nat.le_of_ble_eq_true rfl) (by decide) (sX11_tries_4 H659 hI663 pe (h 55 (x551.toNat)) z642 z668 (by omega)) (fun H670 r671 q672 o673 => ?_)
                                obtain ⟨hI674, hf675, rfl⟩ := q672
                                clear o673
                                have hf676 := fz_fr_tr hf667 hf675 (show fz_su [(53, 54), (53, 55), (74, 99999), (75, 99999), (89, 99999), (90, 99999)] [(53, 54), (53, 55), (74, 99999), (75, 99999), (89, 99999), (90, 99999)] = true from rfl)
                                refine fz_iincN (ls' := [(6, fz_i (x551 + 1)), (8, fz_i z642), (7, fz_i (h 55 (x551.toNat))), (0, fz_r 53), (1, fz_i pe), (2, fz_i t), (3, fz_i hr), (4, fz_i 3), (5, fz_i su)]) kX11_tries rfl (by decide) rfl (by omega) rfl ?_
                                refine fz_goto (tgt := 79) kX11_tries rfl (by decide) ?_
                                refine fz_sub (fz_pk_sub (ls' := [(6, fz_i (x551 + 1)), (0, fz_r 53), (1, fz_i pe), (2, fz_i t), (3, fz_i hr), (4, fz_i 3), (5, fz_i su)]) [0, 3, 4, 5, 6, 7, 8] rfl) ?_
                                exact ih557 (x551 + 1) H670 hI674 hf676 (by omega) (by omega)
                              · refine fz_goto (tgt := 211) kX11_tries rfl (by decide) ?_
                                refine fz_iincN (ls' := [(6, fz_i (x551 + 1)), (8, fz_i z642), (7, fz_i (h 55 (x551.toNat))), (0, fz_r 53), (1, fz_i pe), (2, fz_i t), (3, fz_i hr), (4, fz_i 3), (5, fz_i su)]) kX11_tries rfl (by decide) rfl (by omega) rfl ?_
                                refine fz_goto (tgt := 79) kX11_tries rfl (by decide) ?_
                                refine fz_sub (fz_pk_sub (ls' := [(6, fz_i (x551 + 1)), (0, fz_r 53), (1, fz_i pe), (2, fz_i t), (3, fz_i hr), (4, fz_i 3), (5, fz_i su)]) [0, 3, 4, 5, 6, 7, 8] rfl) ?_
                                exact ih557 (x551 + 1) H645 hI649 hf653 (by omega) (by omega)
                          · refine fz_aload_n kX11_tries rfl rfl ?_
                            refine fz_getR (t := 56) kX11_tries rfl rfl ?_
                            refine fz_iload kX11_tries rfl rfl ?_
                            refine fz_ialdV (n := 12) (v := h 56 (x551.toNat)) kX11_tries rfl rfl (by omega) (by omega) (hf554 56 _ rfl) ?_
                            refine fz_goto (tgt := 141) kX11_tries rfl (by decide) ?_
                            refine fz_istore (ls' := [(7, fz_i (h 56 (x551.toNat))), (6, fz_i x551), (0, fz_r 53), (1, fz_i pe), (2, fz_i t), (3, fz_i hr), (4, fz_i 3), (5, fz_i su)]) kX11_tries rfl (by decide) rfl ?_
                            refine fz_iload_n kX11_tries rfl rfl ?_
                            refine fz_aload_n kX11_tries rfl rfl ?_
                            refine fz_getR (t := 57) kX11_tries rfl rfl ?_
                            refine fz_iload kX11_tries rfl rfl ?_
                            refine fz_ialdV (n := 12) (v := h 57 (x551.toNat)) kX11_tries rfl rfl (by omega) (by omega) (hf554 57 _ rfl) ?_
                            have b677 : 0 ≤ h 57 (x551.toNat) ∧ h 57 (x551.toNat) ≤ 24 := hI.1 57 _
                            refine fz_iadd kX11_tries rfl ?_
                            refine fz_nmw (fun z678 e679 => ?_)
                            refine fz_istore (ls' := [(8, fz_i z678), (7, fz_i (h 56 (x551.toNat))), (6, fz_i x551), (0, fz_r 53), (1, fz_i pe), (2, fz_i t), (3, fz_i hr), (4, fz_i 3), (5, fz_i su)]) kX11_tries rfl (by decide) rfl ?_
                            refine fz_iload kX11_tries rfl rfl ?_
                            refine fz_sipush ⟨by decide, by decide⟩ kX11_tries rfl ?_
                            refine fz_icmp_gt (tgt := 211) kX11_tries rfl (by decide) (fun c680 => ?_) (fun c680 => ?_)
                            · refine fz_iincN (ls' := [(6, fz_i (x551 + 1)), (8, fz_i z678), (7, fz_i (h 56 (x551.toNat))), (0, fz_r 53), (1, fz_i pe), (2, fz_i t), (3, fz_i hr), (4, fz_i 3), (5, fz_i su)]) kX11_tries rfl (by decide) rfl (by omega) rfl ?_
                              refine fz_goto (tgt := 79) kX11_tries rfl (by decide) ?_
                              refine fz_sub (fz_pk_sub (ls' := [(6, fz_i (x551 + 1)), (0, fz_r 53), (1, fz_i pe), (2, fz_i t), (3, fz_i hr), (4, fz_i 3), (5, fz_i su)]) [0, 3, 4, 5, 6, 7, 8] rfl) ?_
                              exact ih557 (x551 + 1) H552 hI553 hf554 (by omega) (by omega)
                            · refine fz_aload_n kX11_tries rfl rfl ?_
                              refine fz_iload_n kX11_tries rfl rfl ?_
                              refine fz_iload kX11_tries rfl rfl ?_
                              refine fz_iload kX11_tries rfl rfl ?_
                              refine fz_callV (d' := 4) (M' := mX11_isArrested) (As := [fz_i pe, fz_i (h 56 (x551.toNat)), fz_i z678]) (st := []) kX11_tries rfl rfl vX11_isArrested rfl rfl rfl rfl (Nat.le_of_ble_eq_true rfl) (Nat.le_of_ble_eq_true rfl) (by decide) (sX11_isArrested H552 hI553 pe (h 56 (x551.toNat)) z678 (by omega)) (fun H681 r682 q683 o684 => ?_)
                              obtain ⟨hI685, hf686, y687, rfl, p688⟩ := q683
                              clear o684
                              have hf689 := fz_fr_tr hf554 hf686 (show fz_su [(74, 99999), (75, 99999)] [(53, 54), (53, 55), (74, 99999), (75, 99999), (89, 99999), (90, 99999)] = true from rfl)
                              refine fz_if_eq (tgt := 177) kX11_tries rfl (by decide) (fun c690 => ?_) (fun c690 => ?_)
                              · refine fz_aload_n kX11_tries rfl rfl ?_
                                refine fz_getR (t := 90) kX11_tries rfl rfl ?_
                                refine fz_iload kX11_tries rfl rfl ?_
                                refine fz_iload kX11_tries rfl rfl ?_
                                refine fz_iast (n := 4) kX11_tries rfl rfl (by omega) (by omega) ?_
                                refine fz_nmu (S := [(53, 54), (53, 55), (74, 99999), (75, 99999), (89, 99999), (90, 99999)]) (h0 := h) (fz_Iv_up hI685 (by decide) (show 0 ≤ (h 56 (x551.toNat)) by omega) (show (h 56 (x551.toNat)) ≤ 7 by omega)) (fz_fr_up hf689 rfl) (fun H691 hI692 hf693 e694 => ?_)
                                clear e694
                                refine fz_aload_n kX11_tries rfl rfl ?_
                                refine fz_iload_n kX11_tries rfl rfl ?_
                                refine fz_iload kX11_tries rfl rfl ?_
                                refine fz_iload kX11_tries rfl rfl ?_
                                refine fz_iload kX11_tries rfl rfl ?_
                                refine fz_iconst ⟨by decide, by decide⟩ kX11_tries rfl ?_
                                refine fz_iaddN kX11_tries rfl ⟨by decide, by decide⟩ ?_
                                refine fz_eqi (y := 4) rfl ?_
                                refine fz_iload kX11_tries rfl rfl ?_
                                refine fz_aload_n kX11_tries rfl rfl ?_
                                refine fz_iload_n kX11_tries rfl rfl ?_
                                refine fz_iload kX11_tries rfl rfl ?_
                                refine fz_iload kX11_tries rfl rfl ?_
                                refine fz_callV (d' := 4) (M' := mX11_receivedIn) (As := [fz_i pe, fz_i (h 56 (x551.toNat)), fz_i z678]) (st := [fz_i su, fz_i 4, fz_i z678, fz_i (h 56 (x551.toNat)), fz_i pe, fz_r 53]) kX11_tries rfl rfl vX11_receivedIn rfl rfl rfl rfl (Nat.le_of_ble_eq_true rfl) (Nat.le_of_ble_eq_true rfl) (by decide) (sX11_receivedIn H691 hI692 pe (h 56 (x551.toNat)) z678 (by omega)) (fun H695 r696 q697 o698 => ?_)
                                obtain ⟨hI699, hf700, y702, rfl, f701⟩ := q697
                                clear o698
                                have hf703 := fz_fr_tr hf693 hf700 (show fz_su [(74, 99999), (75, 99999)] [(53, 54), (53, 55), (74, 99999), (75, 99999), (89, 99999), (90, 99999)] = true from rfl)
                                refine fz_iadd kX11_tries rfl ?_
                                refine fz_nmw (fun z704 e705 => ?_)
                                refine fz_callV (d' := 1) (M' := mX11_tries) (As := [fz_i pe, fz_i (h 56 (x551.toNat)), fz_i z678, fz_i 4, fz_i z704]) (st := []) kX11_tries rfl rfl vX11_tries rfl rfl rfl rfl (Nat.le_of_ble_eq_true rfl) (Nat.le_of_ble_eq_true rfl) (by decide) (sX11_tries_4 H695 hI699 pe (h 56 (x551.toNat)) z678 z704 (by omega)) (fun H706 r707 q708 o709 => ?_)
                                obtain ⟨hI710, hf711, rfl⟩ := q708
                                clear o709
                                have hf712 := fz_fr_tr hf703 hf711 (show fz_su [(53, 54), (53, 55), (74, 99999), (75, 99999), (89, 99999), (90, 99999)] [(53, 54), (53, 55), (74, 99999), (75, 99999), (89, 99999), (90, 99999)] = true from rfl)
                                refine fz_iincN (ls' := [(6, fz_i (x551 + 1)), (8, fz_i z678), (7, fz_i (h 56 (x551.toNat))), (0, fz_r 53), (1, fz_i pe), (2, fz_i t), (3, fz_i hr), (4, fz_i 3), (5, fz_i su)]) kX11_tries rfl (by decide) rfl (by omega) rfl ?_
                                refine fz_goto (tgt := 79) kX11_tries rfl (by decide) ?_
                                refine fz_sub (fz_pk_sub (ls' := [(6, fz_i (x551 + 1)), (0, fz_r 53), (1, fz_i pe), (2, fz_i t), (3, fz_i hr), (4, fz_i 3), (5, fz_i su)]) [0, 3, 4, 5, 6, 7, 8] rfl) ?_
                                exact ih557 (x551 + 1) H706 hI710 hf712 (by omega) (by omega)
                              · refine fz_goto (tgt := 211) kX11_tries rfl (by decide) ?_
                                refine fz_iincN (ls' := [(6, fz_i (x551 + 1)), (8, fz_i z678), (7, fz_i (h 56 (x551.toNat))), (0, fz_r 53), (1, fz_i pe), (2, fz_i t), (3, fz_i hr), (4, fz_i 3), (5, fz_i su)]) kX11_tries rfl (by decide) rfl (by omega) rfl ?_
                                refine fz_goto (tgt := 79) kX11_tries rfl (by decide) ?_
                                refine fz_sub (fz_pk_sub (ls' := [(6, fz_i (x551 + 1)), (0, fz_r 53), (1, fz_i pe), (2, fz_i t), (3, fz_i hr), (4, fz_i 3), (5, fz_i su)]) [0, 3, 4, 5, 6, 7, 8] rfl) ?_
                                exact ih557 (x551 + 1) H681 hI685 hf689 (by omega) (by omega)
                        · refine fz_goto (tgt := 211) kX11_tries rfl (by decide) ?_
                          refine fz_iincN (ls' := [(6, fz_i (x551 + 1)), (0, fz_r 53), (1, fz_i pe), (2, fz_i t), (3, fz_i hr), (4, fz_i 3), (5, fz_i su)]) kX11_tries rfl (by decide) rfl (by omega) rfl ?_
                          refine fz_goto (tgt := 79) kX11_tries rfl (by decide) ?_
                          exact ih557 (x551 + 1) H552 hI553 hf554 (by omega) (by omega)
                exact lp556 _ 0 H541 hI542 hf543 (by omega) (Nat.lt_succ_self _)
              · exfalso; omega
            · refine fz_aload_n kX11_tries rfl rfl ?_
              refine fz_getR (t := 89) kX11_tries rfl rfl ?_
              refine fz_iload kX11_tries rfl rfl ?_
              refine fz_aload_n kX11_tries rfl rfl ?_
              refine fz_getR (t := 90) kX11_tries rfl rfl ?_
              refine fz_iload kX11_tries rfl rfl ?_
              obtain ⟨v713, e714⟩ : ∃ z, H541 90 (x540.toNat) = z := ⟨_, rfl⟩
              refine fz_ialdV (n := 4) (v := v713) kX11_tries rfl rfl (by omega) (by omega) e714 ?_
              have b715 : 0 ≤ v713 ∧ v713 ≤ 7 := by rw [← e714]; exact hI542.1 90 _
              refine fz_iast (n := 4) kX11_tries rfl rfl (by omega) (by omega) ?_
              refine fz_nmu (S := [(53, 54), (53, 55), (74, 99999), (75, 99999), (89, 99999), (90, 99999)]) (h0 := h) (fz_Iv_up hI542 (by decide) (show 0 ≤ v713 by omega) (show v713 ≤ 7 by omega)) (fz_fr_up hf543 rfl) (fun H716 hI717 hf718 e719 => ?_)
              clear e719
              refine fz_iincN (ls' := [(6, fz_i (x540 + 1)), (0, fz_r 53), (1, fz_i pe), (2, fz_i t), (3, fz_i hr), (4, fz_i 3), (5, fz_i su)]) kX11_tries rfl (by decide) rfl (by omega) rfl ?_
              refine fz_goto (tgt := 42) kX11_tries rfl (by decide) ?_
              exact ih546 (x540 + 1) H716 hI717 hf718 (by omega) (by omega)
        exact lp545 _ 0 H534 hI535 hf536 (by omega) (Nat.lt_succ_self _)

abbrev qX11_tries_2 (h : fz_H) (pe t hr su : Int) : fz_H → Option fz_V → Prop := fun h' r0 => fz_Iv h' ∧ fz_fr [(53, 54), (53, 55), (74, 99999), (75, 99999), (89, 99999), (90, 99999)] h h' ∧ r0 = none
set_option maxHeartbeats 1000000 in
set_option maxRecDepth 100000 in
theorem sX11_tries_2 (h : fz_H) (hI : fz_Iv h) (pe t hr su : Int) (hp0 : 0 ≤ t ∧ t ≤ 7) : fz_R 6 mX11_tries 0 [(0, fz_r 53), (1, fz_i pe), (2, fz_i t), (3, fz_i hr), (4, fz_i 2), (5, fz_i su)] [] h (qX11_tries_2 h pe t hr su) := by
  refine fz_knowl (fun hk => ?_)
  have hr_pe : -2147483648 ≤ pe ∧ pe < 2147483648 := hk _ (List.Mem.tail _ (List.Mem.head _))
  have hr_t : -2147483648 ≤ t ∧ t < 2147483648 := hk _ (List.Mem.tail _ (List.Mem.tail _ (List.Mem.head _)))
  have hr_hr : -2147483648 ≤ hr ∧ hr < 2147483648 := hk _ (List.Mem.tail _ (List.Mem.tail _ (List.Mem.tail _ (List.Mem.head _))))
  have hr_su : -2147483648 ≤ su ∧ su < 2147483648 := hk _ (List.Mem.tail _ (List.Mem.tail _ (List.Mem.tail _ (List.Mem.tail _ (List.Mem.tail _ (List.Mem.head _))))))
  clear hk
  have hf : fz_fr [(53, 54), (53, 55), (74, 99999), (75, 99999), (89, 99999), (90, 99999)] h h := fz_fr_rf
  refine fz_iload kX11_tries rfl rfl ?_
  refine fz_aload_n kX11_tries rfl rfl ?_
  refine fz_getV (v := h 53 54) kX11_tries rfl rfl rfl ?_
  have b1 : (-2147483648) ≤ h 53 54 ∧ h 53 54 ≤ 2147483647 := hI.1 53 _
  refine fz_icmp_gt (tgt := 27) kX11_tries rfl (by decide) (fun c2 => ?_) (fun c2 => ?_)
  · refine fz_aload_n kX11_tries rfl rfl ?_
    refine fz_iload kX11_tries rfl rfl ?_
    refine fz_putI kX11_tries rfl rfl rfl ?_
    refine fz_nmu (S := [(53, 54), (53, 55), (74, 99999), (75, 99999), (89, 99999), (90, 99999)]) (h0 := h) (fz_Iv_up hI (by decide) (show (-2147483648) ≤ su by omega) (show su ≤ 2147483647 by omega)) (fz_fr_up hf rfl) (fun H3 hI4 hf5 e6 => ?_)
    have k7 : H3 53 54 = su := by rw [e6]; exact fz_up_e
    clear e6
    refine fz_aload_n kX11_tries rfl rfl ?_
    refine fz_iload kX11_tries rfl rfl ?_
    refine fz_putI kX11_tries rfl rfl rfl ?_
    refine fz_nmu (S := [(53, 54), (53, 55), (74, 99999), (75, 99999), (89, 99999), (90, 99999)]) (h0 := h) (fz_Iv_up hI4 (by decide) (show 0 ≤ 2 by omega) (show 2 ≤ 4 by omega)) (fz_fr_up hf5 rfl) (fun H8 hI9 hf10 e11 => ?_)
    have k12 : H8 53 54 = su := by rw [e11]; exact (fz_up_s (by decide)).trans k7
    have k13 : H8 53 55 = 2 := by rw [e11]; exact fz_up_e
    clear e11
    refine fz_iconst ⟨by decide, by decide⟩ kX11_tries rfl ?_
    refine fz_istore (ls' := [(6, fz_i 0), (0, fz_r 53), (1, fz_i pe), (2, fz_i t), (3, fz_i hr), (4, fz_i 2), (5, fz_i su)]) kX11_tries rfl (by decide) rfl ?_
    have lp19 : ∀ (n18 : Nat) (x14 : Int) (H15 : fz_H), fz_Iv H15 → fz_fr [(53, 54), (53, 55), (74, 99999), (75, 99999), (89, 99999), (90, 99999)] h H15 → (0 ≤ x14 ∧ x14 ≤ 2147483647) → (2 - x14).toNat < n18 → fz_R 6 mX11_tries 42 [(6, fz_i x14), (0, fz_r 53), (1, fz_i pe), (2, fz_i t), (3, fz_i hr), (4, fz_i 2), (5, fz_i su)] [] H15 (qX11_tries_2 h pe t hr su) := by
      intro n18
      induction n18 with
      | zero => intro x14 H15 hI16 hf17 hv22 hm21; exact absurd hm21 (by omega)
      | succ n18 ih20 =>
        intro x14 H15 hI16 hf17 hv22 hm21
        refine fz_iload kX11_tries rfl rfl ?_
        refine fz_iload kX11_tries rfl rfl ?_
        refine fz_icmp_ge (tgt := 69) kX11_tries rfl (by decide) (fun c23 => ?_) (fun c23 => ?_)
        · refine fz_iload kX11_tries rfl rfl ?_
          refine fz_iconst ⟨by decide, by decide⟩ kX11_tries rfl ?_
          refine fz_icmp_ne (tgt := 76) kX11_tries rfl (by decide) (fun c24 => ?_) (fun c24 => ?_)
          · refine fz_iconst ⟨by decide, by decide⟩ kX11_tries rfl ?_
            refine fz_istore (ls' := [(6, fz_i 0), (0, fz_r 53), (1, fz_i pe), (2, fz_i t), (3, fz_i hr), (4, fz_i 2), (5, fz_i su)]) kX11_tries rfl (by decide) rfl ?_
            have lp30 : ∀ (n29 : Nat) (x25 : Int) (H26 : fz_H), fz_Iv H26 → fz_fr [(53, 54), (53, 55), (74, 99999), (75, 99999), (89, 99999), (90, 99999)] h H26 → (0 ≤ x25 ∧ x25 ≤ 2147483647) → ((h 53 2) - x25).toNat < n29 → fz_R 6 mX11_tries 79 [(6, fz_i x25), (0, fz_r 53), (1, fz_i pe), (2, fz_i t), (3, fz_i hr), (4, fz_i 2), (5, fz_i su)] [] H26 (qX11_tries_2 h pe t hr su) := by
              intro n29
              induction n29 with
              | zero => intro x25 H26 hI27 hf28 hv33 hm32; exact absurd hm32 (by omega)
              | succ n29 ih31 =>
                intro x25 H26 hI27 hf28 hv33 hm32
                refine fz_iload kX11_tries rfl rfl ?_
                refine fz_aload_n kX11_tries rfl rfl ?_
                refine fz_getV (v := h 53 2) kX11_tries rfl rfl (hf28 53 2 rfl) ?_
                have b34 : 0 ≤ h 53 2 ∧ h 53 2 ≤ 12 := hI.1 53 _
                refine fz_icmp_ge (tgt := 217) kX11_tries rfl (by decide) (fun c35 => ?_) (fun c35 => ?_)
                · exact fz_vret kX11_tries rfl rfl ⟨hI27, hf28, rfl⟩
                · refine fz_aload_n kX11_tries rfl rfl ?_
                  refine fz_getR (t := 55) kX11_tries rfl rfl ?_
                  refine fz_iload kX11_tries rfl rfl ?_
                  refine fz_ialdV (n := 12) (v := h 55 (x25.toNat)) kX11_tries rfl rfl (by omega) (by omega) (hf28 55 _ rfl) ?_
                  have b36 : 0 ≤ h 55 (x25.toNat) ∧ h 55 (x25.toNat) ≤ 7 := hI.1 55 _
                  refine fz_iload_n kX11_tries rfl rfl ?_
                  refine fz_icmp_eq (tgt := 113) kX11_tries rfl (by decide) (fun c37 => ?_) (fun c37 => ?_)
                  · refine fz_aload_n kX11_tries rfl rfl ?_
                    refine fz_getR (t := 55) kX11_tries rfl rfl ?_
                    refine fz_iload kX11_tries rfl rfl ?_
                    refine fz_ialdV (n := 12) (v := h 55 (x25.toNat)) kX11_tries rfl rfl (by omega) (by omega) (hf28 55 _ rfl) ?_
                    refine fz_iload_n kX11_tries rfl rfl ?_
                    refine fz_icmp_ne (tgt := 134) kX11_tries rfl (by decide) (fun c38 => ?_) (fun c38 => ?_)
                    · refine fz_aload_n kX11_tries rfl rfl ?_
                      refine fz_getR (t := 55) kX11_tries rfl rfl ?_
                      refine fz_iload kX11_tries rfl rfl ?_
                      refine fz_ialdV (n := 12) (v := h 55 (x25.toNat)) kX11_tries rfl rfl (by omega) (by omega) (hf28 55 _ rfl) ?_
                      refine fz_istore (ls' := [(7, fz_i (h 55 (x25.toNat))), (6, fz_i x25), (0, fz_r 53), (1, fz_i pe), (2, fz_i t), (3, fz_i hr), (4, fz_i 2), (5, fz_i su)]) kX11_tries rfl (by decide) rfl ?_
                      refine fz_iload_n kX11_tries rfl rfl ?_
                      refine fz_aload_n kX11_tries rfl rfl ?_
                      refine fz_getR (t := 57) kX11_tries rfl rfl ?_
                      refine fz_iload kX11_tries rfl rfl ?_
                      refine fz_ialdV (n := 12) (v := h 57 (x25.toNat)) kX11_tries rfl rfl (by omega) (by omega) (hf28 57 _ rfl) ?_
                      have b39 : 0 ≤ h 57 (x25.toNat) ∧ h 57 (x25.toNat) ≤ 24 := hI.1 57 _
                      refine fz_iadd kX11_tries rfl ?_
                      refine fz_nmw (fun z40 e41 => ?_)
                      refine fz_istore (ls' := [(8, fz_i z40), (7, fz_i (h 55 (x25.toNat))), (6, fz_i x25), (0, fz_r 53), (1, fz_i pe), (2, fz_i t), (3, fz_i hr), (4, fz_i 2), (5, fz_i su)]) kX11_tries rfl (by decide) rfl ?_
                      refine fz_iload kX11_tries rfl rfl ?_
                      refine fz_sipush ⟨by decide, by decide⟩ kX11_tries rfl ?_
                      refine fz_icmp_gt (tgt := 211) kX11_tries rfl (by decide) (fun c42 => ?_) (fun c42 => ?_)
                      · refine fz_iincN (ls' := [(6, fz_i (x25 + 1)), (8, fz_i z40), (7, fz_i (h 55 (x25.toNat))), (0, fz_r 53), (1, fz_i pe), (2, fz_i t), (3, fz_i hr), (4, fz_i 2), (5, fz_i su)]) kX11_tries rfl (by decide) rfl (by omega) rfl ?_
                        refine fz_goto (tgt := 79) kX11_tries rfl (by decide) ?_
                        refine fz_sub (fz_pk_sub (ls' := [(6, fz_i (x25 + 1)), (0, fz_r 53), (1, fz_i pe), (2, fz_i t), (3, fz_i hr), (4, fz_i 2), (5, fz_i su)]) [0, 3, 4, 5, 6, 7, 8] rfl) ?_
                        exact ih31 (x25 + 1) H26 hI27 hf28 (by omega) (by omega)
                      · refine fz_aload_n kX11_tries rfl rfl ?_
                        refine fz_iload_n kX11_tries rfl rfl ?_
                        refine fz_iload kX11_tries rfl rfl ?_
                        refine fz_iload kX11_tries rfl rfl ?_
                        refine fz_callV (d' := 4) (M' := mX11_isArrested) (As := [fz_i pe, fz_i (h 55 (x25.toNat)), fz_i z40]) (st := []) kX11_tries rfl rfl vX11_isArrested rfl rfl rfl rfl (Nat.le_of_ble_eq_true rfl) (Nat.le_of_ble_eq_true rfl) (by decide) (sX11_isArrested H26 hI27 pe (h 55 (x25.toNat)) z40 (by omega)) (fun H43 r44 q45 o46 => ?_)
                        obtain ⟨hI47, hf48, y49, rfl, p50⟩ := q45
                        clear o46
                        have hf51 := fz_fr_tr hf28 hf48 (show fz_su [(74, 99999), (75, 99999)] [(53, 54), (53, 55), (74, 99999), (75, 99999), (89, 99999), (90, 99999)] = true from rfl)
                        refine fz_if_eq (tgt := 177) kX11_tries rfl (by decide) (fun c52 => ?_) (fun c52 => ?_)
                        · refine fz_aload_n kX11_tries rfl rfl ?_
                          refine fz_getR (t := 90) kX11_tries rfl rfl ?_
                          refine fz_iload kX11_tries rfl rfl ?_
                          refine fz_iload kX11_tries rfl rfl ?_
                          refine fz_iast (n := 4) kX11_tries rfl rfl (by omega) (by omega) ?_
                          refine fz_nmu (S := [(53, 54), (53, 55), (74, 99999), (75, 99999), (89, 99999), (90, 99999)]) (h0 := h) (fz_Iv_up hI47 (by decide) (show 0 ≤ (h 55 (x25.toNat)) by omega) (show (h 55 (x25.toNat)) ≤ 7 by omega)) (fz_fr_up hf51 rfl) (fun H53 hI54 hf55 e56 => ?_)
                          clear e56
                          refine fz_aload_n kX11_tries rfl rfl ?_
                          refine fz_iload_n kX11_tries rfl rfl ?_
                          refine fz_iload kX11_tries rfl rfl ?_
                          refine fz_iload kX11_tries rfl rfl ?_
                          refine fz_iload kX11_tries rfl rfl ?_
                          refine fz_iconst ⟨by decide, by decide⟩ kX11_tries rfl ?_
                          refine fz_iaddN kX11_tries rfl ⟨by decide, by decide⟩ ?_
                          refine fz_eqi (y := 3) rfl ?_
                          refine fz_iload kX11_tries rfl rfl ?_
                          refine fz_aload_n kX11_tries rfl rfl ?_
                          refine fz_iload_n kX11_tries rfl rfl ?_
                          refine fz_iload kX11_tries rfl rfl ?_
                          refine fz_iload kX11_tries rfl rfl ?_
                          refine fz_callV (d' := 4) (M' := mX11_receivedIn) (As := [fz_i pe, fz_i (h 55 (x25.toNat)), fz_i z40]) (st := [fz_i su, fz_i 3, fz_i z40, fz_i (h 55 (x25.toNat)), fz_i pe, fz_r 53]) kX11_tries rfl rfl vX11_receivedIn rfl rfl rfl rfl (Nat.le_of_ble_eq_true rfl) (Nat.le_of_ble_eq_true rfl) (by decide) (sX11_receivedIn H53 hI54 pe (h 55 (x25.toNat)) z40 (by omega)) (fun H57 r58 q59 o60 => ?_)
                          obtain ⟨hI61, hf62, y64, rfl, f63⟩ := q59
                          clear o60
                          have hf65 := fz_fr_tr hf55 hf62 (show fz_su [(74, 99999), (75, 99999)] [(53, 54), (53, 55), (74, 99999), (75, 99999), (89, 99999), (90, 99999)] = true from rfl)
                          refine fz_iadd kX11_tries rfl ?_
                          refine fz_nmw (fun z66 e67 => ?_)
                          refine fz_callV (d' := 5) (M' := mX11_tries) (As := [fz_i pe, fz_i (h 55 (x25.toNat)), fz_i z40, fz_i 3, fz_i z66]) (st := []) kX11_tries rfl rfl vX11_tries rfl rfl rfl rfl (Nat.le_of_ble_eq_true rfl) (Nat.le_of_ble_eq_true rfl) (by decide) (sX11_tries_3 H57 hI61 pe (h 55 (x25.toNat)) z40 z66 (by omega)) (fun H68 r69 q70 o71 => ?_)
                          obtain ⟨hI72, hf73, rfl⟩ := q70
                          clear o71
                          have hf74 := fz_fr_tr hf65 hf73 (show fz_su [(53, 54), (53, 55), (74, 99999), (75, 99999), (89, 99999), (90, 99999)] [(53, 54), (53, 55), (74, 99999), (75, 99999), (89, 99999), (90, 99999)] = true from rfl)
                          refine fz_iincN (ls' := [(6, fz_i (x25 + 1)), (8, fz_i z40), (7, fz_i (h 55 (x25.toNat))), (0, fz_r 53), (1, fz_i pe), (2, fz_i t), (3, fz_i hr), (4, fz_i 2), (5, fz_i su)]) kX11_tries rfl (by decide) rfl (by omega) rfl ?_
                          refine fz_goto (tgt := 79) kX11_tries rfl (by decide) ?_
                          refine fz_sub (fz_pk_sub (ls' := [(6, fz_i (x25 + 1)), (0, fz_r 53), (1, fz_i pe), (2, fz_i t), (3, fz_i hr), (4, fz_i 2), (5, fz_i su)]) [0, 3, 4, 5, 6, 7, 8] rfl) ?_
                          exact ih31 (x25 + 1) H68 hI72 hf74 (by omega) (by omega)
                        · refine fz_goto (tgt := 211) kX11_tries rfl (by decide) ?_
                          refine fz_iincN (ls' := [(6, fz_i (x25 + 1)), (8, fz_i z40), (7, fz_i (h 55 (x25.toNat))), (0, fz_r 53), (1, fz_i pe), (2, fz_i t), (3, fz_i hr), (4, fz_i 2), (5, fz_i su)]) kX11_tries rfl (by decide) rfl (by omega) rfl ?_
                          refine fz_goto (tgt := 79) kX11_tries rfl (by decide) ?_
                          refine fz_sub (fz_pk_sub (ls' := [(6, fz_i (x25 + 1)), (0, fz_r 53), (1, fz_i pe), (2, fz_i t), (3, fz_i hr), (4, fz_i 2), (5, fz_i su)]) [0, 3, 4, 5, 6, 7, 8] rfl) ?_
                          exact ih31 (x25 + 1) H43 hI47 hf51 (by omega) (by omega)
                    · refine fz_aload_n kX11_tries rfl rfl ?_
                      refine fz_getR (t := 56) kX11_tries rfl rfl ?_
                      refine fz_iload kX11_tries rfl rfl ?_
                      refine fz_ialdV (n := 12) (v := h 56 (x25.toNat)) kX11_tries rfl rfl (by omega) (by omega) (hf28 56 _ rfl) ?_
                      have b75 : 0 ≤ h 56 (x25.toNat) ∧ h 56 (x25.toNat) ≤ 7 := hI.1 56 _
                      refine fz_goto (tgt := 141) kX11_tries rfl (by decide) ?_
                      refine fz_istore (ls' := [(7, fz_i (h 56 (x25.toNat))), (6, fz_i x25), (0, fz_r 53), (1, fz_i pe), (2, fz_i t), (3, fz_i hr), (4, fz_i 2), (5, fz_i su)]) kX11_tries rfl (by decide) rfl ?_
                      refine fz_iload_n kX11_tries rfl rfl ?_
                      refine fz_aload_n kX11_tries rfl rfl ?_
                      refine fz_getR (t := 57) kX11_tries rfl rfl ?_
                      refine fz_iload kX11_tries rfl rfl ?_
                      refine fz_ialdV (n := 12) (v := h 57 (x25.toNat)) kX11_tries rfl rfl (by omega) (by omega) (hf28 57 _ rfl) ?_
                      have b76 : 0 ≤ h 57 (x25.toNat) ∧ h 57 (x25.toNat) ≤ 24 := hI.1 57 _
                      refine fz_iadd kX11_tries rfl ?_
                      refine fz_nmw (fun z77 e78 => ?_)
                      refine fz_istore (ls' := [(8, fz_i z77), (7, fz_i (h 56 (x25.toNat))), (6, fz_i x25), (0, fz_r 53), (1, fz_i pe), (2, fz_i t), (3, fz_i hr), (4, fz_i 2), (5, fz_i su)]) kX11_tries rfl (by decide) rfl ?_
                      refine fz_iload kX11_tries rfl rfl ?_
                      refine fz_sipush ⟨by decide, by decide⟩ kX11_tries rfl ?_
                      refine fz_icmp_gt (tgt := 211) kX11_tries rfl (by decide) (fun c79 => ?_) (fun c79 => ?_)
                      · refine fz_iincN (ls' := [(6, fz_i (x25 + 1)), (8, fz_i z77), (7, fz_i (h 56 (x25.toNat))), (0, fz_r 53), (1, fz_i pe), (2, fz_i t), (3, fz_i hr), (4, fz_i 2), (5, fz_i su)]) kX11_tries rfl (by decide) rfl (by omega) rfl ?_
                        refine fz_goto (tgt := 79) kX11_tries rfl (by decide) ?_
                        refine fz_sub (fz_pk_sub (ls' := [(6, fz_i (x25 + 1)), (0, fz_r 53), (1, fz_i pe), (2, fz_i t), (3, fz_i hr), (4, fz_i 2), (5, fz_i su)]) [0, 3, 4, 5, 6, 7, 8] rfl) ?_
                        exact ih31 (x25 + 1) H26 hI27 hf28 (by omega) (by omega)
                      · refine fz_aload_n kX11_tries rfl rfl ?_
                        refine fz_iload_n kX11_tries rfl rfl ?_
                        refine fz_iload kX11_tries rfl rfl ?_
                        refine fz_iload kX11_tries rfl rfl ?_
                        refine fz_callV (d' := 4) (M' := mX11_isArrested) (As := [fz_i pe, fz_i (h 56 (x25.toNat)), fz_i z77]) (st := []) kX11_tries rfl rfl vX11_isArrested rfl rfl rfl rfl (Nat.le_of_ble_eq_true rfl) (Nat.le_of_ble_eq_true rfl) (by decide) (sX11_isArrested H26 hI27 pe (h 56 (x25.toNat)) z77 (by omega)) (fun H80 r81 q82 o83 => ?_)
                        obtain ⟨hI84, hf85, y86, rfl, p87⟩ := q82
                        clear o83
                        have hf88 := fz_fr_tr hf28 hf85 (show fz_su [(74, 99999), (75, 99999)] [(53, 54), (53, 55), (74, 99999), (75, 99999), (89, 99999), (90, 99999)] = true from rfl)
                        refine fz_if_eq (tgt := 177) kX11_tries rfl (by decide) (fun c89 => ?_) (fun c89 => ?_)
                        · refine fz_aload_n kX11_tries rfl rfl ?_
                          refine fz_getR (t := 90) kX11_tries rfl rfl ?_
                          refine fz_iload kX11_tries rfl rfl ?_
                          refine fz_iload kX11_tries rfl rfl ?_
                          refine fz_iast (n := 4) kX11_tries rfl rfl (by omega) (by omega) ?_
                          refine fz_nmu (S := [(53, 54), (53, 55), (74, 99999), (75, 99999), (89, 99999), (90, 99999)]) (h0 := h) (fz_Iv_up hI84 (by decide) (show 0 ≤ (h 56 (x25.toNat)) by omega) (show (h 56 (x25.toNat)) ≤ 7 by omega)) (fz_fr_up hf88 rfl) (fun H90 hI91 hf92 e93 => ?_)
                          clear e93
                          refine fz_aload_n kX11_tries rfl rfl ?_
                          refine fz_iload_n kX11_tries rfl rfl ?_
                          refine fz_iload kX11_tries rfl rfl ?_
                          refine fz_iload kX11_tries rfl rfl ?_
                          refine fz_iload kX11_tries rfl rfl ?_
                          refine fz_iconst ⟨by decide, by decide⟩ kX11_tries rfl ?_
                          refine fz_iaddN kX11_tries rfl ⟨by decide, by decide⟩ ?_
                          refine fz_eqi (y := 3) rfl ?_
                          refine fz_iload kX11_tries rfl rfl ?_
                          refine fz_aload_n kX11_tries rfl rfl ?_
                          refine fz_iload_n kX11_tries rfl rfl ?_
                          refine fz_iload kX11_tries rfl rfl ?_
                          refine fz_iload kX11_tries rfl rfl ?_
                          refine fz_callV (d' := 4) (M' := mX11_receivedIn) (As := [fz_i pe, fz_i (h 56 (x25.toNat)), fz_i z77]) (st := [fz_i su, fz_i 3, fz_i z77, fz_i (h 56 (x25.toNat)), fz_i pe, fz_r 53]) kX11_tries rfl rfl vX11_receivedIn rfl rfl rfl rfl (Nat.le_of_ble_eq_true rfl) (Nat.le_of_ble_eq_true rfl) (by decide) (sX11_receivedIn H90 hI91 pe (h 56 (x25.toNat)) z77 (by omega)) (fun H94 r95 q96 o97 => ?_)
                          obtain ⟨hI98, hf99, y101, rfl, f100⟩ := q96
                          clear o97
                          have hf102 := fz_fr_tr hf92 hf99 (show fz_su [(74, 99999), (75, 99999)] [(53, 54), (53, 55), (74, 99999), (75, 99999), (89, 99999), (90, 99999)] = true from rfl)
                          refine fz_iadd kX11_tries rfl ?_
                          refine fz_nmw (fun z103 e104 => ?_)
                          refine fz_callV (d' := 5) (M' := mX11_tries) (As := [fz_i pe, fz_i (h 56 (x25.toNat)), fz_i z77, fz_i 3, fz_i z103]) (st := []) kX11_tries rfl rfl vX11_tries rfl rfl rfl rfl (Nat.le_of_ble_eq_true rfl) (Nat.le_of_ble_eq_true rfl) (by decide) (sX11_tries_3 H94 hI98 pe (h 56 (x25.toNat)) z77 z103 (by omega)) (fun H105 r106 q107 o108 => ?_)
                          obtain ⟨hI109, hf110, rfl⟩ := q107
                          clear o108
                          have hf111 := fz_fr_tr hf102 hf110 (show fz_su [(53, 54), (53, 55), (74, 99999), (75, 99999), (89, 99999), (90, 99999)] [(53, 54), (53, 55), (74, 99999), (75, 99999), (89, 99999), (90, 99999)] = true from rfl)
                          refine fz_iincN (ls' := [(6, fz_i (x25 + 1)), (8, fz_i z77), (7, fz_i (h 56 (x25.toNat))), (0, fz_r 53), (1, fz_i pe), (2, fz_i t), (3, fz_i hr), (4, fz_i 2), (5, fz_i su)]) kX11_tries rfl (by decide) rfl (by omega) rfl ?_
                          refine fz_goto (tgt := 79) kX11_tries rfl (by decide) ?_
                          refine fz_sub (fz_pk_sub (ls' := [(6, fz_i (x25 + 1)), (0, fz_r 53), (1, fz_i pe), (2, fz_i t), (3, fz_i hr), (4, fz_i 2), (5, fz_i su)]) [0, 3, 4, 5, 6, 7, 8] rfl) ?_
                          exact ih31 (x25 + 1) H105 hI109 hf111 (by omega) (by omega)
                        · refine fz_goto (tgt := 211) kX11_tries rfl (by decide) ?_
                          refine fz_iincN (ls' := [(6, fz_i (x25 + 1)), (8, fz_i z77), (7, fz_i (h 56 (x25.toNat))), (0, fz_r 53), (1, fz_i pe), (2, fz_i t), (3, fz_i hr), (4, fz_i 2), (5, fz_i su)]) kX11_tries rfl (by decide) rfl (by omega) rfl ?_
                          refine fz_goto (tgt := 79) kX11_tries rfl (by decide) ?_
                          refine fz_sub (fz_pk_sub (ls' := [(6, fz_i (x25 + 1)), (0, fz_r 53), (1, fz_i pe), (2, fz_i t), (3, fz_i hr), (4, fz_i 2), (5, fz_i su)]) [0, 3, 4, 5, 6, 7, 8] rfl) ?_
                          exact ih31 (x25 + 1) H80 hI84 hf88 (by omega) (by omega)
                  · refine fz_aload_n kX11_tries rfl rfl ?_
                    refine fz_getR (t := 56) kX11_tries rfl rfl ?_
                    refine fz_iload kX11_tries rfl rfl ?_
                    refine fz_ialdV (n := 12) (v := h 56 (x25.toNat)) kX11_tries rfl rfl (by omega) (by omega) (hf28 56 _ rfl) ?_
                    have b112 : 0 ≤ h 56 (x25.toNat) ∧ h 56 (x25.toNat) ≤ 7 := hI.1 56 _
                    refine fz_iload_n kX11_tries rfl rfl ?_
                    refine fz_icmp_eq (tgt := 113) kX11_tries rfl (by decide) (fun c113 => ?_) (fun c113 => ?_)
                    · refine fz_aload_n kX11_tries rfl rfl ?_
                      refine fz_getR (t := 55) kX11_tries rfl rfl ?_
                      refine fz_iload kX11_tries rfl rfl ?_
                      refine fz_ialdV (n := 12) (v := h 55 (x25.toNat)) kX11_tries rfl rfl (by omega) (by omega) (hf28 55 _ rfl) ?_
                      refine fz_iload_n kX11_tries rfl rfl ?_
                      refine fz_icmp_ne (tgt := 134) kX11_tries rfl (by decide) (fun c114 => ?_) (fun c114 => ?_)
                      · refine fz_aload_n kX11_tries rfl rfl ?_
                        refine fz_getR (t := 55) kX11_tries rfl rfl ?_
                        refine fz_iload kX11_tries rfl rfl ?_
                        refine fz_ialdV (n := 12) (v := h 55 (x25.toNat)) kX11_tries rfl rfl (by omega) (by omega) (hf28 55 _ rfl) ?_
                        refine fz_istore (ls' := [(7, fz_i (h 55 (x25.toNat))), (6, fz_i x25), (0, fz_r 53), (1, fz_i pe), (2, fz_i t), (3, fz_i hr), (4, fz_i 2), (5, fz_i su)]) kX11_tries rfl (by decide) rfl ?_
                        refine fz_iload_n kX11_tries rfl rfl ?_
                        refine fz_aload_n kX11_tries rfl rfl ?_
                        refine fz_getR (t := 57) kX11_tries rfl rfl ?_
                        refine fz_iload kX11_tries rfl rfl ?_
                        refine fz_ialdV (n := 12) (v := h 57 (x25.toNat)) kX11_tries rfl rfl (by omega) (by omega) (hf28 57 _ rfl) ?_
                        have b115 : 0 ≤ h 57 (x25.toNat) ∧ h 57 (x25.toNat) ≤ 24 := hI.1 57 _
                        refine fz_iadd kX11_tries rfl ?_
                        refine fz_nmw (fun z116 e117 => ?_)
                        refine fz_istore (ls' := [(8, fz_i z116), (7, fz_i (h 55 (x25.toNat))), (6, fz_i x25), (0, fz_r 53), (1, fz_i pe), (2, fz_i t), (3, fz_i hr), (4, fz_i 2), (5, fz_i su)]) kX11_tries rfl (by decide) rfl ?_
                        refine fz_iload kX11_tries rfl rfl ?_
                        refine fz_sipush ⟨by decide, by decide⟩ kX11_tries rfl ?_
                        refine fz_icmp_gt (tgt := 211) kX11_tries rfl (by decide) (fun c118 => ?_) (fun c118 => ?_)
                        · refine fz_iincN (ls' := [(6, fz_i (x25 + 1)), (8, fz_i z116), (7, fz_i (h 55 (x25.toNat))), (0, fz_r 53), (1, fz_i pe), (2, fz_i t), (3, fz_i hr), (4, fz_i 2), (5, fz_i su)]) kX11_tries rfl (by decide) rfl (by omega) rfl ?_
                          refine fz_goto (tgt := 79) kX11_tries rfl (by decide) ?_
                          refine fz_sub (fz_pk_sub (ls' := [(6, fz_i (x25 + 1)), (0, fz_r 53), (1, fz_i pe), (2, fz_i t), (3, fz_i hr), (4, fz_i 2), (5, fz_i su)]) [0, 3, 4, 5, 6, 7, 8] rfl) ?_
                          exact ih31 (x25 + 1) H26 hI27 hf28 (by omega) (by omega)
                        · refine fz_aload_n kX11_tries rfl rfl ?_
                          refine fz_iload_n kX11_tries rfl rfl ?_
                          refine fz_iload kX11_tries rfl rfl ?_
                          refine fz_iload kX11_tries rfl rfl ?_
                          refine fz_callV (d' := 4) (M' := mX11_isArrested) (As := [fz_i pe, fz_i (h 55 (x25.toNat)), fz_i z116]) (st := []) kX11_tries rfl rfl vX11_isArrested rfl rfl rfl rfl (Nat.le_of_ble_eq_true rfl) (Nat.le_of_ble_eq_true rfl) (by decide) (sX11_isArrested H26 hI27 pe (h 55 (x25.toNat)) z116 (by omega)) (fun H119 r120 q121 o122 => ?_)
                          obtain ⟨hI123, hf124, y125, rfl, p126⟩ := q121
                          clear o122
                          have hf127 := fz_fr_tr hf28 hf124 (show fz_su [(74, 99999), (75, 99999)] [(53, 54), (53, 55), (74, 99999), (75, 99999), (89, 99999), (90, 99999)] = true from rfl)
                          refine fz_if_eq (tgt := 177) kX11_tries rfl (by decide) (fun c128 => ?_) (fun c128 => ?_)
                          · refine fz_aload_n kX11_tries rfl rfl ?_
                            refine fz_getR (t := 90) kX11_tries rfl rfl ?_
                            refine fz_iload kX11_tries rfl rfl ?_
                            refine fz_iload kX11_tries rfl rfl ?_
                            refine fz_iast (n := 4) kX11_tries rfl rfl (by omega) (by omega) ?_
                            refine fz_nmu (S := [(53, 54), (53, 55), (74, 99999), (75, 99999), (89, 99999), (90, 99999)]) (h0 := h) (fz_Iv_up hI123 (by decide) (show 0 ≤ (h 55 (x25.toNat)) by omega) (show (h 55 (x25.toNat)) ≤ 7 by omega)) (fz_fr_up hf127 rfl) (fun H129 hI130 hf131 e132 => ?_)
                            clear e132
                            refine fz_aload_n kX11_tries rfl rfl ?_
                            refine fz_iload_n kX11_tries rfl rfl ?_
                            refine fz_iload kX11_tries rfl rfl ?_
                            refine fz_iload kX11_tries rfl rfl ?_
                            refine fz_iload kX11_tries rfl rfl ?_
                            refine fz_iconst ⟨by decide, by decide⟩ kX11_tries rfl ?_
                            refine fz_iaddN kX11_tries rfl ⟨by decide, by decide⟩ ?_
                            refine fz_eqi (y := 3) rfl ?_
                            refine fz_iload kX11_tries rfl rfl ?_
                            refine fz_aload_n kX11_tries rfl rfl ?_
                            refine fz_iload_n kX11_tries rfl rfl ?_
                            refine fz_iload kX11_tries rfl rfl ?_
                            refine fz_iload kX11_tries rfl rfl ?_
                            refine fz_callV (d' := 4) (M' := mX11_receivedIn) (As := [fz_i pe, fz_i (h 55 (x25.toNat)), fz_i z116]) (st := [fz_i su, fz_i 3, fz_i z116, fz_i (h 55 (x25.toNat)), fz_i pe, fz_r 53]) kX11_tries rfl rfl vX11_receivedIn rfl rfl rfl rfl (Nat.le_of_ble_eq_true rfl) (Nat.le_of_ble_eq_true rfl) (by decide) (sX11_receivedIn H129 hI130 pe (h 55 (x25.toNat)) z116 (by omega)) (fun H133 r134 q135 o136 => ?_)
                            obtain ⟨hI137, hf138, y140, rfl, f139⟩ := q135
                            clear o136
                            have hf141 := fz_fr_tr hf131 hf138 (show fz_su [(74, 99999), (75, 99999)] [(53, 54), (53, 55), (74, 99999), (75, 99999), (89, 99999), (90, 99999)] = true from rfl)
                            refine fz_iadd kX11_tries rfl ?_
                            refine fz_nmw (fun z142 e143 => ?_)
                            refine fz_callV (d' := 5) (M' := mX11_tries) (As := [fz_i pe, fz_i (h 55 (x25.toNat)), fz_i z116, fz_i 3, fz_i z142]) (st := []) kX11_tries rfl rfl vX11_tries rfl rfl rfl rfl (Nat.le_of_ble_eq_true rfl) (Nat.le_of_ble_eq_true rfl) (by decide) (sX11_tries_3 H133 hI137 pe (h 55 (x25.toNat)) z116 z142 (by omega)) (fun H144 r145 q146 o147 => ?_)
                            obtain ⟨hI148, hf149, rfl⟩ := q146
                            clear o147
                            have hf150 := fz_fr_tr hf141 hf149 (show fz_su [(53, 54), (53, 55), (74, 99999), (75, 99999), (89, 99999), (90, 99999)] [(53, 54), (53, 55), (74, 99999), (75, 99999), (89, 99999), (90, 99999)] = true from rfl)
                            refine fz_iincN (ls' := [(6, fz_i (x25 + 1)), (8, fz_i z116), (7, fz_i (h 55 (x25.toNat))), (0, fz_r 53), (1, fz_i pe), (2, fz_i t), (3, fz_i hr), (4, fz_i 2), (5, fz_i su)]) kX11_tries rfl (by decide) rfl (by omega) rfl ?_
                            refine fz_goto (tgt := 79) kX11_tries rfl (by decide) ?_
                            refine fz_sub (fz_pk_sub (ls' := [(6, fz_i (x25 + 1)), (0, fz_r 53), (1, fz_i pe), (2, fz_i t), (3, fz_i hr), (4, fz_i 2), (5, fz_i su)]) [0, 3, 4, 5, 6, 7, 8] rfl) ?_
                            exact ih31 (x25 + 1) H144 hI148 hf150 (by omega) (by omega)
                          · refine fz_goto (tgt := 211) kX11_tries rfl (by decide) ?_
                            refine fz_iincN (ls' := [(6, fz_i (x25 + 1)), (8, fz_i z116), (7, fz_i (h 55 (x25.toNat))), (0, fz_r 53), (1, fz_i pe), (2, fz_i t), (3, fz_i hr), (4, fz_i 2), (5, fz_i su)]) kX11_tries rfl (by decide) rfl (by omega) rfl ?_
                            refine fz_goto (tgt := 79) kX11_tries rfl (by decide) ?_
                            refine fz_sub (fz_pk_sub (ls' := [(6, fz_i (x25 + 1)), (0, fz_r 53), (1, fz_i pe), (2, fz_i t), (3, fz_i hr), (4, fz_i 2), (5, fz_i su)]) [0, 3, 4, 5, 6, 7, 8] rfl) ?_
                            exact ih31 (x25 + 1) H119 hI123 hf127 (by omega) (by omega)
                      · refine fz_aload_n kX11_tries rfl rfl ?_
                        refine fz_getR (t := 56) kX11_tries rfl rfl ?_
                        refine fz_iload kX11_tries rfl rfl ?_
                        refine fz_ialdV (n := 12) (v := h 56 (x25.toNat)) kX11_tries rfl rfl (by omega) (by omega) (hf28 56 _ rfl) ?_
                        refine fz_goto (tgt := 141) kX11_tries rfl (by decide) ?_
                        refine fz_istore (ls' := [(7, fz_i (h 56 (x25.toNat))), (6, fz_i x25), (0, fz_r 53), (1, fz_i pe), (2, fz_i t), (3, fz_i hr), (4, fz_i 2), (5, fz_i su)]) kX11_tries rfl (by decide) rfl ?_
                        refine fz_iload_n kX11_tries rfl rfl ?_
                        refine fz_aload_n kX11_tries rfl rfl ?_
                        refine fz_getR (t := 57) kX11_tries rfl rfl ?_
                        refine fz_iload kX11_tries rfl rfl ?_
                        refine fz_ialdV (n := 12) (v := h 57 (x25.toNat)) kX11_tries rfl rfl (by omega) (by omega) (hf28 57 _ rfl) ?_
                        have b151 : 0 ≤ h 57 (x25.toNat) ∧ h 57 (x25.toNat) ≤ 24 := hI.1 57 _
                        refine fz_iadd kX11_tries rfl ?_
                        refine fz_nmw (fun z152 e153 => ?_)
                        refine fz_istore (ls' := [(8, fz_i z152), (7, fz_i (h 56 (x25.toNat))), (6, fz_i x25), (0, fz_r 53), (1, fz_i pe), (2, fz_i t), (3, fz_i hr), (4, fz_i 2), (5, fz_i su)]) kX11_tries rfl (by decide) rfl ?_
                        refine fz_iload kX11_tries rfl rfl ?_
                        refine fz_sipush ⟨by decide, by decide⟩ kX11_tries rfl ?_
                        refine fz_icmp_gt (tgt := 211) kX11_tries rfl (by decide) (fun c154 => ?_) (fun c154 => ?_)
                        · refine fz_iincN (ls' := [(6, fz_i (x25 + 1)), (8, fz_i z152), (7, fz_i (h 56 (x25.toNat))), (0, fz_r 53), (1, fz_i pe), (2, fz_i t), (3, fz_i hr), (4, fz_i 2), (5, fz_i su)]) kX11_tries rfl (by decide) rfl (by omega) rfl ?_
                          refine fz_goto (tgt := 79) kX11_tries rfl (by decide) ?_
                          refine fz_sub (fz_pk_sub (ls' := [(6, fz_i (x25 + 1)), (0, fz_r 53), (1, fz_i pe), (2, fz_i t), (3, fz_i hr), (4, fz_i 2), (5, fz_i su)]) [0, 3, 4, 5, 6, 7, 8] rfl) ?_
                          exact ih31 (x25 + 1) H26 hI27 hf28 (by omega) (by omega)
                        · refine fz_aload_n kX11_tries rfl rfl ?_
                          refine fz_iload_n kX11_tries rfl rfl ?_
                          refine fz_iload kX11_tries rfl rfl ?_
                          refine fz_iload kX11_tries rfl rfl ?_
                          refine fz_callV (d' := 4) (M' := mX11_isArrested) (As := [fz_i pe, fz_i (h 56 (x25.toNat)), fz_i z152]) (st := []) kX11_tries rfl rfl vX11_isArrested rfl rfl rfl rfl (Nat.le_of_ble_eq_true rfl) (Nat.le_of_ble_eq_true rfl) (by decide) (sX11_isArrested H26 hI27 pe (h 56 (x25.toNat)) z152 (by omega)) (fun H155 r156 q157 o158 => ?_)
                          obtain ⟨hI159, hf160, y161, rfl, p162⟩ := q157
                          clear o158
                          have hf163 := fz_fr_tr hf28 hf160 (show fz_su [(74, 99999), (75, 99999)] [(53, 54), (53, 55), (74, 99999), (75, 99999), (89, 99999), (90, 99999)] = true from rfl)
                          refine fz_if_eq (tgt := 177) kX11_tries rfl (by decide) (fun c164 => ?_) (fun c164 => ?_)
                          · refine fz_aload_n kX11_tries rfl rfl ?_
                            refine fz_getR (t := 90) kX11_tries rfl rfl ?_
                            refine fz_iload kX11_tries rfl rfl ?_
                            refine fz_iload kX11_tries rfl rfl ?_
                            refine fz_iast (n := 4) kX11_tries rfl rfl (by omega) (by omega) ?_
                            refine fz_nmu (S := [(53, 54), (53, 55), (74, 99999), (75, 99999), (89, 99999), (90, 99999)]) (h0 := h) (fz_Iv_up hI159 (by decide) (show 0 ≤ (h 56 (x25.toNat)) by omega) (show (h 56 (x25.toNat)) ≤ 7 by omega)) (fz_fr_up hf163 rfl) (fun H165 hI166 hf167 e168 => ?_)
                            clear e168
                            refine fz_aload_n kX11_tries rfl rfl ?_
                            refine fz_iload_n kX11_tries rfl rfl ?_
                            refine fz_iload kX11_tries rfl rfl ?_
                            refine fz_iload kX11_tries rfl rfl ?_
                            refine fz_iload kX11_tries rfl rfl ?_
                            refine fz_iconst ⟨by decide, by decide⟩ kX11_tries rfl ?_
                            refine fz_iaddN kX11_tries rfl ⟨by decide, by decide⟩ ?_
                            refine fz_eqi (y := 3) rfl ?_
                            refine fz_iload kX11_tries rfl rfl ?_
                            refine fz_aload_n kX11_tries rfl rfl ?_
                            refine fz_iload_n kX11_tries rfl rfl ?_
                            refine fz_iload kX11_tries rfl rfl ?_
                            refine fz_iload kX11_tries rfl rfl ?_
                            refine fz_callV (d' := 4) (M' := mX11_receivedIn) (As := [fz_i pe, fz_i (h 56 (x25.toNat)), fz_i z152]) (st := [fz_i su, fz_i 3, fz_i z152, fz_i (h 56 (x25.toNat)), fz_i pe, fz_r 53]) kX11_tries rfl rfl vX11_receivedIn rfl rfl rfl rfl (Nat.le_of_ble_eq_true rfl) (Nat.le_of_ble_eq_true rfl) (by decide) (sX11_receivedIn H165 hI166 pe (h 56 (x25.toNat)) z152 (by omega)) (fun H169 r170 q171 o172 => ?_)
                            obtain ⟨hI173, hf174, y176, rfl, f175⟩ := q171
                            clear o172
                            have hf177 := fz_fr_tr hf167 hf174 (show fz_su [(74, 99999), (75, 99999)] [(53, 54), (53, 55), (74, 99999), (75, 99999), (89, 99999), (90, 99999)] = true from rfl)
                            refine fz_iadd kX11_tries rfl ?_
                            refine fz_nmw (fun z178 e179 => ?_)
                            refine fz_callV (d' := 5) (M' := mX11_tries) (As := [fz_i pe, fz_i (h 56 (x25.toNat)), fz_i z152, fz_i 3, fz_i z178]) (st := []) kX11_tries rfl rfl vX11_tries rfl rfl rfl rfl (Nat.le_of_ble_eq_true rfl) (Nat.le_of_ble_eq_true rfl) (by decide) (sX11_tries_3 H169 hI173 pe (h 56 (x25.toNat)) z152 z178 (by omega)) (fun H180 r181 q182 o183 => ?_)
                            obtain ⟨hI184, hf185, rfl⟩ := q182
                            clear o183
                            have hf186 := fz_fr_tr hf177 hf185 (show fz_su [(53, 54), (53, 55), (74, 99999), (75, 99999), (89, 99999), (90, 99999)] [(53, 54), (53, 55), (74, 99999), (75, 99999), (89, 99999), (90, 99999)] = true from rfl)
                            refine fz_iincN (ls' := [(6, fz_i (x25 + 1)), (8, fz_i z152), (7, fz_i (h 56 (x25.toNat))), (0, fz_r 53), (1, fz_i pe), (2, fz_i t), (3, fz_i hr), (4, fz_i 2), (5, fz_i su)]) kX11_tries rfl (by decide) rfl (by omega) rfl ?_
                            refine fz_goto (tgt := 79) kX11_tries rfl (by decide) ?_
                            refine fz_sub (fz_pk_sub (ls' := [(6, fz_i (x25 + 1)), (0, fz_r 53), (1, fz_i pe), (2, fz_i t), (3, fz_i hr), (4, fz_i 2), (5, fz_i su)]) [0, 3, 4, 5, 6, 7, 8] rfl) ?_
                            exact ih31 (x25 + 1) H180 hI184 hf186 (by omega) (by omega)
                          · refine fz_goto (tgt := 211) kX11_tries rfl (by decide) ?_
                            refine fz_iincN (ls' := [(6, fz_i (x25 + 1)), (8, fz_i z152), (7, fz_i (h 56 (x25.toNat))), (0, fz_r 53), (1, fz_i pe), (2, fz_i t), (3, fz_i hr), (4, fz_i 2), (5, fz_i su)]) kX11_tries rfl (by decide) rfl (by omega) rfl ?_
                            refine fz_goto (tgt := 79) kX11_tries rfl (by decide) ?_
                            refine fz_sub (fz_pk_sub (ls' := [(6, fz_i (x25 + 1)), (0, fz_r 53), (1, fz_i pe), (2, fz_i t), (3, fz_i hr), (4, fz_i 2), (5, fz_i su)]) [0, 3, 4, 5, 6, 7, 8] rfl) ?_
                            exact ih31 (x25 + 1) H155 hI159 hf163 (by omega) (by omega)
                    · refine fz_goto (tgt := 211) kX11_tries rfl (by decide) ?_
                      refine fz_iincN (ls' := [(6, fz_i (x25 + 1)), (0, fz_r 53), (1, fz_i pe), (2, fz_i t), (3, fz_i hr), (4, fz_i 2), (5, fz_i su)]) kX11_tries rfl (by decide) rfl (by omega) rfl ?_
                      refine fz_goto (tgt := 79) kX11_tries rfl (by decide) ?_
                      exact ih31 (x25 + 1) H26 hI27 hf28 (by omega) (by omega)
            exact lp30 _ 0 H15 hI16 hf17 (by omega) (Nat.lt_succ_self _)
          · exfalso; omega
        · refine fz_aload_n kX11_tries rfl rfl ?_
          refine fz_getR (t := 89) kX11_tries rfl rfl ?_
          refine fz_iload kX11_tries rfl rfl ?_
          refine fz_aload_n kX11_tries rfl rfl ?_
          refine fz_getR (t := 90) kX11_tries rfl rfl ?_
          refine fz_iload kX11_tries rfl rfl ?_
          obtain ⟨v187, e188⟩ : ∃ z, H15 90 (x14.toNat) = z := ⟨_, rfl⟩
          refine fz_ialdV (n := 4) (v := v187) kX11_tries rfl rfl (by omega) (by omega) e188 ?_
          have b189 : 0 ≤ v187 ∧ v187 ≤ 7 := by rw [← e188]; exact hI16.1 90 _
          refine fz_iast (n := 4) kX11_tries rfl rfl (by omega) (by omega) ?_
          refine fz_nmu (S := [(53, 54), (53, 55), (74, 99999), (75, 99999), (89, 99999), (90, 99999)]) (h0 := h) (fz_Iv_up hI16 (by decide) (show 0 ≤ v187 by omega) (show v187 ≤ 7 by omega)) (fz_fr_up hf17 rfl) (fun H190 hI191 hf192 e193 => ?_)
          clear e193
          refine fz_iincN (ls' := [(6, fz_i (x14 + 1)), (0, fz_r 53), (1, fz_i pe), (2, fz_i t), (3, fz_i hr), (4, fz_i 2), (5, fz_i su)]) kX11_tries rfl (by decide) rfl (by omega) rfl ?_
          refine fz_goto (tgt := 42) kX11_tries rfl (by decide) ?_
          exact ih20 (x14 + 1) H190 hI191 hf192 (by omega) (by omega)
    exact lp19 _ 0 H8 hI9 hf10 (by omega) (Nat.lt_succ_self _)
  · refine fz_iload kX11_tries rfl rfl ?_
    refine fz_aload_n kX11_tries rfl rfl ?_
    refine fz_getV (v := h 53 54) kX11_tries rfl rfl rfl ?_
    refine fz_icmp_ne (tgt := 69) kX11_tries rfl (by decide) (fun c194 => ?_) (fun c194 => ?_)
    · refine fz_iload kX11_tries rfl rfl ?_
      refine fz_iconst ⟨by decide, by decide⟩ kX11_tries rfl ?_
      refine fz_icmp_ne (tgt := 76) kX11_tries rfl (by decide) (fun c195 => ?_) (fun c195 => ?_)
      · refine fz_iconst ⟨by decide, by decide⟩ kX11_tries rfl ?_
        refine fz_istore (ls' := [(6, fz_i 0), (0, fz_r 53), (1, fz_i pe), (2, fz_i t), (3, fz_i hr), (4, fz_i 2), (5, fz_i su)]) kX11_tries rfl (by decide) rfl ?_
        have lp201 : ∀ (n200 : Nat) (x196 : Int) (H197 : fz_H), fz_Iv H197 → fz_fr [(53, 54), (53, 55), (74, 99999), (75, 99999), (89, 99999), (90, 99999)] h H197 → (0 ≤ x196 ∧ x196 ≤ 2147483647) → ((h 53 2) - x196).toNat < n200 → fz_R 6 mX11_tries 79 [(6, fz_i x196), (0, fz_r 53), (1, fz_i pe), (2, fz_i t), (3, fz_i hr), (4, fz_i 2), (5, fz_i su)] [] H197 (qX11_tries_2 h pe t hr su) := by
          intro n200
          induction n200 with
          | zero => intro x196 H197 hI198 hf199 hv204 hm203; exact absurd hm203 (by omega)
          | succ n200 ih202 =>
            intro x196 H197 hI198 hf199 hv204 hm203
            refine fz_iload kX11_tries rfl rfl ?_
            refine fz_aload_n kX11_tries rfl rfl ?_
            refine fz_getV (v := h 53 2) kX11_tries rfl rfl (hf199 53 2 rfl) ?_
            have b205 : 0 ≤ h 53 2 ∧ h 53 2 ≤ 12 := hI.1 53 _
            refine fz_icmp_ge (tgt := 217) kX11_tries rfl (by decide) (fun c206 => ?_) (fun c206 => ?_)
            · exact fz_vret kX11_tries rfl rfl ⟨hI198, hf199, rfl⟩
            · refine fz_aload_n kX11_tries rfl rfl ?_
              refine fz_getR (t := 55) kX11_tries rfl rfl ?_
              refine fz_iload kX11_tries rfl rfl ?_
              refine fz_ialdV (n := 12) (v := h 55 (x196.toNat)) kX11_tries rfl rfl (by omega) (by omega) (hf199 55 _ rfl) ?_
              have b207 : 0 ≤ h 55 (x196.toNat) ∧ h 55 (x196.toNat) ≤ 7 := hI.1 55 _
              refine fz_iload_n kX11_tries rfl rfl ?_
              refine fz_icmp_eq (tgt := 113) kX11_tries rfl (by decide) (fun c208 => ?_) (fun c208 => ?_)
              · refine fz_aload_n kX11_tries rfl rfl ?_
                refine fz_getR (t := 55) kX11_tries rfl rfl ?_
                refine fz_iload kX11_tries rfl rfl ?_
                refine fz_ialdV (n := 12) (v := h 55 (x196.toNat)) kX11_tries rfl rfl (by omega) (by omega) (hf199 55 _ rfl) ?_
                refine fz_iload_n kX11_tries rfl rfl ?_
                refine fz_icmp_ne (tgt := 134) kX11_tries rfl (by decide) (fun c209 => ?_) (fun c209 => ?_)
                · refine fz_aload_n kX11_tries rfl rfl ?_
                  refine fz_getR (t := 55) kX11_tries rfl rfl ?_
                  refine fz_iload kX11_tries rfl rfl ?_
                  refine fz_ialdV (n := 12) (v := h 55 (x196.toNat)) kX11_tries rfl rfl (by omega) (by omega) (hf199 55 _ rfl) ?_
                  refine fz_istore (ls' := [(7, fz_i (h 55 (x196.toNat))), (6, fz_i x196), (0, fz_r 53), (1, fz_i pe), (2, fz_i t), (3, fz_i hr), (4, fz_i 2), (5, fz_i su)]) kX11_tries rfl (by decide) rfl ?_
                  refine fz_iload_n kX11_tries rfl rfl ?_
                  refine fz_aload_n kX11_tries rfl rfl ?_
                  refine fz_getR (t := 57) kX11_tries rfl rfl ?_
                  refine fz_iload kX11_tries rfl rfl ?_
                  refine fz_ialdV (n := 12) (v := h 57 (x196.toNat)) kX11_tries rfl rfl (by omega) (by omega) (hf199 57 _ rfl) ?_
                  have b210 : 0 ≤ h 57 (x196.toNat) ∧ h 57 (x196.toNat) ≤ 24 := hI.1 57 _
                  refine fz_iadd kX11_tries rfl ?_
                  refine fz_nmw (fun z211 e212 => ?_)
                  refine fz_istore (ls' := [(8, fz_i z211), (7, fz_i (h 55 (x196.toNat))), (6, fz_i x196), (0, fz_r 53), (1, fz_i pe), (2, fz_i t), (3, fz_i hr), (4, fz_i 2), (5, fz_i su)]) kX11_tries rfl (by decide) rfl ?_
                  refine fz_iload kX11_tries rfl rfl ?_
                  refine fz_sipush ⟨by decide, by decide⟩ kX11_tries rfl ?_
                  refine fz_icmp_gt (tgt := 211) kX11_tries rfl (by decide) (fun c213 => ?_) (fun c213 => ?_)
                  · refine fz_iincN (ls' := [(6, fz_i (x196 + 1)), (8, fz_i z211), (7, fz_i (h 55 (x196.toNat))), (0, fz_r 53), (1, fz_i pe), (2, fz_i t), (3, fz_i hr), (4, fz_i 2), (5, fz_i su)]) kX11_tries rfl (by decide) rfl (by omega) rfl ?_
                    refine fz_goto (tgt := 79) kX11_tries rfl (by decide) ?_
                    refine fz_sub (fz_pk_sub (ls' := [(6, fz_i (x196 + 1)), (0, fz_r 53), (1, fz_i pe), (2, fz_i t), (3, fz_i hr), (4, fz_i 2), (5, fz_i su)]) [0, 3, 4, 5, 6, 7, 8] rfl) ?_
                    exact ih202 (x196 + 1) H197 hI198 hf199 (by omega) (by omega)
                  · refine fz_aload_n kX11_tries rfl rfl ?_
                    refine fz_iload_n kX11_tries rfl rfl ?_
                    refine fz_iload kX11_tries rfl rfl ?_
                    refine fz_iload kX11_tries rfl rfl ?_
                    refine fz_callV (d' := 4) (M' := mX11_isArrested) (As := [fz_i pe, fz_i (h 55 (x196.toNat)), fz_i z211]) (st := []) kX11_tries rfl rfl vX11_isArrested rfl rfl rfl rfl (Nat.le_of_ble_eq_true rfl) (Nat.le_of_ble_eq_true rfl) (by decide) (sX11_isArrested H197 hI198 pe (h 55 (x196.toNat)) z211 (by omega)) (fun H214 r215 q216 o217 => ?_)
                    obtain ⟨hI218, hf219, y220, rfl, p221⟩ := q216
                    clear o217
                    have hf222 := fz_fr_tr hf199 hf219 (show fz_su [(74, 99999), (75, 99999)] [(53, 54), (53, 55), (74, 99999), (75, 99999), (89, 99999), (90, 99999)] = true from rfl)
                    refine fz_if_eq (tgt := 177) kX11_tries rfl (by decide) (fun c223 => ?_) (fun c223 => ?_)
                    · refine fz_aload_n kX11_tries rfl rfl ?_
                      refine fz_getR (t := 90) kX11_tries rfl rfl ?_
                      refine fz_iload kX11_tries rfl rfl ?_
                      refine fz_iload kX11_tries rfl rfl ?_
                      refine fz_iast (n := 4) kX11_tries rfl rfl (by omega) (by omega) ?_
                      refine fz_nmu (S := [(53, 54), (53, 55), (74, 99999), (75, 99999), (89, 99999), (90, 99999)]) (h0 := h) (fz_Iv_up hI218 (by decide) (show 0 ≤ (h 55 (x196.toNat)) by omega) (show (h 55 (x196.toNat)) ≤ 7 by omega)) (fz_fr_up hf222 rfl) (fun H224 hI225 hf226 e227 => ?_)
                      clear e227
                      refine fz_aload_n kX11_tries rfl rfl ?_
                      refine fz_iload_n kX11_tries rfl rfl ?_
                      refine fz_iload kX11_tries rfl rfl ?_
                      refine fz_iload kX11_tries rfl rfl ?_
                      refine fz_iload kX11_tries rfl rfl ?_
                      refine fz_iconst ⟨by decide, by decide⟩ kX11_tries rfl ?_
                      refine fz_iaddN kX11_tries rfl ⟨by decide, by decide⟩ ?_
                      refine fz_eqi (y := 3) rfl ?_
                      refine fz_iload kX11_tries rfl rfl ?_
                      refine fz_aload_n kX11_tries rfl rfl ?_
                      refine fz_iload_n kX11_tries rfl rfl ?_
                      refine fz_iload kX11_tries rfl rfl ?_
                      refine fz_iload kX11_tries rfl rfl ?_
                      refine fz_callV (d' := 4) (M' := mX11_receivedIn) (As := [fz_i pe, fz_i (h 55 (x196.toNat)), fz_i z211]) (st := [fz_i su, fz_i 3, fz_i z211, fz_i (h 55 (x196.toNat)), fz_i pe, fz_r 53]) kX11_tries rfl rfl vX11_receivedIn rfl rfl rfl rfl (Nat.le_of_ble_eq_true rfl) (Nat.le_of_ble_eq_true rfl) (by decide) (sX11_receivedIn H224 hI225 pe (h 55 (x196.toNat)) z211 (by omega)) (fun H228 r229 q230 o231 => ?_)
                      obtain ⟨hI232, hf233, y235, rfl, f234⟩ := q230
                      clear o231
                      have hf236 := fz_fr_tr hf226 hf233 (show fz_su [(74, 99999), (75, 99999)] [(53, 54), (53, 55), (74, 99999), (75, 99999), (89, 99999), (90, 99999)] = true from rfl)
                      refine fz_iadd kX11_tries rfl ?_
                      refine fz_nmw (fun z237 e238 => ?_)
                      refine fz_callV (d' := 5) (M' := mX11_tries) (As := [fz_i pe, fz_i (h 55 (x196.toNat)), fz_i z211, fz_i 3, fz_i z237]) (st := []) kX11_tries rfl rfl vX11_tries rfl rfl rfl rfl (Nat.le_of_ble_eq_true rfl) (Nat.le_of_ble_eq_true rfl) (by decide) (sX11_tries_3 H228 hI232 pe (h 55 (x196.toNat)) z211 z237 (by omega)) (fun H239 r240 q241 o242 => ?_)
                      obtain ⟨hI243, hf244, rfl⟩ := q241
                      clear o242
                      have hf245 := fz_fr_tr hf236 hf244 (show fz_su [(53, 54), (53, 55), (74, 99999), (75, 99999), (89, 99999), (90, 99999)] [(53, 54), (53, 55), (74, 99999), (75, 99999), (89, 99999), (90, 99999)] = true from rfl)
                      refine fz_iincN (ls' := [(6, fz_i (x196 + 1)), (8, fz_i z211), (7, fz_i (h 55 (x196.toNat))), (0, fz_r 53), (1, fz_i pe), (2, fz_i t), (3, fz_i hr), (4, fz_i 2), (5, fz_i su)]) kX11_tries rfl (by decide) rfl (by omega) rfl ?_
                      refine fz_goto (tgt := 79) kX11_tries rfl (by decide) ?_
                      refine fz_sub (fz_pk_sub (ls' := [(6, fz_i (x196 + 1)), (0, fz_r 53), (1, fz_i pe), (2, fz_i t), (3, fz_i hr), (4, fz_i 2), (5, fz_i su)]) [0, 3, 4, 5, 6, 7, 8] rfl) ?_
                      exact ih202 (x196 + 1) H239 hI243 hf245 (by omega) (by omega)
                    · refine fz_goto (tgt := 211) kX11_tries rfl (by decide) ?_
                      refine fz_iincN (ls' := [(6, fz_i (x196 + 1)), (8, fz_i z211), (7, fz_i (h 55 (x196.toNat))), (0, fz_r 53), (1, fz_i pe), (2, fz_i t), (3, fz_i hr), (4, fz_i 2), (5, fz_i su)]) kX11_tries rfl (by decide) rfl (by omega) rfl ?_
                      refine fz_goto (tgt := 79) kX11_tries rfl (by decide) ?_
                      refine fz_sub (fz_pk_sub (ls' := [(6, fz_i (x196 + 1)), (0, fz_r 53), (1, fz_i pe), (2, fz_i t), (3, fz_i hr), (4, fz_i 2), (5, fz_i su)]) [0, 3, 4, 5, 6, 7, 8] rfl) ?_
                      exact ih202 (x196 + 1) H214 hI218 hf222 (by omega) (by omega)
                · refine fz_aload_n kX11_tries rfl rfl ?_
                  refine fz_getR (t := 56) kX11_tries rfl rfl ?_
                  refine fz_iload kX11_tries rfl rfl ?_
                  refine fz_ialdV (n := 12) (v := h 56 (x196.toNat)) kX11_tries rfl rfl (by omega) (by omega) (hf199 56 _ rfl) ?_
                  have b246 : 0 ≤ h 56 (x196.toNat) ∧ h 56 (x196.toNat) ≤ 7 := hI.1 56 _
                  refine fz_goto (tgt := 141) kX11_tries rfl (by decide) ?_
                  refine fz_istore (ls' := [(7, fz_i (h 56 (x196.toNat))), (6, fz_i x196), (0, fz_r 53), (1, fz_i pe), (2, fz_i t), (3, fz_i hr), (4, fz_i 2), (5, fz_i su)]) kX11_tries rfl (by decide) rfl ?_
                  refine fz_iload_n kX11_tries rfl rfl ?_
                  refine fz_aload_n kX11_tries rfl rfl ?_
                  refine fz_getR (t := 57) kX11_tries rfl rfl ?_
                  refine fz_iload kX11_tries rfl rfl ?_
                  refine fz_ialdV (n := 12) (v := h 57 (x196.toNat)) kX11_tries rfl rfl (by omega) (by omega) (hf199 57 _ rfl) ?_
                  have b247 : 0 ≤ h 57 (x196.toNat) ∧ h 57 (x196.toNat) ≤ 24 := hI.1 57 _
                  refine fz_iadd kX11_tries rfl ?_
                  refine fz_nmw (fun z248 e249 => ?_)
                  refine fz_istore (ls' := [(8, fz_i z248), (7, fz_i (h 56 (x196.toNat))), (6, fz_i x196), (0, fz_r 53), (1, fz_i pe), (2, fz_i t), (3, fz_i hr), (4, fz_i 2), (5, fz_i su)]) kX11_tries rfl (by decide) rfl ?_
                  refine fz_iload kX11_tries rfl rfl ?_
                  refine fz_sipush ⟨by decide, by decide⟩ kX11_tries rfl ?_
                  refine fz_icmp_gt (tgt := 211) kX11_tries rfl (by decide) (fun c250 => ?_) (fun c250 => ?_)
                  · refine fz_iincN (ls' := [(6, fz_i (x196 + 1)), (8, fz_i z248), (7, fz_i (h 56 (x196.toNat))), (0, fz_r 53), (1, fz_i pe), (2, fz_i t), (3, fz_i hr), (4, fz_i 2), (5, fz_i su)]) kX11_tries rfl (by decide) rfl (by omega) rfl ?_
                    refine fz_goto (tgt := 79) kX11_tries rfl (by decide) ?_
                    refine fz_sub (fz_pk_sub (ls' := [(6, fz_i (x196 + 1)), (0, fz_r 53), (1, fz_i pe), (2, fz_i t), (3, fz_i hr), (4, fz_i 2), (5, fz_i su)]) [0, 3, 4, 5, 6, 7, 8] rfl) ?_
                    exact ih202 (x196 + 1) H197 hI198 hf199 (by omega) (by omega)
                  · refine fz_aload_n kX11_tries rfl rfl ?_
                    refine fz_iload_n kX11_tries rfl rfl ?_
                    refine fz_iload kX11_tries rfl rfl ?_
                    refine fz_iload kX11_tries rfl rfl ?_
                    refine fz_callV (d' := 4) (M' := mX11_isArrested) (As := [fz_i pe, fz_i (h 56 (x196.toNat)), fz_i z248]) (st := []) kX11_tries rfl rfl vX11_isArrested rfl rfl rfl rfl (Nat.le_of_ble_eq_true rfl) (Nat.le_of_ble_eq_true rfl) (by decide) (sX11_isArrested H197 hI198 pe (h 56 (x196.toNat)) z248 (by omega)) (fun H251 r252 q253 o254 => ?_)
                    obtain ⟨hI255, hf256, y257, rfl, p258⟩ := q253
                    clear o254
                    have hf259 := fz_fr_tr hf199 hf256 (show fz_su [(74, 99999), (75, 99999)] [(53, 54), (53, 55), (74, 99999), (75, 99999), (89, 99999), (90, 99999)] = true from rfl)
                    refine fz_if_eq (tgt := 177) kX11_tries rfl (by decide) (fun c260 => ?_) (fun c260 => ?_)
                    · refine fz_aload_n kX11_tries rfl rfl ?_
                      refine fz_getR (t := 90) kX11_tries rfl rfl ?_
                      refine fz_iload kX11_tries rfl rfl ?_
                      refine fz_iload kX11_tries rfl rfl ?_
                      refine fz_iast (n := 4) kX11_tries rfl rfl (by omega) (by omega) ?_
                      refine fz_nmu (S := [(53, 54), (53, 55), (74, 99999), (75, 99999), (89, 99999), (90, 99999)]) (h0 := h) (fz_Iv_up hI255 (by decide) (show 0 ≤ (h 56 (x196.toNat)) by omega) (show (h 56 (x196.toNat)) ≤ 7 by omega)) (fz_fr_up hf259 rfl) (fun H261 hI262 hf263 e264 => ?_)
                      clear e264
                      refine fz_aload_n kX11_tries rfl rfl ?_
                      refine fz_iload_n kX11_tries rfl rfl ?_
                      refine fz_iload kX11_tries rfl rfl ?_
                      refine fz_iload kX11_tries rfl rfl ?_
                      refine fz_iload kX11_tries rfl rfl ?_
                      refine fz_iconst ⟨by decide, by decide⟩ kX11_tries rfl ?_
                      refine fz_iaddN kX11_tries rfl ⟨by decide, by decide⟩ ?_
                      refine fz_eqi (y := 3) rfl ?_
                      refine fz_iload kX11_tries rfl rfl ?_
                      refine fz_aload_n kX11_tries rfl rfl ?_
                      refine fz_iload_n kX11_tries rfl rfl ?_
                      refine fz_iload kX11_tries rfl rfl ?_
                      refine fz_iload kX11_tries rfl rfl ?_
                      refine fz_callV (d' := 4) (M' := mX11_receivedIn) (As := [fz_i pe, fz_i (h 56 (x196.toNat)), fz_i z248]) (st := [fz_i su, fz_i 3, fz_i z248, fz_i (h 56 (x196.toNat)), fz_i pe, fz_r 53]) kX11_tries rfl rfl vX11_receivedIn rfl rfl rfl rfl (Nat.le_of_ble_eq_true rfl) (Nat.le_of_ble_eq_true rfl) (by decide) (sX11_receivedIn H261 hI262 pe (h 56 (x196.toNat)) z248 (by omega)) (fun H265 r266 q267 o268 => ?_)
                      obtain ⟨hI269, hf270, y272, rfl, f271⟩ := q267
                      clear o268
                      have hf273 := fz_fr_tr hf263 hf270 (show fz_su [(74, 99999), (75, 99999)] [(53, 54), (53, 55), (74, 99999), (75, 99999), (89, 99999), (90, 99999)] = true from rfl)
                      refine fz_iadd kX11_tries rfl ?_
                      refine fz_nmw (fun z274 e275 => ?_)
                      refine fz_callV (d' := 5) (M' := mX11_tries) (As := [fz_i pe, fz_i (h 56 (x196.toNat)), fz_i z248, fz_i 3, fz_i z274]) (st := []) kX11_tries rfl rfl vX11_tries rfl rfl rfl rfl (Nat.le_of_ble_eq_true rfl) (Nat.le_of_ble_eq_true rfl) (by decide) (sX11_tries_3 H265 hI269 pe (h 56 (x196.toNat)) z248 z274 (by omega)) (fun H276 r277 q278 o279 => ?_)
                      obtain ⟨hI280, hf281, rfl⟩ := q278
                      clear o279
                      have hf282 := fz_fr_tr hf273 hf281 (show fz_su [(53, 54), (53, 55), (74, 99999), (75, 99999), (89, 99999), (90, 99999)] [(53, 54), (53, 55), (74, 99999), (75, 99999), (89, 99999), (90, 99999)] = true from rfl)
                      refine fz_iincN (ls' := [(6, fz_i (x196 + 1)), (8, fz_i z248), (7, fz_i (h 56 (x196.toNat))), (0, fz_r 53), (1, fz_i pe), (2, fz_i t), (3, fz_i hr), (4, fz_i 2), (5, fz_i su)]) kX11_tries rfl (by decide) rfl (by omega) rfl ?_
                      refine fz_goto (tgt := 79) kX11_tries rfl (by decide) ?_
                      refine fz_sub (fz_pk_sub (ls' := [(6, fz_i (x196 + 1)), (0, fz_r 53), (1, fz_i pe), (2, fz_i t), (3, fz_i hr), (4, fz_i 2), (5, fz_i su)]) [0, 3, 4, 5, 6, 7, 8] rfl) ?_
                      exact ih202 (x196 + 1) H276 hI280 hf282 (by omega) (by omega)
                    · refine fz_goto (tgt := 211) kX11_tries rfl (by decide) ?_
                      refine fz_iincN (ls' := [(6, fz_i (x196 + 1)), (8, fz_i z248), (7, fz_i (h 56 (x196.toNat))), (0, fz_r 53), (1, fz_i pe), (2, fz_i t), (3, fz_i hr), (4, fz_i 2), (5, fz_i su)]) kX11_tries rfl (by decide) rfl (by omega) rfl ?_
                      refine fz_goto (tgt := 79) kX11_tries rfl (by decide) ?_
                      refine fz_sub (fz_pk_sub (ls' := [(6, fz_i (x196 + 1)), (0, fz_r 53), (1, fz_i pe), (2, fz_i t), (3, fz_i hr), (4, fz_i 2), (5, fz_i su)]) [0, 3, 4, 5, 6, 7, 8] rfl) ?_
                      exact ih202 (x196 + 1) H251 hI255 hf259 (by omega) (by omega)
              · refine fz_aload_n kX11_tries rfl rfl ?_
                refine fz_getR (t := 56) kX11_tries rfl rfl ?_
                refine fz_iload kX11_tries rfl rfl ?_
                refine fz_ialdV (n := 12) (v := h 56 (x196.toNat)) kX11_tries rfl rfl (by omega) (by omega) (hf199 56 _ rfl) ?_
                have b283 : 0 ≤ h 56 (x196.toNat) ∧ h 56 (x196.toNat) ≤ 7 := hI.1 56 _
                refine fz_iload_n kX11_tries rfl rfl ?_
                refine fz_icmp_eq (tgt := 113) kX11_tries rfl (by decide) (fun c284 => ?_) (fun c284 => ?_)
                · refine fz_aload_n kX11_tries rfl rfl ?_
                  refine fz_getR (t := 55) kX11_tries rfl rfl ?_
                  refine fz_iload kX11_tries rfl rfl ?_
                  refine fz_ialdV (n := 12) (v := h 55 (x196.toNat)) kX11_tries rfl rfl (by omega) (by omega) (hf199 55 _ rfl) ?_
                  refine fz_iload_n kX11_tries rfl rfl ?_
                  refine fz_icmp_ne (tgt := 134) kX11_tries rfl (by decide) (fun c285 => ?_) (fun c285 => ?_)
                  · refine fz_aload_n kX11_tries rfl rfl ?_
                    refine fz_getR (t := 55) kX11_tries rfl rfl ?_
                    refine fz_iload kX11_tries rfl rfl ?_
                    refine fz_ialdV (n := 12) (v := h 55 (x196.toNat)) kX11_tries rfl rfl (by omega) (by omega) (hf199 55 _ rfl) ?_
                    refine fz_istore (ls' := [(7, fz_i (h 55 (x196.toNat))), (6, fz_i x196), (0, fz_r 53), (1, fz_i pe), (2, fz_i t), (3, fz_i hr), (4, fz_i 2), (5, fz_i su)]) kX11_tries rfl (by decide) rfl ?_
                    refine fz_iload_n kX11_tries rfl rfl ?_
                    refine fz_aload_n kX11_tries rfl rfl ?_
                    refine fz_getR (t := 57) kX11_tries rfl rfl ?_
                    refine fz_iload kX11_tries rfl rfl ?_
                    refine fz_ialdV (n := 12) (v := h 57 (x196.toNat)) kX11_tries rfl rfl (by omega) (by omega) (hf199 57 _ rfl) ?_
                    have b286 : 0 ≤ h 57 (x196.toNat) ∧ h 57 (x196.toNat) ≤ 24 := hI.1 57 _
                    refine fz_iadd kX11_tries rfl ?_
                    refine fz_nmw (fun z287 e288 => ?_)
                    refine fz_istore (ls' := [(8, fz_i z287), (7, fz_i (h 55 (x196.toNat))), (6, fz_i x196), (0, fz_r 53), (1, fz_i pe), (2, fz_i t), (3, fz_i hr), (4, fz_i 2), (5, fz_i su)]) kX11_tries rfl (by decide) rfl ?_
                    refine fz_iload kX11_tries rfl rfl ?_
                    refine fz_sipush ⟨by decide, by decide⟩ kX11_tries rfl ?_
                    refine fz_icmp_gt (tgt := 211) kX11_tries rfl (by decide) (fun c289 => ?_) (fun c289 => ?_)
                    · refine fz_iincN (ls' := [(6, fz_i (x196 + 1)), (8, fz_i z287), (7, fz_i (h 55 (x196.toNat))), (0, fz_r 53), (1, fz_i pe), (2, fz_i t), (3, fz_i hr), (4, fz_i 2), (5, fz_i su)]) kX11_tries rfl (by decide) rfl (by omega) rfl ?_
                      refine fz_goto (tgt := 79) kX11_tries rfl (by decide) ?_
                      refine fz_sub (fz_pk_sub (ls' := [(6, fz_i (x196 + 1)), (0, fz_r 53), (1, fz_i pe), (2, fz_i t), (3, fz_i hr), (4, fz_i 2), (5, fz_i su)]) [0, 3, 4, 5, 6, 7, 8] rfl) ?_
                      exact ih202 (x196 + 1) H197 hI198 hf199 (by omega) (by omega)
                    · refine fz_aload_n kX11_tries rfl rfl ?_
                      refine fz_iload_n kX11_tries rfl rfl ?_
                      refine fz_iload kX11_tries rfl rfl ?_
                      refine fz_iload kX11_tries rfl rfl ?_
                      refine fz_callV (d' := 4) (M' := mX11_isArrested) (As := [fz_i pe, fz_i (h 55 (x196.toNat)), fz_i z287]) (st := []) kX11_tries rfl rfl vX11_isArrested rfl rfl rfl rfl (Nat.le_of_ble_eq_true rfl) (Nat.le_of_ble_eq_true rfl) (by decide) (sX11_isArrested H197 hI198 pe (h 55 (x196.toNat)) z287 (by omega)) (fun H290 r291 q292 o293 => ?_)
                      obtain ⟨hI294, hf295, y296, rfl, p297⟩ := q292
                      clear o293
                      have hf298 := fz_fr_tr hf199 hf295 (show fz_su [(74, 99999), (75, 99999)] [(53, 54), (53, 55), (74, 99999), (75, 99999), (89, 99999), (90, 99999)] = true from rfl)
                      refine fz_if_eq (tgt := 177) kX11_tries rfl (by decide) (fun c299 => ?_) (fun c299 => ?_)
                      · refine fz_aload_n kX11_tries rfl rfl ?_
                        refine fz_getR (t := 90) kX11_tries rfl rfl ?_
                        refine fz_iload kX11_tries rfl rfl ?_
                        refine fz_iload kX11_tries rfl rfl ?_
                        refine fz_iast (n := 4) kX11_tries rfl rfl (by omega) (by omega) ?_
                        refine fz_nmu (S := [(53, 54), (53, 55), (74, 99999), (75, 99999), (89, 99999), (90, 99999)]) (h0 := h) (fz_Iv_up hI294 (by decide) (show 0 ≤ (h 55 (x196.toNat)) by omega) (show (h 55 (x196.toNat)) ≤ 7 by omega)) (fz_fr_up hf298 rfl) (fun H300 hI301 hf302 e303 => ?_)
                        clear e303
                        refine fz_aload_n kX11_tries rfl rfl ?_
                        refine fz_iload_n kX11_tries rfl rfl ?_
                        refine fz_iload kX11_tries rfl rfl ?_
                        refine fz_iload kX11_tries rfl rfl ?_
                        refine fz_iload kX11_tries rfl rfl ?_
                        refine fz_iconst ⟨by decide, by decide⟩ kX11_tries rfl ?_
                        refine fz_iaddN kX11_tries rfl ⟨by decide, by decide⟩ ?_
                        refine fz_eqi (y := 3) rfl ?_
                        refine fz_iload kX11_tries rfl rfl ?_
                        refine fz_aload_n kX11_tries rfl rfl ?_
                        refine fz_iload_n kX11_tries rfl rfl ?_
                        refine fz_iload kX11_tries rfl rfl ?_
                        refine fz_iload kX11_tries rfl rfl ?_
                        refine fz_callV (d' := 4) (M' := mX11_receivedIn) (As := [fz_i pe, fz_i (h 55 (x196.toNat)), fz_i z287]) (st := [fz_i su, fz_i 3, fz_i z287, fz_i (h 55 (x196.toNat)), fz_i pe, fz_r 53]) kX11_tries rfl rfl vX11_receivedIn rfl rfl rfl rfl (Nat.le_of_ble_eq_true rfl) (Nat.le_of_ble_eq_true rfl) (by decide) (sX11_receivedIn H300 hI301 pe (h 55 (x196.toNat)) z287 (by omega)) (fun H304 r305 q306 o307 => ?_)
                        obtain ⟨hI308, hf309, y311, rfl, f310⟩ := q306
                        clear o307
                        have hf312 := fz_fr_tr hf302 hf309 (show fz_su [(74, 99999), (75, 99999)] [(53, 54), (53, 55), (74, 99999), (75, 99999), (89, 99999), (90, 99999)] = true from rfl)
                        refine fz_iadd kX11_tries rfl ?_
                        refine fz_nmw (fun z313 e314 => ?_)
                        refine fz_callV (d' := 5) (M' := mX11_tries) (As := [fz_i pe, fz_i (h 55 (x196.toNat)), fz_i z287, fz_i 3, fz_i z313]) (st := []) kX11_tries rfl rfl vX11_tries rfl rfl rfl rfl (Nat.le_of_ble_eq_true rfl) (Nat.le_of_ble_eq_true rfl) (by decide) (sX11_tries_3 H304 hI308 pe (h 55 (x196.toNat)) z287 z313 (by omega)) (fun H315 r316 q317 o318 => ?_)
                        obtain ⟨hI319, hf320, rfl⟩ := q317
                        clear o318
                        have hf321 := fz_fr_tr hf312 hf320 (show fz_su [(53, 54), (53, 55), (74, 99999), (75, 99999), (89, 99999), (90, 99999)] [(53, 54), (53, 55), (74, 99999), (75, 99999), (89, 99999), (90, 99999)] = true from rfl)
                        refine fz_iincN (ls' := [(6, fz_i (x196 + 1)), (8, fz_i z287), (7, fz_i (h 55 (x196.toNat))), (0, fz_r 53), (1, fz_i pe), (2, fz_i t), (3, fz_i hr), (4, fz_i 2), (5, fz_i su)]) kX11_tries rfl (by decide) rfl (by omega) rfl ?_
                        refine fz_goto (tgt := 79) kX11_tries rfl (by decide) ?_
                        refine fz_sub (fz_pk_sub (ls' := [(6, fz_i (x196 + 1)), (0, fz_r 53), (1, fz_i pe), (2, fz_i t), (3, fz_i hr), (4, fz_i 2), (5, fz_i su)]) [0, 3, 4, 5, 6, 7, 8] rfl) ?_
                        exact ih202 (x196 + 1) H315 hI319 hf321 (by omega) (by omega)
                      · refine fz_goto (tgt := 211) kX11_tries rfl (by decide) ?_
                        refine fz_iincN (ls' := [(6, fz_i (x196 + 1)), (8, fz_i z287), (7, fz_i (h 55 (x196.toNat))), (0, fz_r 53), (1, fz_i pe), (2, fz_i t), (3, fz_i hr), (4, fz_i 2), (5, fz_i su)]) kX11_tries rfl (by decide) rfl (by omega) rfl ?_
                        refine fz_goto (tgt := 79) kX11_tries rfl (by decide) ?_
                        refine fz_sub (fz_pk_sub (ls' := [(6, fz_i (x196 + 1)), (0, fz_r 53), (1, fz_i pe), (2, fz_i t), (3, fz_i hr), (4, fz_i 2), (5, fz_i su)]) [0, 3, 4, 5, 6, 7, 8] rfl) ?_
                        exact ih202 (x196 + 1) H290 hI294 hf298 (by omega) (by omega)
                  · refine fz_aload_n kX11_tries rfl rfl ?_
                    refine fz_getR (t := 56) kX11_tries rfl rfl ?_
                    refine fz_iload kX11_tries rfl rfl ?_
                    refine fz_ialdV (n := 12) (v := h 56 (x196.toNat)) kX11_tries rfl rfl (by omega) (by omega) (hf199 56 _ rfl) ?_
                    refine fz_goto (tgt := 141) kX11_tries rfl (by decide) ?_
                    refine fz_istore (ls' := [(7, fz_i (h 56 (x196.toNat))), (6, fz_i x196), (0, fz_r 53), (1, fz_i pe), (2, fz_i t), (3, fz_i hr), (4, fz_i 2), (5, fz_i su)]) kX11_tries rfl (by decide) rfl ?_
                    refine fz_iload_n kX11_tries rfl rfl ?_
                    refine fz_aload_n kX11_tries rfl rfl ?_
                    refine fz_getR (t := 57) kX11_tries rfl rfl ?_
                    refine fz_iload kX11_tries rfl rfl ?_
                    refine fz_ialdV (n := 12) (v := h 57 (x196.toNat)) kX11_tries rfl rfl (by omega) (by omega) (hf199 57 _ rfl) ?_
                    have b322 : 0 ≤ h 57 (x196.toNat) ∧ h 57 (x196.toNat) ≤ 24 := hI.1 57 _
                    refine fz_iadd kX11_tries rfl ?_
                    refine fz_nmw (fun z323 e324 => ?_)
                    refine fz_istore (ls' := [(8, fz_i z323), (7, fz_i (h 56 (x196.toNat))), (6, fz_i x196), (0, fz_r 53), (1, fz_i pe), (2, fz_i t), (3, fz_i hr), (4, fz_i 2), (5, fz_i su)]) kX11_tries rfl (by decide) rfl ?_
                    refine fz_iload kX11_tries rfl rfl ?_
                    refine fz_sipush ⟨by decide, by decide⟩ kX11_tries rfl ?_
                    refine fz_icmp_gt (tgt := 211) kX11_tries rfl (by decide) (fun c325 => ?_) (fun c325 => ?_)
                    · refine fz_iincN (ls' := [(6, fz_i (x196 + 1)), (8, fz_i z323), (7, fz_i (h 56 (x196.toNat))), (0, fz_r 53), (1, fz_i pe), (2, fz_i t), (3, fz_i hr), (4, fz_i 2), (5, fz_i su)]) kX11_tries rfl (by decide) rfl (by omega) rfl ?_
                      refine fz_goto (tgt := 79) kX11_tries rfl (by decide) ?_
                      refine fz_sub (fz_pk_sub (ls' := [(6, fz_i (x196 + 1)), (0, fz_r 53), (1, fz_i pe), (2, fz_i t), (3, fz_i hr), (4, fz_i 2), (5, fz_i su)]) [0, 3, 4, 5, 6, 7, 8] rfl) ?_
                      exact ih202 (x196 + 1) H197 hI198 hf199 (by omega) (by omega)
                    · refine fz_aload_n kX11_tries rfl rfl ?_
                      refine fz_iload_n kX11_tries rfl rfl ?_
                      refine fz_iload kX11_tries rfl rfl ?_
                      refine fz_iload kX11_tries rfl rfl ?_
                      refine fz_callV (d' := 4) (M' := mX11_isArrested) (As := [fz_i pe, fz_i (h 56 (x196.toNat)), fz_i z323]) (st := []) kX11_tries rfl rfl vX11_isArrested rfl rfl rfl rfl (Nat.le_of_ble_eq_true rfl) (Nat.le_of_ble_eq_true rfl) (by decide) (sX11_isArrested H197 hI198 pe (h 56 (x196.toNat)) z323 (by omega)) (fun H326 r327 q328 o329 => ?_)
                      obtain ⟨hI330, hf331, y332, rfl, p333⟩ := q328
                      clear o329
                      have hf334 := fz_fr_tr hf199 hf331 (show fz_su [(74, 99999), (75, 99999)] [(53, 54), (53, 55), (74, 99999), (75, 99999), (89, 99999), (90, 99999)] = true from rfl)
                      refine fz_if_eq (tgt := 177) kX11_tries rfl (by decide) (fun c335 => ?_) (fun c335 => ?_)
                      · refine fz_aload_n kX11_tries rfl rfl ?_
                        refine fz_getR (t := 90) kX11_tries rfl rfl ?_
                        refine fz_iload kX11_tries rfl rfl ?_
                        refine fz_iload kX11_tries rfl rfl ?_
                        refine fz_iast (n := 4) kX11_tries rfl rfl (by omega) (by omega) ?_
                        refine fz_nmu (S := [(53, 54), (53, 55), (74, 99999), (75, 99999), (89, 99999), (90, 99999)]) (h0 := h) (fz_Iv_up hI330 (by decide) (show 0 ≤ (h 56 (x196.toNat)) by omega) (show (h 56 (x196.toNat)) ≤ 7 by omega)) (fz_fr_up hf334 rfl) (fun H336 hI337 hf338 e339 => ?_)
                        clear e339
                        refine fz_aload_n kX11_tries rfl rfl ?_
                        refine fz_iload_n kX11_tries rfl rfl ?_
                        refine fz_iload kX11_tries rfl rfl ?_
                        refine fz_iload kX11_tries rfl rfl ?_
                        refine fz_iload kX11_tries rfl rfl ?_
                        refine fz_iconst ⟨by decide, by decide⟩ kX11_tries rfl ?_
                        refine fz_iaddN kX11_tries rfl ⟨by decide, by decide⟩ ?_
                        refine fz_eqi (y := 3) rfl ?_
                        refine fz_iload kX11_tries rfl rfl ?_
                        refine fz_aload_n kX11_tries rfl rfl ?_
                        refine fz_iload_n kX11_tries rfl rfl ?_
                        refine fz_iload kX11_tries rfl rfl ?_
                        refine fz_iload kX11_tries rfl rfl ?_
                        refine fz_callV (d' := 4) (M' := mX11_receivedIn) (As := [fz_i pe, fz_i (h 56 (x196.toNat)), fz_i z323]) (st := [fz_i su, fz_i 3, fz_i z323, fz_i (h 56 (x196.toNat)), fz_i pe, fz_r 53]) kX11_tries rfl rfl vX11_receivedIn rfl rfl rfl rfl (Nat.le_of_ble_eq_true rfl) (Nat.le_of_ble_eq_true rfl) (by decide) (sX11_receivedIn H336 hI337 pe (h 56 (x196.toNat)) z323 (by omega)) (fun H340 r341 q342 o343 => ?_)
                        obtain ⟨hI344, hf345, y347, rfl, f346⟩ := q342
                        clear o343
                        have hf348 := fz_fr_tr hf338 hf345 (show fz_su [(74, 99999), (75, 99999)] [(53, 54), (53, 55), (74, 99999), (75, 99999), (89, 99999), (90, 99999)] = true from rfl)
                        refine fz_iadd kX11_tries rfl ?_
                        refine fz_nmw (fun z349 e350 => ?_)
                        refine fz_callV (d' := 5) (M' := mX11_tries) (As := [fz_i pe, fz_i (h 56 (x196.toNat)), fz_i z323, fz_i 3, fz_i z349]) (st := []) kX11_tries rfl rfl vX11_tries rfl rfl rfl rfl (Nat.le_of_ble_eq_true rfl) (Nat.le_of_ble_eq_true rfl) (by decide) (sX11_tries_3 H340 hI344 pe (h 56 (x196.toNat)) z323 z349 (by omega)) (fun H351 r352 q353 o354 => ?_)
                        obtain ⟨hI355, hf356, rfl⟩ := q353
                        clear o354
                        have hf357 := fz_fr_tr hf348 hf356 (show fz_su [(53, 54), (53, 55), (74, 99999), (75, 99999), (89, 99999), (90, 99999)] [(53, 54), (53, 55), (74, 99999), (75, 99999), (89, 99999), (90, 99999)] = true from rfl)
                        refine fz_iincN (ls' := [(6, fz_i (x196 + 1)), (8, fz_i z323), (7, fz_i (h 56 (x196.toNat))), (0, fz_r 53), (1, fz_i pe), (2, fz_i t), (3, fz_i hr), (4, fz_i 2), (5, fz_i su)]) kX11_tries rfl (by decide) rfl (by omega) rfl ?_
                        refine fz_goto (tgt := 79) kX11_tries rfl (by decide) ?_
                        refine fz_sub (fz_pk_sub (ls' := [(6, fz_i (x196 + 1)), (0, fz_r 53), (1, fz_i pe), (2, fz_i t), (3, fz_i hr), (4, fz_i 2), (5, fz_i su)]) [0, 3, 4, 5, 6, 7, 8] rfl) ?_
                        exact ih202 (x196 + 1) H351 hI355 hf357 (by omega) (by omega)
                      · refine fz_goto (tgt := 211) kX11_tries rfl (by decide) ?_
                        refine fz_iincN (ls' := [(6, fz_i (x196 + 1)), (8, fz_i z323), (7, fz_i (h 56 (x196.toNat))), (0, fz_r 53), (1, fz_i pe), (2, fz_i t), (3, fz_i hr), (4, fz_i 2), (5, fz_i su)]) kX11_tries rfl (by decide) rfl (by omega) rfl ?_
                        refine fz_goto (tgt := 79) kX11_tries rfl (by decide) ?_
                        refine fz_sub (fz_pk_sub (ls' := [(6, fz_i (x196 + 1)), (0, fz_r 53), (1, fz_i pe), (2, fz_i t), (3, fz_i hr), (4, fz_i 2), (5, fz_i su)]) [0, 3, 4, 5, 6, 7, 8] rfl) ?_
                        exact ih202 (x196 + 1) H326 hI330 hf334 (by omega) (by omega)
                · refine fz_goto (tgt := 211) kX11_tries rfl (by decide) ?_
                  refine fz_iincN (ls' := [(6, fz_i (x196 + 1)), (0, fz_r 53), (1, fz_i pe), (2, fz_i t), (3, fz_i hr), (4, fz_i 2), (5, fz_i su)]) kX11_tries rfl (by decide) rfl (by omega) rfl ?_
                  refine fz_goto (tgt := 79) kX11_tries rfl (by decide) ?_
                  exact ih202 (x196 + 1) H197 hI198 hf199 (by omega) (by omega)
        exact lp201 _ 0 h hI hf (by omega) (Nat.lt_succ_self _)
      · exfalso; omega
    · refine fz_aload_n kX11_tries rfl rfl ?_
      refine fz_iload kX11_tries rfl rfl ?_
      refine fz_callV (d' := 0) (M' := mX11_isAhead) (As := [fz_i 2]) (st := []) kX11_tries rfl rfl vX11_isAhead rfl rfl rfl rfl (Nat.le_of_ble_eq_true rfl) (Nat.le_of_ble_eq_true rfl) (by decide) (sX11_isAhead h hI 2 (by omega)) (fun H358 r359 q360 o361 => ?_)
      obtain ⟨e362, y363, rfl, p364⟩ := q360
      subst H358
      clear o361
      refine fz_if_eq (tgt := 69) kX11_tries rfl (by decide) (fun c365 => ?_) (fun c365 => ?_)
      · refine fz_iload kX11_tries rfl rfl ?_
        refine fz_iconst ⟨by decide, by decide⟩ kX11_tries rfl ?_
        refine fz_icmp_ne (tgt := 76) kX11_tries rfl (by decide) (fun c366 => ?_) (fun c366 => ?_)
        · refine fz_iconst ⟨by decide, by decide⟩ kX11_tries rfl ?_
          refine fz_istore (ls' := [(6, fz_i 0), (0, fz_r 53), (1, fz_i pe), (2, fz_i t), (3, fz_i hr), (4, fz_i 2), (5, fz_i su)]) kX11_tries rfl (by decide) rfl ?_
          have lp372 : ∀ (n371 : Nat) (x367 : Int) (H368 : fz_H), fz_Iv H368 → fz_fr [(53, 54), (53, 55), (74, 99999), (75, 99999), (89, 99999), (90, 99999)] h H368 → (0 ≤ x367 ∧ x367 ≤ 2147483647) → ((h 53 2) - x367).toNat < n371 → fz_R 6 mX11_tries 79 [(6, fz_i x367), (0, fz_r 53), (1, fz_i pe), (2, fz_i t), (3, fz_i hr), (4, fz_i 2), (5, fz_i su)] [] H368 (qX11_tries_2 h pe t hr su) := by
            intro n371
            induction n371 with
            | zero => intro x367 H368 hI369 hf370 hv375 hm374; exact absurd hm374 (by omega)
            | succ n371 ih373 =>
              intro x367 H368 hI369 hf370 hv375 hm374
              refine fz_iload kX11_tries rfl rfl ?_
              refine fz_aload_n kX11_tries rfl rfl ?_
              refine fz_getV (v := h 53 2) kX11_tries rfl rfl (hf370 53 2 rfl) ?_
              have b376 : 0 ≤ h 53 2 ∧ h 53 2 ≤ 12 := hI.1 53 _
              refine fz_icmp_ge (tgt := 217) kX11_tries rfl (by decide) (fun c377 => ?_) (fun c377 => ?_)
              · exact fz_vret kX11_tries rfl rfl ⟨hI369, hf370, rfl⟩
              · refine fz_aload_n kX11_tries rfl rfl ?_
                refine fz_getR (t := 55) kX11_tries rfl rfl ?_
                refine fz_iload kX11_tries rfl rfl ?_
                refine fz_ialdV (n := 12) (v := h 55 (x367.toNat)) kX11_tries rfl rfl (by omega) (by omega) (hf370 55 _ rfl) ?_
                have b378 : 0 ≤ h 55 (x367.toNat) ∧ h 55 (x367.toNat) ≤ 7 := hI.1 55 _
                refine fz_iload_n kX11_tries rfl rfl ?_
                refine fz_icmp_eq (tgt := 113) kX11_tries rfl (by decide) (fun c379 => ?_) (fun c379 => ?_)
                · refine fz_aload_n kX11_tries rfl rfl ?_
                  refine fz_getR (t := 55) kX11_tries rfl rfl ?_
                  refine fz_iload kX11_tries rfl rfl ?_
                  refine fz_ialdV (n := 12) (v := h 55 (x367.toNat)) kX11_tries rfl rfl (by omega) (by omega) (hf370 55 _ rfl) ?_
                  refine fz_iload_n kX11_tries rfl rfl ?_
                  refine fz_icmp_ne (tgt := 134) kX11_tries rfl (by decide) (fun c380 => ?_) (fun c380 => ?_)
                  · refine fz_aload_n kX11_tries rfl rfl ?_
                    refine fz_getR (t := 55) kX11_tries rfl rfl ?_
                    refine fz_iload kX11_tries rfl rfl ?_
                    refine fz_ialdV (n := 12) (v := h 55 (x367.toNat)) kX11_tries rfl rfl (by omega) (by omega) (hf370 55 _ rfl) ?_
                    refine fz_istore (ls' := [(7, fz_i (h 55 (x367.toNat))), (6, fz_i x367), (0, fz_r 53), (1, fz_i pe), (2, fz_i t), (3, fz_i hr), (4, fz_i 2), (5, fz_i su)]) kX11_tries rfl (by decide) rfl ?_
                    refine fz_iload_n kX11_tries rfl rfl ?_
                    refine fz_aload_n kX11_tries rfl rfl ?_
                    refine fz_getR (t := 57) kX11_tries rfl rfl ?_
                    refine fz_iload kX11_tries rfl rfl ?_
                    refine fz_ialdV (n := 12) (v := h 57 (x367.toNat)) kX11_tries rfl rfl (by omega) (by omega) (hf370 57 _ rfl) ?_
                    have b381 : 0 ≤ h 57 (x367.toNat) ∧ h 57 (x367.toNat) ≤ 24 := hI.1 57 _
                    refine fz_iadd kX11_tries rfl ?_
                    refine fz_nmw (fun z382 e383 => ?_)
                    refine fz_istore (ls' := [(8, fz_i z382), (7, fz_i (h 55 (x367.toNat))), (6, fz_i x367), (0, fz_r 53), (1, fz_i pe), (2, fz_i t), (3, fz_i hr), (4, fz_i 2), (5, fz_i su)]) kX11_tries rfl (by decide) rfl ?_
                    refine fz_iload kX11_tries rfl rfl ?_
                    refine fz_sipush ⟨by decide, by decide⟩ kX11_tries rfl ?_
                    refine fz_icmp_gt (tgt := 211) kX11_tries rfl (by decide) (fun c384 => ?_) (fun c384 => ?_)
                    · refine fz_iincN (ls' := [(6, fz_i (x367 + 1)), (8, fz_i z382), (7, fz_i (h 55 (x367.toNat))), (0, fz_r 53), (1, fz_i pe), (2, fz_i t), (3, fz_i hr), (4, fz_i 2), (5, fz_i su)]) kX11_tries rfl (by decide) rfl (by omega) rfl ?_
                      refine fz_goto (tgt := 79) kX11_tries rfl (by decide) ?_
                      refine fz_sub (fz_pk_sub (ls' := [(6, fz_i (x367 + 1)), (0, fz_r 53), (1, fz_i pe), (2, fz_i t), (3, fz_i hr), (4, fz_i 2), (5, fz_i su)]) [0, 3, 4, 5, 6, 7, 8] rfl) ?_
                      exact ih373 (x367 + 1) H368 hI369 hf370 (by omega) (by omega)
                    · refine fz_aload_n kX11_tries rfl rfl ?_
                      refine fz_iload_n kX11_tries rfl rfl ?_
                      refine fz_iload kX11_tries rfl rfl ?_
                      refine fz_iload kX11_tries rfl rfl ?_
                      refine fz_callV (d' := 4) (M' := mX11_isArrested) (As := [fz_i pe, fz_i (h 55 (x367.toNat)), fz_i z382]) (st := []) kX11_tries rfl rfl vX11_isArrested rfl rfl rfl rfl (Nat.le_of_ble_eq_true rfl) (Nat.le_of_ble_eq_true rfl) (by decide) (sX11_isArrested H368 hI369 pe (h 55 (x367.toNat)) z382 (by omega)) (fun H385 r386 q387 o388 => ?_)
                      obtain ⟨hI389, hf390, y391, rfl, p392⟩ := q387
                      clear o388
                      have hf393 := fz_fr_tr hf370 hf390 (show fz_su [(74, 99999), (75, 99999)] [(53, 54), (53, 55), (74, 99999), (75, 99999), (89, 99999), (90, 99999)] = true from rfl)
                      refine fz_if_eq (tgt := 177) kX11_tries rfl (by decide) (fun c394 => ?_) (fun c394 => ?_)
                      · refine fz_aload_n kX11_tries rfl rfl ?_
                        refine fz_getR (t := 90) kX11_tries rfl rfl ?_
                        refine fz_iload kX11_tries rfl rfl ?_
                        refine fz_iload kX11_tries rfl rfl ?_
                        refine fz_iast (n := 4) kX11_tries rfl rfl (by omega) (by omega) ?_
                        refine fz_nmu (S := [(53, 54), (53, 55), (74, 99999), (75, 99999), (89, 99999), (90, 99999)]) (h0 := h) (fz_Iv_up hI389 (by decide) (show 0 ≤ (h 55 (x367.toNat)) by omega) (show (h 55 (x367.toNat)) ≤ 7 by omega)) (fz_fr_up hf393 rfl) (fun H395 hI396 hf397 e398 => ?_)
                        clear e398
                        refine fz_aload_n kX11_tries rfl rfl ?_
                        refine fz_iload_n kX11_tries rfl rfl ?_
                        refine fz_iload kX11_tries rfl rfl ?_
                        refine fz_iload kX11_tries rfl rfl ?_
                        refine fz_iload kX11_tries rfl rfl ?_
                        refine fz_iconst ⟨by decide, by decide⟩ kX11_tries rfl ?_
                        refine fz_iaddN kX11_tries rfl ⟨by decide, by decide⟩ ?_
                        refine fz_eqi (y := 3) rfl ?_
                        refine fz_iload kX11_tries rfl rfl ?_
                        refine fz_aload_n kX11_tries rfl rfl ?_
                        refine fz_iload_n kX11_tries rfl rfl ?_
                        refine fz_iload kX11_tries rfl rfl ?_
                        refine fz_iload kX11_tries rfl rfl ?_
                        refine fz_callV (d' := 4) (M' := mX11_receivedIn) (As := [fz_i pe, fz_i (h 55 (x367.toNat)), fz_i z382]) (st := [fz_i su, fz_i 3, fz_i z382, fz_i (h 55 (x367.toNat)), fz_i pe, fz_r 53]) kX11_tries rfl rfl vX11_receivedIn rfl rfl rfl rfl (Nat.le_of_ble_eq_true rfl) (Nat.le_of_ble_eq_true rfl) (by decide) (sX11_receivedIn H395 hI396 pe (h 55 (x367.toNat)) z382 (by omega)) (fun H399 r400 q401 o402 => ?_)
                        obtain ⟨hI403, hf404, y406, rfl, f405⟩ := q401
                        clear o402
                        have hf407 := fz_fr_tr hf397 hf404 (show fz_su [(74, 99999), (75, 99999)] [(53, 54), (53, 55), (74, 99999), (75, 99999), (89, 99999), (90, 99999)] = true from rfl)
                        refine fz_iadd kX11_tries rfl ?_
                        refine fz_nmw (fun z408 e409 => ?_)
                        refine fz_callV (d' := 5) (M' := mX11_tries) (As := [fz_i pe, fz_i (h 55 (x367.toNat)), fz_i z382, fz_i 3, fz_i z408]) (st := []) kX11_tries rfl rfl vX11_tries rfl rfl rfl rfl (Nat.le_of_ble_eq_true rfl) (Nat.le_of_ble_eq_true rfl) (by decide) (sX11_tries_3 H399 hI403 pe (h 55 (x367.toNat)) z382 z408 (by omega)) (fun H410 r411 q412 o413 => ?_)
                        obtain ⟨hI414, hf415, rfl⟩ := q412
                        clear o413
                        have hf416 := fz_fr_tr hf407 hf415 (show fz_su [(53, 54), (53, 55), (74, 99999), (75, 99999), (89, 99999), (90, 99999)] [(53, 54), (53, 55), (74, 99999), (75, 99999), (89, 99999), (90, 99999)] = true from rfl)
                        refine fz_iincN (ls' := [(6, fz_i (x367 + 1)), (8, fz_i z382), (7, fz_i (h 55 (x367.toNat))), (0, fz_r 53), (1, fz_i pe), (2, fz_i t), (3, fz_i hr), (4, fz_i 2), (5, fz_i su)]) kX11_tries rfl (by decide) rfl (by omega) rfl ?_
                        refine fz_goto (tgt := 79) kX11_tries rfl (by decide) ?_
                        refine fz_sub (fz_pk_sub (ls' := [(6, fz_i (x367 + 1)), (0, fz_r 53), (1, fz_i pe), (2, fz_i t), (3, fz_i hr), (4, fz_i 2), (5, fz_i su)]) [0, 3, 4, 5, 6, 7, 8] rfl) ?_
                        exact ih373 (x367 + 1) H410 hI414 hf416 (by omega) (by omega)
                      · refine fz_goto (tgt := 211) kX11_tries rfl (by decide) ?_
                        refine fz_iincN (ls' := [(6, fz_i (x367 + 1)), (8, fz_i z382), (7, fz_i (h 55 (x367.toNat))), (0, fz_r 53), (1, fz_i pe), (2, fz_i t), (3, fz_i hr), (4, fz_i 2), (5, fz_i su)]) kX11_tries rfl (by decide) rfl (by omega) rfl ?_
                        refine fz_goto (tgt := 79) kX11_tries rfl (by decide) ?_
                        refine fz_sub (fz_pk_sub (ls' := [(6, fz_i (x367 + 1)), (0, fz_r 53), (1, fz_i pe), (2, fz_i t), (3, fz_i hr), (4, fz_i 2), (5, fz_i su)]) [0, 3, 4, 5, 6, 7, 8] rfl) ?_
                        exact ih373 (x367 + 1) H385 hI389 hf393 (by omega) (by omega)
                  · refine fz_aload_n kX11_tries rfl rfl ?_
                    refine fz_getR (t := 56) kX11_tries rfl rfl ?_
                    refine fz_iload kX11_tries rfl rfl ?_
                    refine fz_ialdV (n := 12) (v := h 56 (x367.toNat)) kX11_tries rfl rfl (by omega) (by omega) (hf370 56 _ rfl) ?_
                    have b417 : 0 ≤ h 56 (x367.toNat) ∧ h 56 (x367.toNat) ≤ 7 := hI.1 56 _
                    refine fz_goto (tgt := 141) kX11_tries rfl (by decide) ?_
                    refine fz_istore (ls' := [(7, fz_i (h 56 (x367.toNat))), (6, fz_i x367), (0, fz_r 53), (1, fz_i pe), (2, fz_i t), (3, fz_i hr), (4, fz_i 2), (5, fz_i su)]) kX11_tries rfl (by decide) rfl ?_
                    refine fz_iload_n kX11_tries rfl rfl ?_
                    refine fz_aload_n kX11_tries rfl rfl ?_
                    refine fz_getR (t := 57) kX11_tries rfl rfl ?_
                    refine fz_iload kX11_tries rfl rfl ?_
                    refine fz_ialdV (n := 12) (v := h 57 (x367.toNat)) kX11_tries rfl rfl (by omega) (by omega) (hf370 57 _ rfl) ?_
                    have b418 : 0 ≤ h 57 (x367.toNat) ∧ h 57 (x367.toNat) ≤ 24 := hI.1 57 _
                    refine fz_iadd kX11_tries rfl ?_
                    refine fz_nmw (fun z419 e420 => ?_)
                    refine fz_istore (ls' := [(8, fz_i z419), (7, fz_i (h 56 (x367.toNat))), (6, fz_i x367), (0, fz_r 53), (1, fz_i pe), (2, fz_i t), (3, fz_i hr), (4, fz_i 2), (5, fz_i su)]) kX11_tries rfl (by decide) rfl ?_
                    refine fz_iload kX11_tries rfl rfl ?_
                    refine fz_sipush ⟨by decide, by decide⟩ kX11_tries rfl ?_
                    refine fz_icmp_gt (tgt := 211) kX11_tries rfl (by decide) (fun c421 => ?_) (fun c421 => ?_)
                    · refine fz_iincN (ls' := [(6, fz_i (x367 + 1)), (8, fz_i z419), (7, fz_i (h 56 (x367.toNat))), (0, fz_r 53), (1, fz_i pe), (2, fz_i t), (3, fz_i hr), (4, fz_i 2), (5, fz_i su)]) kX11_tries rfl (by decide) rfl (by omega) rfl ?_
                      refine fz_goto (tgt := 79) kX11_tries rfl (by decide) ?_
                      refine fz_sub (fz_pk_sub (ls' := [(6, fz_i (x367 + 1)), (0, fz_r 53), (1, fz_i pe), (2, fz_i t), (3, fz_i hr), (4, fz_i 2), (5, fz_i su)]) [0, 3, 4, 5, 6, 7, 8] rfl) ?_
                      exact ih373 (x367 + 1) H368 hI369 hf370 (by omega) (by omega)
                    · refine fz_aload_n kX11_tries rfl rfl ?_
                      refine fz_iload_n kX11_tries rfl rfl ?_
                      refine fz_iload kX11_tries rfl rfl ?_
                      refine fz_iload kX11_tries rfl rfl ?_
                      refine fz_callV (d' := 4) (M' := mX11_isArrested) (As := [fz_i pe, fz_i (h 56 (x367.toNat)), fz_i z419]) (st := []) kX11_tries rfl rfl vX11_isArrested rfl rfl rfl rfl (Nat.le_of_ble_eq_true rfl) (Nat.le_of_ble_eq_true rfl) (by decide) (sX11_isArrested H368 hI369 pe (h 56 (x367.toNat)) z419 (by omega)) (fun H422 r423 q424 o425 => ?_)
                      obtain ⟨hI426, hf427, y428, rfl, p429⟩ := q424
                      clear o425
                      have hf430 := fz_fr_tr hf370 hf427 (show fz_su [(74, 99999), (75, 99999)] [(53, 54), (53, 55), (74, 99999), (75, 99999), (89, 99999), (90, 99999)] = true from rfl)
                      refine fz_if_eq (tgt := 177) kX11_tries rfl (by decide) (fun c431 => ?_) (fun c431 => ?_)
                      · refine fz_aload_n kX11_tries rfl rfl ?_
                        refine fz_getR (t := 90) kX11_tries rfl rfl ?_
                        refine fz_iload kX11_tries rfl rfl ?_
                        refine fz_iload kX11_tries rfl rfl ?_
                        refine fz_iast (n := 4) kX11_tries rfl rfl (by omega) (by omega) ?_
                        refine fz_nmu (S := [(53, 54), (53, 55), (74, 99999), (75, 99999), (89, 99999), (90, 99999)]) (h0 := h) (fz_Iv_up hI426 (by decide) (show 0 ≤ (h 56 (x367.toNat)) by omega) (show (h 56 (x367.toNat)) ≤ 7 by omega)) (fz_fr_up hf430 rfl) (fun H432 hI433 hf434 e435 => ?_)
                        clear e435
                        refine fz_aload_n kX11_tries rfl rfl ?_
                        refine fz_iload_n kX11_tries rfl rfl ?_
                        refine fz_iload kX11_tries rfl rfl ?_
                        refine fz_iload kX11_tries rfl rfl ?_
                        refine fz_iload kX11_tries rfl rfl ?_
                        refine fz_iconst ⟨by decide, by decide⟩ kX11_tries rfl ?_
                        refine fz_iaddN kX11_tries rfl ⟨by decide, by decide⟩ ?_
                        refine fz_eqi (y := 3) rfl ?_
                        refine fz_iload kX11_tries rfl rfl ?_
                        refine fz_aload_n kX11_tries rfl rfl ?_
                        refine fz_iload_n kX11_tries rfl rfl ?_
                        refine fz_iload kX11_tries rfl rfl ?_
                        refine fz_iload kX11_tries rfl rfl ?_
                        refine fz_callV (d' := 4) (M' := mX11_receivedIn) (As := [fz_i pe, fz_i (h 56 (x367.toNat)), fz_i z419]) (st := [fz_i su, fz_i 3, fz_i z419, fz_i (h 56 (x367.toNat)), fz_i pe, fz_r 53]) kX11_tries rfl rfl vX11_receivedIn rfl rfl rfl rfl (Nat.le_of_ble_eq_true rfl) (Nat.le_of_ble_eq_true rfl) (by decide) (sX11_receivedIn H432 hI433 pe (h 56 (x367.toNat)) z419 (by omega)) (fun H436 r437 q438 o439 => ?_)
                        obtain ⟨hI440, hf441, y443, rfl, f442⟩ := q438
                        clear o439
                        have hf444 := fz_fr_tr hf434 hf441 (show fz_su [(74, 99999), (75, 99999)] [(53, 54), (53, 55), (74, 99999), (75, 99999), (89, 99999), (90, 99999)] = true from rfl)
                        refine fz_iadd kX11_tries rfl ?_
                        refine fz_nmw (fun z445 e446 => ?_)
                        refine fz_callV (d' := 5) (M' := mX11_tries) (As := [fz_i pe, fz_i (h 56 (x367.toNat)), fz_i z419, fz_i 3, fz_i z445]) (st := []) kX11_tries rfl rfl vX11_tries rfl rfl rfl rfl (Nat.le_of_ble_eq_true rfl) (Nat.le_of_ble_eq_true rfl) (by decide) (sX11_tries_3 H436 hI440 pe (h 56 (x367.toNat)) z419 z445 (by omega)) (fun H447 r448 q449 o450 => ?_)
                        obtain ⟨hI451, hf452, rfl⟩ := q449
                        clear o450
                        have hf453 := fz_fr_tr hf444 hf452 (show fz_su [(53, 54), (53, 55), (74, 99999), (75, 99999), (89, 99999), (90, 99999)] [(53, 54), (53, 55), (74, 99999), (75, 99999), (89, 99999), (90, 99999)] = true from rfl)
                        refine fz_iincN (ls' := [(6, fz_i (x367 + 1)), (8, fz_i z419), (7, fz_i (h 56 (x367.toNat))), (0, fz_r 53), (1, fz_i pe), (2, fz_i t), (3, fz_i hr), (4, fz_i 2), (5, fz_i su)]) kX11_tries rfl (by decide) rfl (by omega) rfl ?_
                        refine fz_goto (tgt := 79) kX11_tries rfl (by decide) ?_
                        refine fz_sub (fz_pk_sub (ls' := [(6, fz_i (x367 + 1)), (0, fz_r 53), (1, fz_i pe), (2, fz_i t), (3, fz_i hr), (4, fz_i 2), (5, fz_i su)]) [0, 3, 4, 5, 6, 7, 8] rfl) ?_
                        exact ih373 (x367 + 1) H447 hI451 hf453 (by omega) (by omega)
                      · refine fz_goto (tgt := 211) kX11_tries rfl (by decide) ?_
                        refine fz_iincN (ls' := [(6, fz_i (x367 + 1)), (8, fz_i z419), (7, fz_i (h 56 (x367.toNat))), (0, fz_r 53), (1, fz_i pe), (2, fz_i t), (3, fz_i hr), (4, fz_i 2), (5, fz_i su)]) kX11_tries rfl (by decide) rfl (by omega) rfl ?_
                        refine fz_goto (tgt := 79) kX11_tries rfl (by decide) ?_
                        refine fz_sub (fz_pk_sub (ls' := [(6, fz_i (x367 + 1)), (0, fz_r 53), (1, fz_i pe), (2, fz_i t), (3, fz_i hr), (4, fz_i 2), (5, fz_i su)]) [0, 3, 4, 5, 6, 7, 8] rfl) ?_
                        exact ih373 (x367 + 1) H422 hI426 hf430 (by omega) (by omega)
                · refine fz_aload_n kX11_tries rfl rfl ?_
                  refine fz_getR (t := 56) kX11_tries rfl rfl ?_
                  refine fz_iload kX11_tries rfl rfl ?_
                  refine fz_ialdV (n := 12) (v := h 56 (x367.toNat)) kX11_tries rfl rfl (by omega) (by omega) (hf370 56 _ rfl) ?_
                  have b454 : 0 ≤ h 56 (x367.toNat) ∧ h 56 (x367.toNat) ≤ 7 := hI.1 56 _
                  refine fz_iload_n kX11_tries rfl rfl ?_
                  refine fz_icmp_eq (tgt := 113) kX11_tries rfl (by decide) (fun c455 => ?_) (fun c455 => ?_)
                  · refine fz_aload_n kX11_tries rfl rfl ?_
                    refine fz_getR (t := 55) kX11_tries rfl rfl ?_
                    refine fz_iload kX11_tries rfl rfl ?_
                    refine fz_ialdV (n := 12) (v := h 55 (x367.toNat)) kX11_tries rfl rfl (by omega) (by omega) (hf370 55 _ rfl) ?_
                    refine fz_iload_n kX11_tries rfl rfl ?_
                    refine fz_icmp_ne (tgt := 134) kX11_tries rfl (by decide) (fun c456 => ?_) (fun c456 => ?_)
                    · refine fz_aload_n kX11_tries rfl rfl ?_
                      refine fz_getR (t := 55) kX11_tries rfl rfl ?_
                      refine fz_iload kX11_tries rfl rfl ?_
                      refine fz_ialdV (n := 12) (v := h 55 (x367.toNat)) kX11_tries rfl rfl (by omega) (by omega) (hf370 55 _ rfl) ?_
                      refine fz_istore (ls' := [(7, fz_i (h 55 (x367.toNat))), (6, fz_i x367), (0, fz_r 53), (1, fz_i pe), (2, fz_i t), (3, fz_i hr), (4, fz_i 2), (5, fz_i su)]) kX11_tries rfl (by decide) rfl ?_
                      refine fz_iload_n kX11_tries rfl rfl ?_
                      refine fz_aload_n kX11_tries rfl rfl ?_
                      refine fz_getR (t := 57) kX11_tries rfl rfl ?_
                      refine fz_iload kX11_tries rfl rfl ?_
                      refine fz_ialdV (n := 12) (v := h 57 (x367.toNat)) kX11_tries rfl rfl (by omega) (by omega) (hf370 57 _ rfl) ?_
                      have b457 : 0 ≤ h 57 (x367.toNat) ∧ h 57 (x367.toNat) ≤ 24 := hI.1 57 _
                      refine fz_iadd kX11_tries rfl ?_
                      refine fz_nmw (fun z458 e459 => ?_)
                      refine fz_istore (ls' := [(8, fz_i z458), (7, fz_i (h 55 (x367.toNat))), (6, fz_i x367), (0, fz_r 53), (1, fz_i pe), (2, fz_i t), (3, fz_i hr), (4, fz_i 2), (5, fz_i su)]) kX11_tries rfl (by decide) rfl ?_
                      refine fz_iload kX11_tries rfl rfl ?_
                      refine fz_sipush ⟨by decide, by decide⟩ kX11_tries rfl ?_
                      refine fz_icmp_gt (tgt := 211) kX11_tries rfl (by decide) (fun c460 => ?_) (fun c460 => ?_)
                      · refine fz_iincN (ls' := [(6, fz_i (x367 + 1)), (8, fz_i z458), (7, fz_i (h 55 (x367.toNat))), (0, fz_r 53), (1, fz_i pe), (2, fz_i t), (3, fz_i hr), (4, fz_i 2), (5, fz_i su)]) kX11_tries rfl (by decide) rfl (by omega) rfl ?_
                        refine fz_goto (tgt := 79) kX11_tries rfl (by decide) ?_
                        refine fz_sub (fz_pk_sub (ls' := [(6, fz_i (x367 + 1)), (0, fz_r 53), (1, fz_i pe), (2, fz_i t), (3, fz_i hr), (4, fz_i 2), (5, fz_i su)]) [0, 3, 4, 5, 6, 7, 8] rfl) ?_
                        exact ih373 (x367 + 1) H368 hI369 hf370 (by omega) (by omega)
                      · refine fz_aload_n kX11_tries rfl rfl ?_
                        refine fz_iload_n kX11_tries rfl rfl ?_
                        refine fz_iload kX11_tries rfl rfl ?_
                        refine fz_iload kX11_tries rfl rfl ?_
                        refine fz_callV (d' := 4) (M' := mX11_isArrested) (As := [fz_i pe, fz_i (h 55 (x367.toNat)), fz_i z458]) (st := []) kX11_tries rfl rfl vX11_isArrested rfl rfl rfl rfl (Nat.le_of_ble_eq_true rfl) (Nat.le_of_ble_eq_true rfl) (by decide) (sX11_isArrested H368 hI369 pe (h 55 (x367.toNat)) z458 (by omega)) (fun H461 r462 q463 o464 => ?_)
                        obtain ⟨hI465, hf466, y467, rfl, p468⟩ := q463
                        clear o464
                        have hf469 := fz_fr_tr hf370 hf466 (show fz_su [(74, 99999), (75, 99999)] [(53, 54), (53, 55), (74, 99999), (75, 99999), (89, 99999), (90, 99999)] = true from rfl)
                        refine fz_if_eq (tgt := 177) kX11_tries rfl (by decide) (fun c470 => ?_) (fun c470 => ?_)
                        · refine fz_aload_n kX11_tries rfl rfl ?_
                          refine fz_getR (t := 90) kX11_tries rfl rfl ?_
                          refine fz_iload kX11_tries rfl rfl ?_
                          refine fz_iload kX11_tries rfl rfl ?_
                          refine fz_iast (n := 4) kX11_tries rfl rfl (by omega) (by omega) ?_
                          refine fz_nmu (S := [(53, 54), (53, 55), (74, 99999), (75, 99999), (89, 99999), (90, 99999)]) (h0 := h) (fz_Iv_up hI465 (by decide) (show 0 ≤ (h 55 (x367.toNat)) by omega) (show (h 55 (x367.toNat)) ≤ 7 by omega)) (fz_fr_up hf469 rfl) (fun H471 hI472 hf473 e474 => ?_)
                          clear e474
                          refine fz_aload_n kX11_tries rfl rfl ?_
                          refine fz_iload_n kX11_tries rfl rfl ?_
                          refine fz_iload kX11_tries rfl rfl ?_
                          refine fz_iload kX11_tries rfl rfl ?_
                          refine fz_iload kX11_tries rfl rfl ?_
                          refine fz_iconst ⟨by decide, by decide⟩ kX11_tries rfl ?_
                          refine fz_iaddN kX11_tries rfl ⟨by decide, by decide⟩ ?_
                          refine fz_eqi (y := 3) rfl ?_
                          refine fz_iload kX11_tries rfl rfl ?_
                          refine fz_aload_n kX11_tries rfl rfl ?_
                          refine fz_iload_n kX11_tries rfl rfl ?_
                          refine fz_iload kX11_tries rfl rfl ?_
                          refine fz_iload kX11_tries rfl rfl ?_
                          refine fz_callV (d' := 4) (M' := mX11_receivedIn) (As := [fz_i pe, fz_i (h 55 (x367.toNat)), fz_i z458]) (st := [fz_i su, fz_i 3, fz_i z458, fz_i (h 55 (x367.toNat)), fz_i pe, fz_r 53]) kX11_tries rfl rfl vX11_receivedIn rfl rfl rfl rfl (Nat.le_of_ble_eq_true rfl) (Nat.le_of_ble_eq_true rfl) (by decide) (sX11_receivedIn H471 hI472 pe (h 55 (x367.toNat)) z458 (by omega)) (fun H475 r476 q477 o478 => ?_)
                          obtain ⟨hI479, hf480, y482, rfl, f481⟩ := q477
                          clear o478
                          have hf483 := fz_fr_tr hf473 hf480 (show fz_su [(74, 99999), (75, 99999)] [(53, 54), (53, 55), (74, 99999), (75, 99999), (89, 99999), (90, 99999)] = true from rfl)
                          refine fz_iadd kX11_tries rfl ?_
                          refine fz_nmw (fun z484 e485 => ?_)
                          refine fz_callV (d' := 5) (M' := mX11_tries) (As := [fz_i pe, fz_i (h 55 (x367.toNat)), fz_i z458, fz_i 3, fz_i z484]) (st := []) kX11_tries rfl rfl vX11_tries rfl rfl rfl rfl (Nat.le_of_ble_eq_true rfl) (Nat.le_of_ble_eq_true rfl) (by decide) (sX11_tries_3 H475 hI479 pe (h 55 (x367.toNat)) z458 z484 (by omega)) (fun H486 r487 q488 o489 => ?_)
                          obtain ⟨hI490, hf491, rfl⟩ := q488
                          clear o489
                          have hf492 := fz_fr_tr hf483 hf491 (show fz_su [(53, 54), (53, 55), (74, 99999), (75, 99999), (89, 99999), (90, 99999)] [(53, 54), (53, 55), (74, 99999), (75, 99999), (89, 99999), (90, 99999)] = true from rfl)
                          refine fz_iincN (ls' := [(6, fz_i (x367 + 1)), (8, fz_i z458), (7, fz_i (h 55 (x367.toNat))), (0, fz_r 53), (1, fz_i pe), (2, fz_i t), (3, fz_i hr), (4, fz_i 2), (5, fz_i su)]) kX11_tries rfl (by decide) rfl (by omega) rfl ?_
                          refine fz_goto (tgt := 79) kX11_tries rfl (by decide) ?_
                          refine fz_sub (fz_pk_sub (ls' := [(6, fz_i (x367 + 1)), (0, fz_r 53), (1, fz_i pe), (2, fz_i t), (3, fz_i hr), (4, fz_i 2), (5, fz_i su)]) [0, 3, 4, 5, 6, 7, 8] rfl) ?_
                          exact ih373 (x367 + 1) H486 hI490 hf492 (by omega) (by omega)
                        · refine fz_goto (tgt := 211) kX11_tries rfl (by decide) ?_
                          refine fz_iincN (ls' := [(6, fz_i (x367 + 1)), (8, fz_i z458), (7, fz_i (h 55 (x367.toNat))), (0, fz_r 53), (1, fz_i pe), (2, fz_i t), (3, fz_i hr), (4, fz_i 2), (5, fz_i su)]) kX11_tries rfl (by decide) rfl (by omega) rfl ?_
                          refine fz_goto (tgt := 79) kX11_tries rfl (by decide) ?_
                          refine fz_sub (fz_pk_sub (ls' := [(6, fz_i (x367 + 1)), (0, fz_r 53), (1, fz_i pe), (2, fz_i t), (3, fz_i hr), (4, fz_i 2), (5, fz_i su)]) [0, 3, 4, 5, 6, 7, 8] rfl) ?_
                          exact ih373 (x367 + 1) H461 hI465 hf469 (by omega) (by omega)
                    · refine fz_aload_n kX11_tries rfl rfl ?_
                      refine fz_getR (t := 56) kX11_tries rfl rfl ?_
                      refine fz_iload kX11_tries rfl rfl ?_
                      refine fz_ialdV (n := 12) (v := h 56 (x367.toNat)) kX11_tries rfl rfl (by omega) (by omega) (hf370 56 _ rfl) ?_
                      refine fz_goto (tgt := 141) kX11_tries rfl (by decide) ?_
                      refine fz_istore (ls' := [(7, fz_i (h 56 (x367.toNat))), (6, fz_i x367), (0, fz_r 53), (1, fz_i pe), (2, fz_i t), (3, fz_i hr), (4, fz_i 2), (5, fz_i su)]) kX11_tries rfl (by decide) rfl ?_
                      refine fz_iload_n kX11_tries rfl rfl ?_
                      refine fz_aload_n kX11_tries rfl rfl ?_
                      refine fz_getR (t := 57) kX11_tries rfl rfl ?_
                      refine fz_iload kX11_tries rfl rfl ?_
                      refine fz_ialdV (n := 12) (v := h 57 (x367.toNat)) kX11_tries rfl rfl (by omega) (by omega) (hf370 57 _ rfl) ?_
                      have b493 : 0 ≤ h 57 (x367.toNat) ∧ h 57 (x367.toNat) ≤ 24 := hI.1 57 _
                      refine fz_iadd kX11_tries rfl ?_
                      refine fz_nmw (fun z494 e495 => ?_)
                      refine fz_istore (ls' := [(8, fz_i z494), (7, fz_i (h 56 (x367.toNat))), (6, fz_i x367), (0, fz_r 53), (1, fz_i pe), (2, fz_i t), (3, fz_i hr), (4, fz_i 2), (5, fz_i su)]) kX11_tries rfl (by decide) rfl ?_
                      refine fz_iload kX11_tries rfl rfl ?_
                      refine fz_sipush ⟨by decide, by decide⟩ kX11_tries rfl ?_
                      refine fz_icmp_gt (tgt := 211) kX11_tries rfl (by decide) (fun c496 => ?_) (fun c496 => ?_)
                      · refine fz_iincN (ls' := [(6, fz_i (x367 + 1)), (8, fz_i z494), (7, fz_i (h 56 (x367.toNat))), (0, fz_r 53), (1, fz_i pe), (2, fz_i t), (3, fz_i hr), (4, fz_i 2), (5, fz_i su)]) kX11_tries rfl (by decide) rfl (by omega) rfl ?_
                        refine fz_goto (tgt := 79) kX11_tries rfl (by decide) ?_
                        refine fz_sub (fz_pk_sub (ls' := [(6, fz_i (x367 + 1)), (0, fz_r 53), (1, fz_i pe), (2, fz_i t), (3, fz_i hr), (4, fz_i 2), (5, fz_i su)]) [0, 3, 4, 5, 6, 7, 8] rfl) ?_
                        exact ih373 (x367 + 1) H368 hI369 hf370 (by omega) (by omega)
                      · refine fz_aload_n kX11_tries rfl rfl ?_
                        refine fz_iload_n kX11_tries rfl rfl ?_
                        refine fz_iload kX11_tries rfl rfl ?_
                        refine fz_iload kX11_tries rfl rfl ?_
                        refine fz_callV (d' := 4) (M' := mX11_isArrested) (As := [fz_i pe, fz_i (h 56 (x367.toNat)), fz_i z494]) (st := []) kX11_tries rfl rfl vX11_isArrested rfl rfl rfl rfl (Nat.le_of_ble_eq_true rfl) (Nat.le_of_ble_eq_true rfl) (by decide) (sX11_isArrested H368 hI369 pe (h 56 (x367.toNat)) z494 (by omega)) (fun H497 r498 q499 o500 => ?_)
                        obtain ⟨hI501, hf502, y503, rfl, p504⟩ := q499
                        clear o500
                        have hf505 := fz_fr_tr hf370 hf502 (show fz_su [(74, 99999), (75, 99999)] [(53, 54), (53, 55), (74, 99999), (75, 99999), (89, 99999), (90, 99999)] = true from rfl)
                        refine fz_if_eq (tgt := 177) kX11_tries rfl (by decide) (fun c506 => ?_) (fun c506 => ?_)
                        · refine fz_aload_n kX11_tries rfl rfl ?_
                          refine fz_getR (t := 90) kX11_tries rfl rfl ?_
                          refine fz_iload kX11_tries rfl rfl ?_
                          refine fz_iload kX11_tries rfl rfl ?_
                          refine fz_iast (n := 4) kX11_tries rfl rfl (by omega) (by omega) ?_
                          refine fz_nmu (S := [(53, 54), (53, 55), (74, 99999), (75, 99999), (89, 99999), (90, 99999)]) (h0 := h) (fz_Iv_up hI501 (by decide) (show 0 ≤ (h 56 (x367.toNat)) by omega) (show (h 56 (x367.toNat)) ≤ 7 by omega)) (fz_fr_up hf505 rfl) (fun H507 hI508 hf509 e510 => ?_)
                          clear e510
                          refine fz_aload_n kX11_tries rfl rfl ?_
                          refine fz_iload_n kX11_tries rfl rfl ?_
                          refine fz_iload kX11_tries rfl rfl ?_
                          refine fz_iload kX11_tries rfl rfl ?_
                          refine fz_iload kX11_tries rfl rfl ?_
                          refine fz_iconst ⟨by decide, by decide⟩ kX11_tries rfl ?_
                          refine fz_iaddN kX11_tries rfl ⟨by decide, by decide⟩ ?_
                          refine fz_eqi (y := 3) rfl ?_
                          refine fz_iload kX11_tries rfl rfl ?_
                          refine fz_aload_n kX11_tries rfl rfl ?_
                          refine fz_iload_n kX11_tries rfl rfl ?_
                          refine fz_iload kX11_tries rfl rfl ?_
                          refine fz_iload kX11_tries rfl rfl ?_
                          refine fz_callV (d' := 4) (M' := mX11_receivedIn) (As := [fz_i pe, fz_i (h 56 (x367.toNat)), fz_i z494]) (st := [fz_i su, fz_i 3, fz_i z494, fz_i (h 56 (x367.toNat)), fz_i pe, fz_r 53]) kX11_tries rfl rfl vX11_receivedIn rfl rfl rfl rfl (Nat.le_of_ble_eq_true rfl) (Nat.le_of_ble_eq_true rfl) (by decide) (sX11_receivedIn H507 hI508 pe (h 56 (x367.toNat)) z494 (by omega)) (fun H511 r512 q513 o514 => ?_)
                          obtain ⟨hI515, hf516, y518, rfl, f517⟩ := q513
                          clear o514
                          have hf519 := fz_fr_tr hf509 hf516 (show fz_su [(74, 99999), (75, 99999)] [(53, 54), (53, 55), (74, 99999), (75, 99999), (89, 99999), (90, 99999)] = true from rfl)
                          refine fz_iadd kX11_tries rfl ?_
                          refine fz_nmw (fun z520 e521 => ?_)
                          refine fz_callV (d' := 5) (M' := mX11_tries) (As := [fz_i pe, fz_i (h 56 (x367.toNat)), fz_i z494, fz_i 3, fz_i z520]) (st := []) kX11_tries rfl rfl vX11_tries rfl rfl rfl rfl (Nat.le_of_ble_eq_true rfl) (Nat.le_of_ble_eq_true rfl) (by decide) (sX11_tries_3 H511 hI515 pe (h 56 (x367.toNat)) z494 z520 (by omega)) (fun H522 r523 q524 o525 => ?_)
                          obtain ⟨hI526, hf527, rfl⟩ := q524
                          clear o525
                          have hf528 := fz_fr_tr hf519 hf527 (show fz_su [(53, 54), (53, 55), (74, 99999), (75, 99999), (89, 99999), (90, 99999)] [(53, 54), (53, 55), (74, 99999), (75, 99999), (89, 99999), (90, 99999)] = true from rfl)
                          refine fz_iincN (ls' := [(6, fz_i (x367 + 1)), (8, fz_i z494), (7, fz_i (h 56 (x367.toNat))), (0, fz_r 53), (1, fz_i pe), (2, fz_i t), (3, fz_i hr), (4, fz_i 2), (5, fz_i su)]) kX11_tries rfl (by decide) rfl (by omega) rfl ?_
                          refine fz_goto (tgt := 79) kX11_tries rfl (by decide) ?_
                          refine fz_sub (fz_pk_sub (ls' := [(6, fz_i (x367 + 1)), (0, fz_r 53), (1, fz_i pe), (2, fz_i t), (3, fz_i hr), (4, fz_i 2), (5, fz_i su)]) [0, 3, 4, 5, 6, 7, 8] rfl) ?_
                          exact ih373 (x367 + 1) H522 hI526 hf528 (by omega) (by omega)
                        · refine fz_goto (tgt := 211) kX11_tries rfl (by decide) ?_
                          refine fz_iincN (ls' := [(6, fz_i (x367 + 1)), (8, fz_i z494), (7, fz_i (h 56 (x367.toNat))), (0, fz_r 53), (1, fz_i pe), (2, fz_i t), (3, fz_i hr), (4, fz_i 2), (5, fz_i su)]) kX11_tries rfl (by decide) rfl (by omega) rfl ?_
                          refine fz_goto (tgt := 79) kX11_tries rfl (by decide) ?_
                          refine fz_sub (fz_pk_sub (ls' := [(6, fz_i (x367 + 1)), (0, fz_r 53), (1, fz_i pe), (2, fz_i t), (3, fz_i hr), (4, fz_i 2), (5, fz_i su)]) [0, 3, 4, 5, 6, 7, 8] rfl) ?_
                          exact ih373 (x367 + 1) H497 hI501 hf505 (by omega) (by omega)
                  · refine fz_goto (tgt := 211) kX11_tries rfl (by decide) ?_
                    refine fz_iincN (ls' := [(6, fz_i (x367 + 1)), (0, fz_r 53), (1, fz_i pe), (2, fz_i t), (3, fz_i hr), (4, fz_i 2), (5, fz_i su)]) kX11_tries rfl (by decide) rfl (by omega) rfl ?_
                    refine fz_goto (tgt := 79) kX11_tries rfl (by decide) ?_
                    exact ih373 (x367 + 1) H368 hI369 hf370 (by omega) (by omega)
          exact lp372 _ 0 h hI hf (by omega) (Nat.lt_succ_self _)
        · exfalso; omega
      · refine fz_aload_n kX11_tries rfl rfl ?_
        refine fz_iload kX11_tries rfl rfl ?_
        refine fz_putI kX11_tries rfl rfl rfl ?_
        refine fz_nmu (S := [(53, 54), (53, 55), (74, 99999), (75, 99999), (89, 99999), (90, 99999)]) (h0 := h) (fz_Iv_up hI (by decide) (show (-2147483648) ≤ su by omega) (show su ≤ 2147483647 by omega)) (fz_fr_up hf rfl) (fun H529 hI530 hf531 e532 => ?_)
        have k533 : H529 53 54 = su := by rw [e532]; exact fz_up_e
        clear e532
        refine fz_aload_n kX11_tries rfl rfl ?_
        refine fz_iload kX11_tries rfl rfl ?_
        refine fz_putI kX11_tries rfl rfl rfl ?_
        refine fz_nmu (S := [(53, 54), (53, 55), (74, 99999), (75, 99999), (89, 99999), (90, 99999)]) (h0 := h) (fz_Iv_up hI530 (by decide) (show 0 ≤ 2 by omega) (show 2 ≤ 4 by omega)) (fz_fr_up hf531 rfl) (fun H534 hI535 hf536 e537 => ?_)
        have k538 : H534 53 54 = su := by rw [e537]; exact (fz_up_s (by decide)).trans k533
        have k539 : H534 53 55 = 2 := by rw [e537]; exact fz_up_e
        clear e537
        refine fz_iconst ⟨by decide, by decide⟩ kX11_tries rfl ?_
        refine fz_istore (ls' := [(6, fz_i 0), (0, fz_r 53), (1, fz_i pe), (2, fz_i t), (3, fz_i hr), (4, fz_i 2), (5, fz_i su)]) kX11_tries rfl (by decide) rfl ?_
        have lp545 : ∀ (n544 : Nat) (x540 : Int) (H541 : fz_H), fz_Iv H541 → fz_fr [(53, 54), (53, 55), (74, 99999), (75, 99999), (89, 99999), (90, 99999)] h H541 → (0 ≤ x540 ∧ x540 ≤ 2147483647) → (2 - x540).toNat < n544 → fz_R 6 mX11_tries 42 [(6, fz_i x540), (0, fz_r 53), (1, fz_i pe), (2, fz_i t), (3, fz_i hr), (4, fz_i 2), (5, fz_i su)] [] H541 (qX11_tries_2 h pe t hr su) := by
          intro n544
          induction n544 with
          | zero => intro x540 H541 hI542 hf543 hv548 hm547; exact absurd hm547 (by omega)
          | succ n544 ih546 =>
            intro x540 H541 hI542 hf543 hv548 hm547
            refine fz_iload kX11_tries rfl rfl ?_
            refine fz_iload kX11_tries rfl rfl ?_
            refine fz_icmp_ge (tgt := 69) kX11_tries rfl (by decide) (fun c549 => ?_) (fun c549 => ?_)
            · refine fz_iload kX11_tries rfl rfl ?_
              refine fz_iconst ⟨by decide, by decide⟩ kX11_tries rfl ?_
              refine fz_icmp_ne (tgt := 76) kX11_tries rfl (by decide) (fun c550 => ?_) (fun c550 => ?_)
              · refine fz_iconst ⟨by decide, by decide⟩ kX11_tries rfl ?_
                refine fz_istore (ls' := [(6, fz_i 0), (0, fz_r 53), (1, fz_i pe), (2, fz_i t), (3, fz_i hr), (4, fz_i 2), (5, fz_i su)]) kX11_tries rfl (by decide) rfl ?_
                have lp556 : ∀ (n555 : Nat) (x551 : Int) (H552 : fz_H), fz_Iv H552 → fz_fr [(53, 54), (53, 55), (74, 99999), (75, 99999), (89, 99999), (90, 99999)] h H552 → (0 ≤ x551 ∧ x551 ≤ 2147483647) → ((h 53 2) - x551).toNat < n555 → fz_R 6 mX11_tries 79 [(6, fz_i x551), (0, fz_r 53), (1, fz_i pe), (2, fz_i t), (3, fz_i hr), (4, fz_i 2), (5, fz_i su)] [] H552 (qX11_tries_2 h pe t hr su) := by
                  intro n555
                  induction n555 with
                  | zero => intro x551 H552 hI553 hf554 hv559 hm558; exact absurd hm558 (by omega)
                  | succ n555 ih557 =>
                    intro x551 H552 hI553 hf554 hv559 hm558
                    refine fz_iload kX11_tries rfl rfl ?_
                    refine fz_aload_n kX11_tries rfl rfl ?_
                    refine fz_getV (v := h 53 2) kX11_tries rfl rfl (hf554 53 2 rfl) ?_
                    have b560 : 0 ≤ h 53 2 ∧ h 53 2 ≤ 12 := hI.1 53 _
                    refine fz_icmp_ge (tgt := 217) kX11_tries rfl (by decide) (fun c561 => ?_) (fun c561 => ?_)
                    · exact fz_vret kX11_tries rfl rfl ⟨hI553, hf554, rfl⟩
                    · refine fz_aload_n kX11_tries rfl rfl ?_
                      refine fz_getR (t := 55) kX11_tries rfl rfl ?_
                      refine fz_iload kX11_tries rfl rfl ?_
                      refine fz_ialdV (n := 12) (v := h 55 (x551.toNat)) kX11_tries rfl rfl (by omega) (by omega) (hf554 55 _ rfl) ?_
                      have b562 : 0 ≤ h 55 (x551.toNat) ∧ h 55 (x551.toNat) ≤ 7 := hI.1 55 _
                      refine fz_iload_n kX11_tries rfl rfl ?_
                      refine fz_icmp_eq (tgt := 113) kX11_tries rfl (by decide) (fun c563 => ?_) (fun c563 => ?_)
                      · refine fz_aload_n kX11_tries rfl rfl ?_
                        refine fz_getR (t := 55) kX11_tries rfl rfl ?_
                        refine fz_iload kX11_tries rfl rfl ?_
                        refine fz_ialdV (n := 12) (v := h 55 (x551.toNat)) kX11_tries rfl rfl (by omega) (by omega) (hf554 55 _ rfl) ?_
                        refine fz_iload_n kX11_tries rfl rfl ?_
                        refine fz_icmp_ne (tgt := 134) kX11_tries rfl (by decide) (fun c564 => ?_) (fun c564 => ?_)
                        · refine fz_aload_n kX11_tries rfl rfl ?_
                          refine fz_getR (t := 55) kX11_tries rfl rfl ?_
                          refine fz_iload kX11_tries rfl rfl ?_
                          refine fz_ialdV (n := 12) (v := h 55 (x551.toNat)) kX11_tries rfl rfl (by omega) (by omega) (hf554 55 _ rfl) ?_
                          refine fz_istore (ls' := [(7, fz_i (h 55 (x551.toNat))), (6, fz_i x551), (0, fz_r 53), (1, fz_i pe), (2, fz_i t), (3, fz_i hr), (4, fz_i 2), (5, fz_i su)]) kX11_tries rfl (by decide) rfl ?_
                          refine fz_iload_n kX11_tries rfl rfl ?_
                          refine fz_aload_n kX11_tries rfl rfl ?_
                          refine fz_getR (t := 57) kX11_tries rfl rfl ?_
                          refine fz_iload kX11_tries rfl rfl ?_
                          refine fz_ialdV (n := 12) (v := h 57 (x551.toNat)) kX11_tries rfl rfl (by omega) (by omega) (hf554 57 _ rfl) ?_
                          have b565 : 0 ≤ h 57 (x551.toNat) ∧ h 57 (x551.toNat) ≤ 24 := hI.1 57 _
                          refine fz_iadd kX11_tries rfl ?_
                          refine fz_nmw (fun z566 e567 => ?_)
                          refine fz_istore (ls' := [(8, fz_i z566), (7, fz_i (h 55 (x551.toNat))), (6, fz_i x551), (0, fz_r 53), (1, fz_i pe), (2, fz_i t), (3, fz_i hr), (4, fz_i 2), (5, fz_i su)]) kX11_tries rfl (by decide) rfl ?_
                          refine fz_iload kX11_tries rfl rfl ?_
                          refine fz_sipush ⟨by decide, by decide⟩ kX11_tries rfl ?_
                          refine fz_icmp_gt (tgt := 211) kX11_tries rfl (by decide) (fun c568 => ?_) (fun c568 => ?_)
                          · refine fz_iincN (ls' := [(6, fz_i (x551 + 1)), (8, fz_i z566), (7, fz_i (h 55 (x551.toNat))), (0, fz_r 53), (1, fz_i pe), (2, fz_i t), (3, fz_i hr), (4, fz_i 2), (5, fz_i su)]) kX11_tries rfl (by decide) rfl (by omega) rfl ?_
                            refine fz_goto (tgt := 79) kX11_tries rfl (by decide) ?_
                            refine fz_sub (fz_pk_sub (ls' := [(6, fz_i (x551 + 1)), (0, fz_r 53), (1, fz_i pe), (2, fz_i t), (3, fz_i hr), (4, fz_i 2), (5, fz_i su)]) [0, 3, 4, 5, 6, 7, 8] rfl) ?_
                            exact ih557 (x551 + 1) H552 hI553 hf554 (by omega) (by omega)
                          · refine fz_aload_n kX11_tries rfl rfl ?_
                            refine fz_iload_n kX11_tries rfl rfl ?_
                            refine fz_iload kX11_tries rfl rfl ?_
                            refine fz_iload kX11_tries rfl rfl ?_
                            refine fz_callV (d' := 4) (M' := mX11_isArrested) (As := [fz_i pe, fz_i (h 55 (x551.toNat)), fz_i z566]) (st := []) kX11_tries rfl rfl vX11_isArrested rfl rfl rfl rfl (Nat.le_of_ble_eq_true rfl) (Nat.le_of_ble_eq_true rfl) (by decide) (sX11_isArrested H552 hI553 pe (h 55 (x551.toNat)) z566 (by omega)) (fun H569 r570 q571 o572 => ?_)
                            obtain ⟨hI573, hf574, y575, rfl, p576⟩ := q571
                            clear o572
                            have hf577 := fz_fr_tr hf554 hf574 (show fz_su [(74, 99999), (75, 99999)] [(53, 54), (53, 55), (74, 99999), (75, 99999), (89, 99999), (90, 99999)] = true from rfl)
                            refine fz_if_eq (tgt := 177) kX11_tries rfl (by decide) (fun c578 => ?_) (fun c578 => ?_)
                            · refine fz_aload_n kX11_tries rfl rfl ?_
                              refine fz_getR (t := 90) kX11_tries rfl rfl ?_
                              refine fz_iload kX11_tries rfl rfl ?_
                              refine fz_iload kX11_tries rfl rfl ?_
                              refine fz_iast (n := 4) kX11_tries rfl rfl (by omega) (by omega) ?_
                              refine fz_nmu (S := [(53, 54), (53, 55), (74, 99999), (75, 99999), (89, 99999), (90, 99999)]) (h0 := h) (fz_Iv_up hI573 (by decide) (show 0 ≤ (h 55 (x551.toNat)) by omega) (show (h 55 (x551.toNat)) ≤ 7 by omega)) (fz_fr_up hf577 rfl) (fun H579 hI580 hf581 e582 => ?_)
                              clear e582
                              refine fz_aload_n kX11_tries rfl rfl ?_
                              refine fz_iload_n kX11_tries rfl rfl ?_
                              refine fz_iload kX11_tries rfl rfl ?_
                              refine fz_iload kX11_tries rfl rfl ?_
                              refine fz_iload kX11_tries rfl rfl ?_
                              refine fz_iconst ⟨by decide, by decide⟩ kX11_tries rfl ?_
                              refine fz_iaddN kX11_tries rfl ⟨by decide, by decide⟩ ?_
                              refine fz_eqi (y := 3) rfl ?_
                              refine fz_iload kX11_tries rfl rfl ?_
                              refine fz_aload_n kX11_tries rfl rfl ?_
                              refine fz_iload_n kX11_tries rfl rfl ?_
                              refine fz_iload kX11_tries rfl rfl ?_
                              refine fz_iload kX11_tries rfl rfl ?_
                              refine fz_callV (d' := 4) (M' := mX11_receivedIn) (As := [fz_i pe, fz_i (h 55 (x551.toNat)), fz_i z566]) (st := [fz_i su, fz_i 3, fz_i z566, fz_i (h 55 (x551.toNat)), fz_i pe, fz_r 53]) kX11_tries rfl rfl vX11_receivedIn rfl rfl rfl rfl (Nat.le_of_ble_eq_true rfl) (Nat.le_of_ble_eq_true rfl) (by decide) (sX11_receivedIn H579 hI580 pe (h 55 (x551.toNat)) z566 (by omega)) (fun H583 r584 q585 o586 => ?_)
                              obtain ⟨hI587, hf588, y590, rfl, f589⟩ := q585
                              clear o586
                              have hf591 := fz_fr_tr hf581 hf588 (show fz_su [(74, 99999), (75, 99999)] [(53, 54), (53, 55), (74, 99999), (75, 99999), (89, 99999), (90, 99999)] = true from rfl)
                              refine fz_iadd kX11_tries rfl ?_
                              refine fz_nmw (fun z592 e593 => ?_)
                              refine fz_callV (d' := 5) (M' := mX11_tries) (As := [fz_i pe, fz_i (h 55 (x551.toNat)), fz_i z566, fz_i 3, fz_i z592]) (st := []) kX11_tries rfl rfl vX11_tries rfl rfl rfl rfl (Nat.le_of_ble_eq_true rfl) (Nat.le_of_ble_eq_true rfl) (by decide) (sX11_tries_3 H583 hI587 pe (h 55 (x551.toNat)) z566 z592 (by omega)) (fun H594 r595 q596 o597 => ?_)
                              obtain ⟨hI598, hf599, rfl⟩ := q596
                              clear o597
                              have hf600 := fz_fr_tr hf591 hf599 (show fz_su [(53, 54), (53, 55), (74, 99999), (75, 99999), (89, 99999), (90, 99999)] [(53, 54), (53, 55), (74, 99999), (75, 99999), (89, 99999), (90, 99999)] = true from rfl)
                              refine fz_iincN (ls' := [(6, fz_i (x551 + 1)), (8, fz_i z566), (7, fz_i (h 55 (x551.toNat))), (0, fz_r 53), (1, fz_i pe), (2, fz_i t), (3, fz_i hr), (4, fz_i 2), (5, fz_i su)]) kX11_tries rfl (by decide) rfl (by omega) rfl ?_
                              refine fz_goto (tgt := 79) kX11_tries rfl (by decide) ?_
                              refine fz_sub (fz_pk_sub (ls' := [(6, fz_i (x551 + 1)), (0, fz_r 53), (1, fz_i pe), (2, fz_i t), (3, fz_i hr), (4, fz_i 2), (5, fz_i su)]) [0, 3, 4, 5, 6, 7, 8] rfl) ?_
                              exact ih557 (x551 + 1) H594 hI598 hf600 (by omega) (by omega)
                            · refine fz_goto (tgt := 211) kX11_tries rfl (by decide) ?_
                              refine fz_iincN (ls' := [(6, fz_i (x551 + 1)), (8, fz_i z566), (7, fz_i (h 55 (x551.toNat))), (0, fz_r 53), (1, fz_i pe), (2, fz_i t), (3, fz_i hr), (4, fz_i 2), (5, fz_i su)]) kX11_tries rfl (by decide) rfl (by omega) rfl ?_
                              refine fz_goto (tgt := 79) kX11_tries rfl (by decide) ?_
                              refine fz_sub (fz_pk_sub (ls' := [(6, fz_i (x551 + 1)), (0, fz_r 53), (1, fz_i pe), (2, fz_i t), (3, fz_i hr), (4, fz_i 2), (5, fz_i su)]) [0, 3, 4, 5, 6, 7, 8] rfl) ?_
                              exact ih557 (x551 + 1) H569 hI573 hf577 (by omega) (by omega)
                        · refine fz_aload_n kX11_tries rfl rfl ?_
                          refine fz_getR (t := 56) kX11_tries rfl rfl ?_
                          refine fz_iload kX11_tries rfl rfl ?_
                          refine fz_ialdV (n := 12) (v := h 56 (x551.toNat)) kX11_tries rfl rfl (by omega) (by omega) (hf554 56 _ rfl) ?_
                          have b601 : 0 ≤ h 56 (x551.toNat) ∧ h 56 (x551.toNat) ≤ 7 := hI.1 56 _
                          refine fz_goto (tgt := 141) kX11_tries rfl (by decide) ?_
                          refine fz_istore (ls' := [(7, fz_i (h 56 (x551.toNat))), (6, fz_i x551), (0, fz_r 53), (1, fz_i pe), (2, fz_i t), (3, fz_i hr), (4, fz_i 2), (5, fz_i su)]) kX11_tries rfl (by decide) rfl ?_
                          refine fz_iload_n kX11_tries rfl rfl ?_
                          refine fz_aload_n kX11_tries rfl rfl ?_
                          refine fz_getR (t := 57) kX11_tries rfl rfl ?_
                          refine fz_iload kX11_tries rfl rfl ?_
                          refine fz_ialdV (n := 12) (v := h 57 (x551.toNat)) kX11_tries rfl rfl (by omega) (by omega) (hf554 57 _ rfl) ?_
                          have b602 : 0 ≤ h 57 (x551.toNat) ∧ h 57 (x551.toNat) ≤ 24 := hI.1 57 _
                          refine fz_iadd kX11_tries rfl ?_
                          refine fz_nmw (fun z603 e604 => ?_)
                          refine fz_istore (ls' := [(8, fz_i z603), (7, fz_i (h 56 (x551.toNat))), (6, fz_i x551), (0, fz_r 53), (1, fz_i pe), (2, fz_i t), (3, fz_i hr), (4, fz_i 2), (5, fz_i su)]) kX11_tries rfl (by decide) rfl ?_
                          refine fz_iload kX11_tries rfl rfl ?_
                          refine fz_sipush ⟨by decide, by decide⟩ kX11_tries rfl ?_
                          refine fz_icmp_gt (tgt := 211) kX11_tries rfl (by decide) (fun c605 => ?_) (fun c605 => ?_)
                          · refine fz_iincN (ls' := [(6, fz_i (x551 + 1)), (8, fz_i z603), (7, fz_i (h 56 (x551.toNat))), (0, fz_r 53), (1, fz_i pe), (2, fz_i t), (3, fz_i hr), (4, fz_i 2), (5, fz_i su)]) kX11_tries rfl (by decide) rfl (by omega) rfl ?_
                            refine fz_goto (tgt := 79) kX11_tries rfl (by decide) ?_
                            refine fz_sub (fz_pk_sub (ls' := [(6, fz_i (x551 + 1)), (0, fz_r 53), (1, fz_i pe), (2, fz_i t), (3, fz_i hr), (4, fz_i 2), (5, fz_i su)]) [0, 3, 4, 5, 6, 7, 8] rfl) ?_
                            exact ih557 (x551 + 1) H552 hI553 hf554 (by omega) (by omega)
                          · refine fz_aload_n kX11_tries rfl rfl ?_
                            refine fz_iload_n kX11_tries rfl rfl ?_
                            refine fz_iload kX11_tries rfl rfl ?_
                            refine fz_iload kX11_tries rfl rfl ?_
                            refine fz_callV (d' := 4) (M' := mX11_isArrested) (As := [fz_i pe, fz_i (h 56 (x551.toNat)), fz_i z603]) (st := []) kX11_tries rfl rfl vX11_isArrested rfl rfl rfl rfl (Nat.le_of_ble_eq_true rfl) (Nat.le_of_ble_eq_true rfl) (by decide) (sX11_isArrested H552 hI553 pe (h 56 (x551.toNat)) z603 (by omega)) (fun H606 r607 q608 o609 => ?_)
                            obtain ⟨hI610, hf611, y612, rfl, p613⟩ := q608
                            clear o609
                            have hf614 := fz_fr_tr hf554 hf611 (show fz_su [(74, 99999), (75, 99999)] [(53, 54), (53, 55), (74, 99999), (75, 99999), (89, 99999), (90, 99999)] = true from rfl)
                            refine fz_if_eq (tgt := 177) kX11_tries rfl (by decide) (fun c615 => ?_) (fun c615 => ?_)
                            · refine fz_aload_n kX11_tries rfl rfl ?_
                              refine fz_getR (t := 90) kX11_tries rfl rfl ?_
                              refine fz_iload kX11_tries rfl rfl ?_
                              refine fz_iload kX11_tries rfl rfl ?_
                              refine fz_iast (n := 4) kX11_tries rfl rfl (by omega) (by omega) ?_
                              refine fz_nmu (S := [(53, 54), (53, 55), (74, 99999), (75, 99999), (89, 99999), (90, 99999)]) (h0 := h) (fz_Iv_up hI610 (by decide) (show 0 ≤ (h 56 (x551.toNat)) by omega) (show (h 56 (x551.toNat)) ≤ 7 by omega)) (fz_fr_up hf614 rfl) (fun H616 hI617 hf618 e619 => ?_)
                              clear e619
                              refine fz_aload_n kX11_tries rfl rfl ?_
                              refine fz_iload_n kX11_tries rfl rfl ?_
                              refine fz_iload kX11_tries rfl rfl ?_
                              refine fz_iload kX11_tries rfl rfl ?_
                              refine fz_iload kX11_tries rfl rfl ?_
                              refine fz_iconst ⟨by decide, by decide⟩ kX11_tries rfl ?_
                              refine fz_iaddN kX11_tries rfl ⟨by decide, by decide⟩ ?_
                              refine fz_eqi (y := 3) rfl ?_
                              refine fz_iload kX11_tries rfl rfl ?_
                              refine fz_aload_n kX11_tries rfl rfl ?_
                              refine fz_iload_n kX11_tries rfl rfl ?_
                              refine fz_iload kX11_tries rfl rfl ?_
                              refine fz_iload kX11_tries rfl rfl ?_
                              refine fz_callV (d' := 4) (M' := mX11_receivedIn) (As := [fz_i pe, fz_i (h 56 (x551.toNat)), fz_i z603]) (st := [fz_i su, fz_i 3, fz_i z603, fz_i (h 56 (x551.toNat)), fz_i pe, fz_r 53]) kX11_tries rfl rfl vX11_receivedIn rfl rfl rfl rfl (Nat.le_of_ble_eq_true rfl) (Nat.le_of_ble_eq_true rfl) (by decide) (sX11_receivedIn H616 hI617 pe (h 56 (x551.toNat)) z603 (by omega)) (fun H620 r621 q622 o623 => ?_)
                              obtain ⟨hI624, hf625, y627, rfl, f626⟩ := q622
                              clear o623
                              have hf628 := fz_fr_tr hf618 hf625 (show fz_su [(74, 99999), (75, 99999)] [(53, 54), (53, 55), (74, 99999), (75, 99999), (89, 99999), (90, 99999)] = true from rfl)
                              refine fz_iadd kX11_tries rfl ?_
                              refine fz_nmw (fun z629 e630 => ?_)
                              refine fz_callV (d' := 5) (M' := mX11_tries) (As := [fz_i pe, fz_i (h 56 (x551.toNat)), fz_i z603, fz_i 3, fz_i z629]) (st := []) kX11_tries rfl rfl vX11_tries rfl rfl rfl rfl (Nat.le_of_ble_eq_true rfl) (Nat.le_of_ble_eq_true rfl) (by decide) (sX11_tries_3 H620 hI624 pe (h 56 (x551.toNat)) z603 z629 (by omega)) (fun H631 r632 q633 o634 => ?_)
                              obtain ⟨hI635, hf636, rfl⟩ := q633
                              clear o634
                              have hf637 := fz_fr_tr hf628 hf636 (show fz_su [(53, 54), (53, 55), (74, 99999), (75, 99999), (89, 99999), (90, 99999)] [(53, 54), (53, 55), (74, 99999), (75, 99999), (89, 99999), (90, 99999)] = true from rfl)
                              refine fz_iincN (ls' := [(6, fz_i (x551 + 1)), (8, fz_i z603), (7, fz_i (h 56 (x551.toNat))), (0, fz_r 53), (1, fz_i pe), (2, fz_i t), (3, fz_i hr), (4, fz_i 2), (5, fz_i su)]) kX11_tries rfl (by decide) rfl (by omega) rfl ?_
                              refine fz_goto (tgt := 79) kX11_tries rfl (by decide) ?_
                              refine fz_sub (fz_pk_sub (ls' := [(6, fz_i (x551 + 1)), (0, fz_r 53), (1, fz_i pe), (2, fz_i t), (3, fz_i hr), (4, fz_i 2), (5, fz_i su)]) [0, 3, 4, 5, 6, 7, 8] rfl) ?_
                              exact ih557 (x551 + 1) H631 hI635 hf637 (by omega) (by omega)
                            · refine fz_goto (tgt := 211) kX11_tries rfl (by decide) ?_
                              refine fz_iincN (ls' := [(6, fz_i (x551 + 1)), (8, fz_i z603), (7, fz_i (h 56 (x551.toNat))), (0, fz_r 53), (1, fz_i pe), (2, fz_i t), (3, fz_i hr), (4, fz_i 2), (5, fz_i su)]) kX11_tries rfl (by decide) rfl (by omega) rfl ?_
                              refine fz_goto (tgt := 79) kX11_tries rfl (by decide) ?_
                              refine fz_sub (fz_pk_sub (ls' := [(6, fz_i (x551 + 1)), (0, fz_r 53), (1, fz_i pe), (2, fz_i t), (3, fz_i hr), (4, fz_i 2), (5, fz_i su)]) [0, 3, 4, 5, 6, 7, 8] rfl) ?_
                              exact ih557 (x551 + 1) H606 hI610 hf614 (by omega) (by omega)
                      · refine fz_aload_n kX11_tries rfl rfl ?_
                        refine fz_getR (t := 56) kX11_tries rfl rfl ?_
                        refine fz_iload kX11_tries rfl rfl ?_
                        refine fz_ialdV (n := 12) (v := h 56 (x551.toNat)) kX11_tries rfl rfl (by omega) (by omega) (hf554 56 _ rfl) ?_
                        have b638 : 0 ≤ h 56 (x551.toNat) ∧ h 56 (x551.toNat) ≤ 7 := hI.1 56 _
                        refine fz_iload_n kX11_tries rfl rfl ?_
                        refine fz_icmp_eq (tgt := 113) kX11_tries rfl (by decide) (fun c639 => ?_) (fun c639 => ?_)
                        · refine fz_aload_n kX11_tries rfl rfl ?_
                          refine fz_getR (t := 55) kX11_tries rfl rfl ?_
                          refine fz_iload kX11_tries rfl rfl ?_
                          refine fz_ialdV (n := 12) (v := h 55 (x551.toNat)) kX11_tries rfl rfl (by omega) (by omega) (hf554 55 _ rfl) ?_
                          refine fz_iload_n kX11_tries rfl rfl ?_
                          refine fz_icmp_ne (tgt := 134) kX11_tries rfl (by decide) (fun c640 => ?_) (fun c640 => ?_)
                          · refine fz_aload_n kX11_tries rfl rfl ?_
                            refine fz_getR (t := 55) kX11_tries rfl rfl ?_
                            refine fz_iload kX11_tries rfl rfl ?_
                            refine fz_ialdV (n := 12) (v := h 55 (x551.toNat)) kX11_tries rfl rfl (by omega) (by omega) (hf554 55 _ rfl) ?_
                            refine fz_istore (ls' := [(7, fz_i (h 55 (x551.toNat))), (6, fz_i x551), (0, fz_r 53), (1, fz_i pe), (2, fz_i t), (3, fz_i hr), (4, fz_i 2), (5, fz_i su)]) kX11_tries rfl (by decide) rfl ?_
                            refine fz_iload_n kX11_tries rfl rfl ?_
                            refine fz_aload_n kX11_tries rfl rfl ?_
                            refine fz_getR (t := 57) kX11_tries rfl rfl ?_
                            refine fz_iload kX11_tries rfl rfl ?_
                            refine fz_ialdV (n := 12) (v := h 57 (x551.toNat)) kX11_tries rfl rfl (by omega) (by omega) (hf554 57 _ rfl) ?_
                            have b641 : 0 ≤ h 57 (x551.toNat) ∧ h 57 (x551.toNat) ≤ 24 := hI.1 57 _
                            refine fz_iadd kX11_tries rfl ?_
                            refine fz_nmw (fun z642 e643 => ?_)
                            refine fz_istore (ls' := [(8, fz_i z642), (7, fz_i (h 55 (x551.toNat))), (6, fz_i x551), (0, fz_r 53), (1, fz_i pe), (2, fz_i t), (3, fz_i hr), (4, fz_i 2), (5, fz_i su)]) kX11_tries rfl (by decide) rfl ?_
                            refine fz_iload kX11_tries rfl rfl ?_
                            refine fz_sipush ⟨by decide, by decide⟩ kX11_tries rfl ?_
                            refine fz_icmp_gt (tgt := 211) kX11_tries rfl (by decide) (fun c644 => ?_) (fun c644 => ?_)
                            · refine fz_iincN (ls' := [(6, fz_i (x551 + 1)), (8, fz_i z642), (7, fz_i (h 55 (x551.toNat))), (0, fz_r 53), (1, fz_i pe), (2, fz_i t), (3, fz_i hr), (4, fz_i 2), (5, fz_i su)]) kX11_tries rfl (by decide) rfl (by omega) rfl ?_
                              refine fz_goto (tgt := 79) kX11_tries rfl (by decide) ?_
                              refine fz_sub (fz_pk_sub (ls' := [(6, fz_i (x551 + 1)), (0, fz_r 53), (1, fz_i pe), (2, fz_i t), (3, fz_i hr), (4, fz_i 2), (5, fz_i su)]) [0, 3, 4, 5, 6, 7, 8] rfl) ?_
                              exact ih557 (x551 + 1) H552 hI553 hf554 (by omega) (by omega)
                            · refine fz_aload_n kX11_tries rfl rfl ?_
                              refine fz_iload_n kX11_tries rfl rfl ?_
                              refine fz_iload kX11_tries rfl rfl ?_
                              refine fz_iload kX11_tries rfl rfl ?_
                              refine fz_callV (d' := 4) (M' := mX11_isArrested) (As := [fz_i pe, fz_i (h 55 (x551.toNat)), fz_i z642]) (st := []) kX11_tries rfl rfl vX11_isArrested rfl rfl rfl rfl (Nat.le_of_ble_eq_true rfl) (Nat.le_of_ble_eq_true rfl) (by decide) (sX11_isArrested H552 hI553 pe (h 55 (x551.toNat)) z642 (by omega)) (fun H645 r646 q647 o648 => ?_)
                              obtain ⟨hI649, hf650, y651, rfl, p652⟩ := q647
                              clear o648
                              have hf653 := fz_fr_tr hf554 hf650 (show fz_su [(74, 99999), (75, 99999)] [(53, 54), (53, 55), (74, 99999), (75, 99999), (89, 99999), (90, 99999)] = true from rfl)
                              refine fz_if_eq (tgt := 177) kX11_tries rfl (by decide) (fun c654 => ?_) (fun c654 => ?_)
                              · refine fz_aload_n kX11_tries rfl rfl ?_
                                refine fz_getR (t := 90) kX11_tries rfl rfl ?_
                                refine fz_iload kX11_tries rfl rfl ?_
                                refine fz_iload kX11_tries rfl rfl ?_
                                refine fz_iast (n := 4) kX11_tries rfl rfl (by omega) (by omega) ?_
                                refine fz_nmu (S := [(53, 54), (53, 55), (74, 99999), (75, 99999), (89, 99999), (90, 99999)]) (h0 := h) (fz_Iv_up hI649 (by decide) (show 0 ≤ (h 55 (x551.toNat)) by omega) (show (h 55 (x551.toNat)) ≤ 7 by omega)) (fz_fr_up hf653 rfl) (fun H655 hI656 hf657 e658 => ?_)
                                clear e658
                                refine fz_aload_n kX11_tries rfl rfl ?_
                                refine fz_iload_n kX11_tries rfl rfl ?_
                                refine fz_iload kX11_tries rfl rfl ?_
                                refine fz_iload kX11_tries rfl rfl ?_
                                refine fz_iload kX11_tries rfl rfl ?_
                                refine fz_iconst ⟨by decide, by decide⟩ kX11_tries rfl ?_
                                refine fz_iaddN kX11_tries rfl ⟨by decide, by decide⟩ ?_
                                refine fz_eqi (y := 3) rfl ?_
                                refine fz_iload kX11_tries rfl rfl ?_
                                refine fz_aload_n kX11_tries rfl rfl ?_
                                refine fz_iload_n kX11_tries rfl rfl ?_
                                refine fz_iload kX11_tries rfl rfl ?_
                                refine fz_iload kX11_tries rfl rfl ?_
                                refine fz_callV (d' := 4) (M' := mX11_receivedIn) (As := [fz_i pe, fz_i (h 55 (x551.toNat)), fz_i z642]) (st := [fz_i su, fz_i 3, fz_i z642, fz_i (h 55 (x551.toNat)), fz_i pe, fz_r 53]) kX11_tries rfl rfl vX11_receivedIn rfl rfl rfl rfl (Nat.le_of_ble_eq_true rfl) (Nat.le_of_ble_eq_true rfl) (by decide) (sX11_receivedIn H655 hI656 pe (h 55 (x551.toNat)) z642 (by omega)) (fun H659 r660 q661 o662 => ?_)
                                obtain ⟨hI663, hf664, y666, rfl, f665⟩ := q661
                                clear o662
                                have hf667 := fz_fr_tr hf657 hf664 (show fz_su [(74, 99999), (75, 99999)] [(53, 54), (53, 55), (74, 99999), (75, 99999), (89, 99999), (90, 99999)] = true from rfl)
                                refine fz_iadd kX11_tries rfl ?_
                                refine fz_nmw (fun z668 e669 => ?_)
                                refine fz_callV (d' := 5) (M' := mX11_tries) (As := [fz_i pe, fz_i (h 55 (x551.toNat)), fz_i z642, fz_i 3, fz_i z668]) (st := []) kX11_tries rfl rfl vX11_tries rfl rfl rfl rfl (Nat.le_of_ble_eq_true rfl) (Nat.le_of_ble_eq_true rfl) (by decide) (sX11_tries_3 H659 hI663 pe (h 55 (x551.toNat)) z642 z668 (by omega)) (fun H670 r671 q672 o673 => ?_)
                                obtain ⟨hI674, hf675, rfl⟩ := q672
                                clear o673
                                have hf676 := fz_fr_tr hf667 hf675 (show fz_su [(53, 54), (53, 55), (74, 99999), (75, 99999), (89, 99999), (90, 99999)] [(53, 54), (53, 55), (74, 99999), (75, 99999), (89, 99999), (90, 99999)] = true from rfl)
                                refine fz_iincN (ls' := [(6, fz_i (x551 + 1)), (8, fz_i z642), (7, fz_i (h 55 (x551.toNat))), (0, fz_r 53), (1, fz_i pe), (2, fz_i t), (3, fz_i hr), (4, fz_i 2), (5, fz_i su)]) kX11_tries rfl (by decide) rfl (by omega) rfl ?_
                                refine fz_goto (tgt := 79) kX11_tries rfl (by decide) ?_
                                refine fz_sub (fz_pk_sub (ls' := [(6, fz_i (x551 + 1)), (0, fz_r 53), (1, fz_i pe), (2, fz_i t), (3, fz_i hr), (4, fz_i 2), (5, fz_i su)]) [0, 3, 4, 5, 6, 7, 8] rfl) ?_
                                exact ih557 (x551 + 1) H670 hI674 hf676 (by omega) (by omega)
                              · refine fz_goto (tgt := 211) kX11_tries rfl (by decide) ?_
                                refine fz_iincN (ls' := [(6, fz_i (x551 + 1)), (8, fz_i z642), (7, fz_i (h 55 (x551.toNat))), (0, fz_r 53), (1, fz_i pe), (2, fz_i t), (3, fz_i hr), (4, fz_i 2), (5, fz_i su)]) kX11_tries rfl (by decide) rfl (by omega) rfl ?_
                                refine fz_goto (tgt := 79) kX11_tries rfl (by decide) ?_
                                refine fz_sub (fz_pk_sub (ls' := [(6, fz_i (x551 + 1)), (0, fz_r 53), (1, fz_i pe), (2, fz_i t), (3, fz_i hr), (4, fz_i 2), (5, fz_i su)]) [0, 3, 4, 5, 6, 7, 8] rfl) ?_
                                exact ih557 (x551 + 1) H645 hI649 hf653 (by omega) (by omega)
                          · refine fz_aload_n kX11_tries rfl rfl ?_
                            refine fz_getR (t := 56) kX11_tries rfl rfl ?_
                            refine fz_iload kX11_tries rfl rfl ?_
                            refine fz_ialdV (n := 12) (v := h 56 (x551.toNat)) kX11_tries rfl rfl (by omega) (by omega) (hf554 56 _ rfl) ?_
                            refine fz_goto (tgt := 141) kX11_tries rfl (by decide) ?_
                            refine fz_istore (ls' := [(7, fz_i (h 56 (x551.toNat))), (6, fz_i x551), (0, fz_r 53), (1, fz_i pe), (2, fz_i t), (3, fz_i hr), (4, fz_i 2), (5, fz_i su)]) kX11_tries rfl (by decide) rfl ?_
                            refine fz_iload_n kX11_tries rfl rfl ?_
                            refine fz_aload_n kX11_tries rfl rfl ?_
                            refine fz_getR (t := 57) kX11_tries rfl rfl ?_
                            refine fz_iload kX11_tries rfl rfl ?_
                            refine fz_ialdV (n := 12) (v := h 57 (x551.toNat)) kX11_tries rfl rfl (by omega) (by omega) (hf554 57 _ rfl) ?_
                            have b677 : 0 ≤ h 57 (x551.toNat) ∧ h 57 (x551.toNat) ≤ 24 := hI.1 57 _
                            refine fz_iadd kX11_tries rfl ?_
                            refine fz_nmw (fun z678 e679 => ?_)
                            refine fz_istore (ls' := [(8, fz_i z678), (7, fz_i (h 56 (x551.toNat))), (6, fz_i x551), (0, fz_r 53), (1, fz_i pe), (2, fz_i t), (3, fz_i hr), (4, fz_i 2), (5, fz_i su)]) kX11_tries rfl (by decide) rfl ?_
                            refine fz_iload kX11_tries rfl rfl ?_
                            refine fz_sipush ⟨by decide, by decide⟩ kX11_tries rfl ?_
                            refine fz_icmp_gt (tgt := 211) kX11_tries rfl (by decide) (fun c680 => ?_) (fun c680 => ?_)
                            · refine fz_iincN (ls' := [(6, fz_i (x551 + 1)), (8, fz_i z678), (7, fz_i (h 56 (x551.toNat))), (0, fz_r 53), (1, fz_i pe), (2, fz_i t), (3, fz_i hr), (4, fz_i 2), (5, fz_i su)]) kX11_tries rfl (by decide) rfl (by omega) rfl ?_
                              refine fz_goto (tgt := 79) kX11_tries rfl (by decide) ?_
                              refine fz_sub (fz_pk_sub (ls' := [(6, fz_i (x551 + 1)), (0, fz_r 53), (1, fz_i pe), (2, fz_i t), (3, fz_i hr), (4, fz_i 2), (5, fz_i su)]) [0, 3, 4, 5, 6, 7, 8] rfl) ?_
                              exact ih557 (x551 + 1) H552 hI553 hf554 (by omega) (by omega)
                            · refine fz_aload_n kX11_tries rfl rfl ?_
                              refine fz_iload_n kX11_tries rfl rfl ?_
                              refine fz_iload kX11_tries rfl rfl ?_
                              refine fz_iload kX11_tries rfl rfl ?_
                              refine fz_callV (d' := 4) (M' := mX11_isArrested) (As := [fz_i pe, fz_i (h 56 (x551.toNat)), fz_i z678]) (st := []) kX11_tries rfl rfl vX11_isArrested rfl rfl rfl rfl (Nat.le_of_ble_eq_true rfl) (Nat.le_of_ble_eq_true rfl) (by decide) (sX11_isArrested H552 hI553 pe (h 56 (x551.toNat)) z678 (by omega)) (fun H681 r682 q683 o684 => ?_)
                              obtain ⟨hI685, hf686, y687, rfl, p688⟩ := q683
                              clear o684
                              have hf689 := fz_fr_tr hf554 hf686 (show fz_su [(74, 99999), (75, 99999)] [(53, 54), (53, 55), (74, 99999), (75, 99999), (89, 99999), (90, 99999)] = true from rfl)
                              refine fz_if_eq (tgt := 177) kX11_tries rfl (by decide) (fun c690 => ?_) (fun c690 => ?_)
                              · refine fz_aload_n kX11_tries rfl rfl ?_
                                refine fz_getR (t := 90) kX11_tries rfl rfl ?_
                                refine fz_iload kX11_tries rfl rfl ?_
                                refine fz_iload kX11_tries rfl rfl ?_
                                refine fz_iast (n := 4) kX11_tries rfl rfl (by omega) (by omega) ?_
                                refine fz_nmu (S := [(53, 54), (53, 55), (74, 99999), (75, 99999), (89, 99999), (90, 99999)]) (h0 := h) (fz_Iv_up hI685 (by decide) (show 0 ≤ (h 56 (x551.toNat)) by omega) (show (h 56 (x551.toNat)) ≤ 7 by omega)) (fz_fr_up hf689 rfl) (fun H691 hI692 hf693 e694 => ?_)
                                clear e694
                                refine fz_aload_n kX11_tries rfl rfl ?_
                                refine fz_iload_n kX11_tries rfl rfl ?_
                                refine fz_iload kX11_tries rfl rfl ?_
                                refine fz_iload kX11_tries rfl rfl ?_
                                refine fz_iload kX11_tries rfl rfl ?_
                                refine fz_iconst ⟨by decide, by decide⟩ kX11_tries rfl ?_
                                refine fz_iaddN kX11_tries rfl ⟨by decide, by decide⟩ ?_
                                refine fz_eqi (y := 3) rfl ?_
                                refine fz_iload kX11_tries rfl rfl ?_
                                refine fz_aload_n kX11_tries rfl rfl ?_
                                refine fz_iload_n kX11_tries rfl rfl ?_
                                refine fz_iload kX11_tries rfl rfl ?_
                                refine fz_iload kX11_tries rfl rfl ?_
                                refine fz_callV (d' := 4) (M' := mX11_receivedIn) (As := [fz_i pe, fz_i (h 56 (x551.toNat)), fz_i z678]) (st := [fz_i su, fz_i 3, fz_i z678, fz_i (h 56 (x551.toNat)), fz_i pe, fz_r 53]) kX11_tries rfl rfl vX11_receivedIn rfl rfl rfl rfl (Nat.le_of_ble_eq_true rfl) (Nat.le_of_ble_eq_true rfl) (by decide) (sX11_receivedIn H691 hI692 pe (h 56 (x551.toNat)) z678 (by omega)) (fun H695 r696 q697 o698 => ?_)
                                obtain ⟨hI699, hf700, y702, rfl, f701⟩ := q697
                                clear o698
                                have hf703 := fz_fr_tr hf693 hf700 (show fz_su [(74, 99999), (75, 99999)] [(53, 54), (53, 55), (74, 99999), (75, 99999), (89, 99999), (90, 99999)] = true from rfl)
                                refine fz_iadd kX11_tries rfl ?_
                                refine fz_nmw (fun z704 e705 => ?_)
                                refine fz_callV (d' := 5) (M' := mX11_tries) (As := [fz_i pe, fz_i (h 56 (x551.toNat)), fz_i z678, fz_i 3, fz_i z704]) (st := []) kX11_tries rfl rfl vX11_tries rfl rfl rfl rfl (Nat.le_of_ble_eq_true rfl) (Nat.le_of_ble_eq_true rfl) (by decide) (sX11_tries_3 H695 hI699 pe (h 56 (x551.toNat)) z678 z704 (by omega)) (fun H706 r707 q708 o709 => ?_)
                                obtain ⟨hI710, hf711, rfl⟩ := q708
                                clear o709
                                have hf712 := fz_fr_tr hf703 hf711 (show fz_su [(53, 54), (53, 55), (74, 99999), (75, 99999), (89, 99999), (90, 99999)] [(53, 54), (53, 55), (74, 99999), (75, 99999), (89, 99999), (90, 99999)] = true from rfl)
                                refine fz_iincN (ls' := [(6, fz_i (x551 + 1)), (8, fz_i z678), (7, fz_i (h 56 (x551.toNat))), (0, fz_r 53), (1, fz_i pe), (2, fz_i t), (3, fz_i hr), (4, fz_i 2), (5, fz_i su)]) kX11_tries rfl (by decide) rfl (by omega) rfl ?_
                                refine fz_goto (tgt := 79) kX11_tries rfl (by decide) ?_
                                refine fz_sub (fz_pk_sub (ls' := [(6, fz_i (x551 + 1)), (0, fz_r 53), (1, fz_i pe), (2, fz_i t), (3, fz_i hr), (4, fz_i 2), (5, fz_i su)]) [0, 3, 4, 5, 6, 7, 8] rfl) ?_
                                exact ih557 (x551 + 1) H706 hI710 hf712 (by omega) (by omega)
                              · refine fz_goto (tgt := 211) kX11_tries rfl (by decide) ?_
                                refine fz_iincN (ls' := [(6, fz_i (x551 + 1)), (8, fz_i z678), (7, fz_i (h 56 (x551.toNat))), (0, fz_r 53), (1, fz_i pe), (2, fz_i t), (3, fz_i hr), (4, fz_i 2), (5, fz_i su)]) kX11_tries rfl (by decide) rfl (by omega) rfl ?_
                                refine fz_goto (tgt := 79) kX11_tries rfl (by decide) ?_
                                refine fz_sub (fz_pk_sub (ls' := [(6, fz_i (x551 + 1)), (0, fz_r 53), (1, fz_i pe), (2, fz_i t), (3, fz_i hr), (4, fz_i 2), (5, fz_i su)]) [0, 3, 4, 5, 6, 7, 8] rfl) ?_
                                exact ih557 (x551 + 1) H681 hI685 hf689 (by omega) (by omega)
                        · refine fz_goto (tgt := 211) kX11_tries rfl (by decide) ?_
                          refine fz_iincN (ls' := [(6, fz_i (x551 + 1)), (0, fz_r 53), (1, fz_i pe), (2, fz_i t), (3, fz_i hr), (4, fz_i 2), (5, fz_i su)]) kX11_tries rfl (by decide) rfl (by omega) rfl ?_
                          refine fz_goto (tgt := 79) kX11_tries rfl (by decide) ?_
                          exact ih557 (x551 + 1) H552 hI553 hf554 (by omega) (by omega)
                exact lp556 _ 0 H541 hI542 hf543 (by omega) (Nat.lt_succ_self _)
              · exfalso; omega
            · refine fz_aload_n kX11_tries rfl rfl ?_
              refine fz_getR (t := 89) kX11_tries rfl rfl ?_
              refine fz_iload kX11_tries rfl rfl ?_
              refine fz_aload_n kX11_tries rfl rfl ?_
              refine fz_getR (t := 90) kX11_tries rfl rfl ?_
              refine fz_iload kX11_tries rfl rfl ?_
              obtain ⟨v713, e714⟩ : ∃ z, H541 90 (x540.toNat) = z := ⟨_, rfl⟩
              refine fz_ialdV (n := 4) (v := v713) kX11_tries rfl rfl (by omega) (by omega) e714 ?_
              have b715 : 0 ≤ v713 ∧ v713 ≤ 7 := by rw [← e714]; exact hI542.1 90 _
              refine fz_iast (n := 4) kX11_tries rfl rfl (by omega) (by omega) ?_
              refine fz_nmu (S := [(53, 54), (53, 55), (74, 99999), (75, 99999), (89, 99999), (90, 99999)]) (h0 := h) (fz_Iv_up hI542 (by decide) (show 0 ≤ v713 by omega) (show v713 ≤ 7 by omega)) (fz_fr_up hf543 rfl) (fun H716 hI717 hf718 e719 => ?_)
              clear e719
              refine fz_iincN (ls' := [(6, fz_i (x540 + 1)), (0, fz_r 53), (1, fz_i pe), (2, fz_i t), (3, fz_i hr), (4, fz_i 2), (5, fz_i su)]) kX11_tries rfl (by decide) rfl (by omega) rfl ?_
              refine fz_goto (tgt := 42) kX11_tries rfl (by decide) ?_
              exact ih546 (x540 + 1) H716 hI717 hf718 (by omega) (by omega)
        exact lp545 _ 0 H534 hI535 hf536 (by omega) (Nat.lt_succ_self _)

abbrev qX11_tries_1 (h : fz_H) (pe t hr su : Int) : fz_H → Option fz_V → Prop := fun h' r0 => fz_Iv h' ∧ fz_fr [(53, 54), (53, 55), (74, 99999), (75, 99999), (89, 99999), (90, 99999)] h h' ∧ r0 = none
set_option maxHeartbeats 1000000 in
set_option maxRecDepth 100000 in
theorem sX11_tries_1 (h : fz_H) (hI : fz_Iv h) (pe t hr su : Int) (hp0 : 0 ≤ t ∧ t ≤ 7) : fz_R 7 mX11_tries 0 [(0, fz_r 53), (1, fz_i pe), (2, fz_i t), (3, fz_i hr), (4, fz_i 1), (5, fz_i su)] [] h (qX11_tries_1 h pe t hr su) := by
  refine fz_knowl (fun hk => ?_)
  have hr_pe : -2147483648 ≤ pe ∧ pe < 2147483648 := hk _ (List.Mem.tail _ (List.Mem.head _))
  have hr_t : -2147483648 ≤ t ∧ t < 2147483648 := hk _ (List.Mem.tail _ (List.Mem.tail _ (List.Mem.head _)))
  have hr_hr : -2147483648 ≤ hr ∧ hr < 2147483648 := hk _ (List.Mem.tail _ (List.Mem.tail _ (List.Mem.tail _ (List.Mem.head _))))
  have hr_su : -2147483648 ≤ su ∧ su < 2147483648 := hk _ (List.Mem.tail _ (List.Mem.tail _ (List.Mem.tail _ (List.Mem.tail _ (List.Mem.tail _ (List.Mem.head _))))))
  clear hk
  have hf : fz_fr [(53, 54), (53, 55), (74, 99999), (75, 99999), (89, 99999), (90, 99999)] h h := fz_fr_rf
  refine fz_iload kX11_tries rfl rfl ?_
  refine fz_aload_n kX11_tries rfl rfl ?_
  refine fz_getV (v := h 53 54) kX11_tries rfl rfl rfl ?_
  have b1 : (-2147483648) ≤ h 53 54 ∧ h 53 54 ≤ 2147483647 := hI.1 53 _
  refine fz_icmp_gt (tgt := 27) kX11_tries rfl (by decide) (fun c2 => ?_) (fun c2 => ?_)
  · refine fz_aload_n kX11_tries rfl rfl ?_
    refine fz_iload kX11_tries rfl rfl ?_
    refine fz_putI kX11_tries rfl rfl rfl ?_
    refine fz_nmu (S := [(53, 54), (53, 55), (74, 99999), (75, 99999), (89, 99999), (90, 99999)]) (h0 := h) (fz_Iv_up hI (by decide) (show (-2147483648) ≤ su by omega) (show su ≤ 2147483647 by omega)) (fz_fr_up hf rfl) (fun H3 hI4 hf5 e6 => ?_)
    have k7 : H3 53 54 = su := by rw [e6]; exact fz_up_e
    clear e6
    refine fz_aload_n kX11_tries rfl rfl ?_
    refine fz_iload kX11_tries rfl rfl ?_
    refine fz_putI kX11_tries rfl rfl rfl ?_
    refine fz_nmu (S := [(53, 54), (53, 55), (74, 99999), (75, 99999), (89, 99999), (90, 99999)]) (h0 := h) (fz_Iv_up hI4 (by decide) (show 0 ≤ 1 by omega) (show 1 ≤ 4 by omega)) (fz_fr_up hf5 rfl) (fun H8 hI9 hf10 e11 => ?_)
    have k12 : H8 53 54 = su := by rw [e11]; exact (fz_up_s (by decide)).trans k7
    have k13 : H8 53 55 = 1 := by rw [e11]; exact fz_up_e
    clear e11
    refine fz_iconst ⟨by decide, by decide⟩ kX11_tries rfl ?_
    refine fz_istore (ls' := [(6, fz_i 0), (0, fz_r 53), (1, fz_i pe), (2, fz_i t), (3, fz_i hr), (4, fz_i 1), (5, fz_i su)]) kX11_tries rfl (by decide) rfl ?_
    have lp19 : ∀ (n18 : Nat) (x14 : Int) (H15 : fz_H), fz_Iv H15 → fz_fr [(53, 54), (53, 55), (74, 99999), (75, 99999), (89, 99999), (90, 99999)] h H15 → (0 ≤ x14 ∧ x14 ≤ 2147483647) → (1 - x14).toNat < n18 → fz_R 7 mX11_tries 42 [(6, fz_i x14), (0, fz_r 53), (1, fz_i pe), (2, fz_i t), (3, fz_i hr), (4, fz_i 1), (5, fz_i su)] [] H15 (qX11_tries_1 h pe t hr su) := by
      intro n18
      induction n18 with
      | zero => intro x14 H15 hI16 hf17 hv22 hm21; exact absurd hm21 (by omega)
      | succ n18 ih20 =>
        intro x14 H15 hI16 hf17 hv22 hm21
        refine fz_iload kX11_tries rfl rfl ?_
        refine fz_iload kX11_tries rfl rfl ?_
        refine fz_icmp_ge (tgt := 69) kX11_tries rfl (by decide) (fun c23 => ?_) (fun c23 => ?_)
        · refine fz_iload kX11_tries rfl rfl ?_
          refine fz_iconst ⟨by decide, by decide⟩ kX11_tries rfl ?_
          refine fz_icmp_ne (tgt := 76) kX11_tries rfl (by decide) (fun c24 => ?_) (fun c24 => ?_)
          · refine fz_iconst ⟨by decide, by decide⟩ kX11_tries rfl ?_
            refine fz_istore (ls' := [(6, fz_i 0), (0, fz_r 53), (1, fz_i pe), (2, fz_i t), (3, fz_i hr), (4, fz_i 1), (5, fz_i su)]) kX11_tries rfl (by decide) rfl ?_
            have lp30 : ∀ (n29 : Nat) (x25 : Int) (H26 : fz_H), fz_Iv H26 → fz_fr [(53, 54), (53, 55), (74, 99999), (75, 99999), (89, 99999), (90, 99999)] h H26 → (0 ≤ x25 ∧ x25 ≤ 2147483647) → ((h 53 2) - x25).toNat < n29 → fz_R 7 mX11_tries 79 [(6, fz_i x25), (0, fz_r 53), (1, fz_i pe), (2, fz_i t), (3, fz_i hr), (4, fz_i 1), (5, fz_i su)] [] H26 (qX11_tries_1 h pe t hr su) := by
              intro n29
              induction n29 with
              | zero => intro x25 H26 hI27 hf28 hv33 hm32; exact absurd hm32 (by omega)
              | succ n29 ih31 =>
                intro x25 H26 hI27 hf28 hv33 hm32
                refine fz_iload kX11_tries rfl rfl ?_
                refine fz_aload_n kX11_tries rfl rfl ?_
                refine fz_getV (v := h 53 2) kX11_tries rfl rfl (hf28 53 2 rfl) ?_
                have b34 : 0 ≤ h 53 2 ∧ h 53 2 ≤ 12 := hI.1 53 _
                refine fz_icmp_ge (tgt := 217) kX11_tries rfl (by decide) (fun c35 => ?_) (fun c35 => ?_)
                · exact fz_vret kX11_tries rfl rfl ⟨hI27, hf28, rfl⟩
                · refine fz_aload_n kX11_tries rfl rfl ?_
                  refine fz_getR (t := 55) kX11_tries rfl rfl ?_
                  refine fz_iload kX11_tries rfl rfl ?_
                  refine fz_ialdV (n := 12) (v := h 55 (x25.toNat)) kX11_tries rfl rfl (by omega) (by omega) (hf28 55 _ rfl) ?_
                  have b36 : 0 ≤ h 55 (x25.toNat) ∧ h 55 (x25.toNat) ≤ 7 := hI.1 55 _
                  refine fz_iload_n kX11_tries rfl rfl ?_
                  refine fz_icmp_eq (tgt := 113) kX11_tries rfl (by decide) (fun c37 => ?_) (fun c37 => ?_)
                  · refine fz_aload_n kX11_tries rfl rfl ?_
                    refine fz_getR (t := 55) kX11_tries rfl rfl ?_
                    refine fz_iload kX11_tries rfl rfl ?_
                    refine fz_ialdV (n := 12) (v := h 55 (x25.toNat)) kX11_tries rfl rfl (by omega) (by omega) (hf28 55 _ rfl) ?_
                    refine fz_iload_n kX11_tries rfl rfl ?_
                    refine fz_icmp_ne (tgt := 134) kX11_tries rfl (by decide) (fun c38 => ?_) (fun c38 => ?_)
                    · refine fz_aload_n kX11_tries rfl rfl ?_
                      refine fz_getR (t := 55) kX11_tries rfl rfl ?_
                      refine fz_iload kX11_tries rfl rfl ?_
                      refine fz_ialdV (n := 12) (v := h 55 (x25.toNat)) kX11_tries rfl rfl (by omega) (by omega) (hf28 55 _ rfl) ?_
                      refine fz_istore (ls' := [(7, fz_i (h 55 (x25.toNat))), (6, fz_i x25), (0, fz_r 53), (1, fz_i pe), (2, fz_i t), (3, fz_i hr), (4, fz_i 1), (5, fz_i su)]) kX11_tries rfl (by decide) rfl ?_
                      refine fz_iload_n kX11_tries rfl rfl ?_
                      refine fz_aload_n kX11_tries rfl rfl ?_
                      refine fz_getR (t := 57) kX11_tries rfl rfl ?_
                      refine fz_iload kX11_tries rfl rfl ?_
                      refine fz_ialdV (n := 12) (v := h 57 (x25.toNat)) kX11_tries rfl rfl (by omega) (by omega) (hf28 57 _ rfl) ?_
                      have b39 : 0 ≤ h 57 (x25.toNat) ∧ h 57 (x25.toNat) ≤ 24 := hI.1 57 _
                      refine fz_iadd kX11_tries rfl ?_
                      refine fz_nmw (fun z40 e41 => ?_)
                      refine fz_istore (ls' := [(8, fz_i z40), (7, fz_i (h 55 (x25.toNat))), (6, fz_i x25), (0, fz_r 53), (1, fz_i pe), (2, fz_i t), (3, fz_i hr), (4, fz_i 1), (5, fz_i su)]) kX11_tries rfl (by decide) rfl ?_
                      refine fz_iload kX11_tries rfl rfl ?_
                      refine fz_sipush ⟨by decide, by decide⟩ kX11_tries rfl ?_
                      refine fz_icmp_gt (tgt := 211) kX11_tries rfl (by decide) (fun c42 => ?_) (fun c42 => ?_)
                      · refine fz_iincN (ls' := [(6, fz_i (x25 + 1)), (8, fz_i z40), (7, fz_i (h 55 (x25.toNat))), (0, fz_r 53), (1, fz_i pe), (2, fz_i t), (3, fz_i hr), (4, fz_i 1), (5, fz_i su)]) kX11_tries rfl (by decide) rfl (by omega) rfl ?_
                        refine fz_goto (tgt := 79) kX11_tries rfl (by decide) ?_
                        refine fz_sub (fz_pk_sub (ls' := [(6, fz_i (x25 + 1)), (0, fz_r 53), (1, fz_i pe), (2, fz_i t), (3, fz_i hr), (4, fz_i 1), (5, fz_i su)]) [0, 3, 4, 5, 6, 7, 8] rfl) ?_
                        exact ih31 (x25 + 1) H26 hI27 hf28 (by omega) (by omega)
                      · refine fz_aload_n kX11_tries rfl rfl ?_
                        refine fz_iload_n kX11_tries rfl rfl ?_
                        refine fz_iload kX11_tries rfl rfl ?_
                        refine fz_iload kX11_tries rfl rfl ?_
                        refine fz_callV (d' := 4) (M' := mX11_isArrested) (As := [fz_i pe, fz_i (h 55 (x25.toNat)), fz_i z40]) (st := []) kX11_tries rfl rfl vX11_isArrested rfl rfl rfl rfl (Nat.le_of_ble_eq_true rfl) (Nat.le_of_ble_eq_true rfl) (by decide) (sX11_isArrested H26 hI27 pe (h 55 (x25.toNat)) z40 (by omega)) (fun H43 r44 q45 o46 => ?_)
                        obtain ⟨hI47, hf48, y49, rfl, p50⟩ := q45
                        clear o46
                        have hf51 := fz_fr_tr hf28 hf48 (show fz_su [(74, 99999), (75, 99999)] [(53, 54), (53, 55), (74, 99999), (75, 99999), (89, 99999), (90, 99999)] = true from rfl)
                        refine fz_if_eq (tgt := 177) kX11_tries rfl (by decide) (fun c52 => ?_) (fun c52 => ?_)
                        · refine fz_aload_n kX11_tries rfl rfl ?_
                          refine fz_getR (t := 90) kX11_tries rfl rfl ?_
                          refine fz_iload kX11_tries rfl rfl ?_
                          refine fz_iload kX11_tries rfl rfl ?_
                          refine fz_iast (n := 4) kX11_tries rfl rfl (by omega) (by omega) ?_
                          refine fz_nmu (S := [(53, 54), (53, 55), (74, 99999), (75, 99999), (89, 99999), (90, 99999)]) (h0 := h) (fz_Iv_up hI47 (by decide) (show 0 ≤ (h 55 (x25.toNat)) by omega) (show (h 55 (x25.toNat)) ≤ 7 by omega)) (fz_fr_up hf51 rfl) (fun H53 hI54 hf55 e56 => ?_)
                          clear e56
                          refine fz_aload_n kX11_tries rfl rfl ?_
                          refine fz_iload_n kX11_tries rfl rfl ?_
                          refine fz_iload kX11_tries rfl rfl ?_
                          refine fz_iload kX11_tries rfl rfl ?_
                          refine fz_iload kX11_tries rfl rfl ?_
                          refine fz_iconst ⟨by decide, by decide⟩ kX11_tries rfl ?_
                          refine fz_iaddN kX11_tries rfl ⟨by decide, by decide⟩ ?_
                          refine fz_eqi (y := 2) rfl ?_
                          refine fz_iload kX11_tries rfl rfl ?_
                          refine fz_aload_n kX11_tries rfl rfl ?_
                          refine fz_iload_n kX11_tries rfl rfl ?_
                          refine fz_iload kX11_tries rfl rfl ?_
                          refine fz_iload kX11_tries rfl rfl ?_
                          refine fz_callV (d' := 4) (M' := mX11_receivedIn) (As := [fz_i pe, fz_i (h 55 (x25.toNat)), fz_i z40]) (st := [fz_i su, fz_i 2, fz_i z40, fz_i (h 55 (x25.toNat)), fz_i pe, fz_r 53]) kX11_tries rfl rfl vX11_receivedIn rfl rfl rfl rfl (Nat.le_of_ble_eq_true rfl) (Nat.le_of_ble_eq_true rfl) (by decide) (sX11_receivedIn H53 hI54 pe (h 55 (x25.toNat)) z40 (by omega)) (fun H57 r58 q59 o60 => ?_)
                          obtain ⟨hI61, hf62, y64, rfl, f63⟩ := q59
                          clear o60
                          have hf65 := fz_fr_tr hf55 hf62 (show fz_su [(74, 99999), (75, 99999)] [(53, 54), (53, 55), (74, 99999), (75, 99999), (89, 99999), (90, 99999)] = true from rfl)
                          refine fz_iadd kX11_tries rfl ?_
                          refine fz_nmw (fun z66 e67 => ?_)
                          refine fz_callV (d' := 6) (M' := mX11_tries) (As := [fz_i pe, fz_i (h 55 (x25.toNat)), fz_i z40, fz_i 2, fz_i z66]) (st := []) kX11_tries rfl rfl vX11_tries rfl rfl rfl rfl (Nat.le_of_ble_eq_true rfl) (Nat.le_of_ble_eq_true rfl) (by decide) (sX11_tries_2 H57 hI61 pe (h 55 (x25.toNat)) z40 z66 (by omega)) (fun H68 r69 q70 o71 => ?_)
                          obtain ⟨hI72, hf73, rfl⟩ := q70
                          clear o71
                          have hf74 := fz_fr_tr hf65 hf73 (show fz_su [(53, 54), (53, 55), (74, 99999), (75, 99999), (89, 99999), (90, 99999)] [(53, 54), (53, 55), (74, 99999), (75, 99999), (89, 99999), (90, 99999)] = true from rfl)
                          refine fz_iincN (ls' := [(6, fz_i (x25 + 1)), (8, fz_i z40), (7, fz_i (h 55 (x25.toNat))), (0, fz_r 53), (1, fz_i pe), (2, fz_i t), (3, fz_i hr), (4, fz_i 1), (5, fz_i su)]) kX11_tries rfl (by decide) rfl (by omega) rfl ?_
                          refine fz_goto (tgt := 79) kX11_tries rfl (by decide) ?_
                          refine fz_sub (fz_pk_sub (ls' := [(6, fz_i (x25 + 1)), (0, fz_r 53), (1, fz_i pe), (2, fz_i t), (3, fz_i hr), (4, fz_i 1), (5, fz_i su)]) [0, 3, 4, 5, 6, 7, 8] rfl) ?_
                          exact ih31 (x25 + 1) H68 hI72 hf74 (by omega) (by omega)
                        · refine fz_goto (tgt := 211) kX11_tries rfl (by decide) ?_
                          refine fz_iincN (ls' := [(6, fz_i (x25 + 1)), (8, fz_i z40), (7, fz_i (h 55 (x25.toNat))), (0, fz_r 53), (1, fz_i pe), (2, fz_i t), (3, fz_i hr), (4, fz_i 1), (5, fz_i su)]) kX11_tries rfl (by decide) rfl (by omega) rfl ?_
                          refine fz_goto (tgt := 79) kX11_tries rfl (by decide) ?_
                          refine fz_sub (fz_pk_sub (ls' := [(6, fz_i (x25 + 1)), (0, fz_r 53), (1, fz_i pe), (2, fz_i t), (3, fz_i hr), (4, fz_i 1), (5, fz_i su)]) [0, 3, 4, 5, 6, 7, 8] rfl) ?_
                          exact ih31 (x25 + 1) H43 hI47 hf51 (by omega) (by omega)
                    · refine fz_aload_n kX11_tries rfl rfl ?_
                      refine fz_getR (t := 56) kX11_tries rfl rfl ?_
                      refine fz_iload kX11_tries rfl rfl ?_
                      refine fz_ialdV (n := 12) (v := h 56 (x25.toNat)) kX11_tries rfl rfl (by omega) (by omega) (hf28 56 _ rfl) ?_
                      have b75 : 0 ≤ h 56 (x25.toNat) ∧ h 56 (x25.toNat) ≤ 7 := hI.1 56 _
                      refine fz_goto (tgt := 141) kX11_tries rfl (by decide) ?_
                      refine fz_istore (ls' := [(7, fz_i (h 56 (x25.toNat))), (6, fz_i x25), (0, fz_r 53), (1, fz_i pe), (2, fz_i t), (3, fz_i hr), (4, fz_i 1), (5, fz_i su)]) kX11_tries rfl (by decide) rfl ?_
                      refine fz_iload_n kX11_tries rfl rfl ?_
                      refine fz_aload_n kX11_tries rfl rfl ?_
                      refine fz_getR (t := 57) kX11_tries rfl rfl ?_
                      refine fz_iload kX11_tries rfl rfl ?_
                      refine fz_ialdV (n := 12) (v := h 57 (x25.toNat)) kX11_tries rfl rfl (by omega) (by omega) (hf28 57 _ rfl) ?_
                      have b76 : 0 ≤ h 57 (x25.toNat) ∧ h 57 (x25.toNat) ≤ 24 := hI.1 57 _
                      refine fz_iadd kX11_tries rfl ?_
                      refine fz_nmw (fun z77 e78 => ?_)
                      refine fz_istore (ls' := [(8, fz_i z77), (7, fz_i (h 56 (x25.toNat))), (6, fz_i x25), (0, fz_r 53), (1, fz_i pe), (2, fz_i t), (3, fz_i hr), (4, fz_i 1), (5, fz_i su)]) kX11_tries rfl (by decide) rfl ?_
                      refine fz_iload kX11_tries rfl rfl ?_
                      refine fz_sipush ⟨by decide, by decide⟩ kX11_tries rfl ?_
                      refine fz_icmp_gt (tgt := 211) kX11_tries rfl (by decide) (fun c79 => ?_) (fun c79 => ?_)
                      · refine fz_iincN (ls' := [(6, fz_i (x25 + 1)), (8, fz_i z77), (7, fz_i (h 56 (x25.toNat))), (0, fz_r 53), (1, fz_i pe), (2, fz_i t), (3, fz_i hr), (4, fz_i 1), (5, fz_i su)]) kX11_tries rfl (by decide) rfl (by omega) rfl ?_
                        refine fz_goto (tgt := 79) kX11_tries rfl (by decide) ?_
                        refine fz_sub (fz_pk_sub (ls' := [(6, fz_i (x25 + 1)), (0, fz_r 53), (1, fz_i pe), (2, fz_i t), (3, fz_i hr), (4, fz_i 1), (5, fz_i su)]) [0, 3, 4, 5, 6, 7, 8] rfl) ?_
                        exact ih31 (x25 + 1) H26 hI27 hf28 (by omega) (by omega)
                      · refine fz_aload_n kX11_tries rfl rfl ?_
                        refine fz_iload_n kX11_tries rfl rfl ?_
                        refine fz_iload kX11_tries rfl rfl ?_
                        refine fz_iload kX11_tries rfl rfl ?_
                        refine fz_callV (d' := 4) (M' := mX11_isArrested) (As := [fz_i pe, fz_i (h 56 (x25.toNat)), fz_i z77]) (st := []) kX11_tries rfl rfl vX11_isArrested rfl rfl rfl rfl (Nat.le_of_ble_eq_true rfl) (Nat.le_of_ble_eq_true rfl) (by decide) (sX11_isArrested H26 hI27 pe (h 56 (x25.toNat)) z77 (by omega)) (fun H80 r81 q82 o83 => ?_)
                        obtain ⟨hI84, hf85, y86, rfl, p87⟩ := q82
                        clear o83
                        have hf88 := fz_fr_tr hf28 hf85 (show fz_su [(74, 99999), (75, 99999)] [(53, 54), (53, 55), (74, 99999), (75, 99999), (89, 99999), (90, 99999)] = true from rfl)
                        refine fz_if_eq (tgt := 177) kX11_tries rfl (by decide) (fun c89 => ?_) (fun c89 => ?_)
                        · refine fz_aload_n kX11_tries rfl rfl ?_
                          refine fz_getR (t := 90) kX11_tries rfl rfl ?_
                          refine fz_iload kX11_tries rfl rfl ?_
                          refine fz_iload kX11_tries rfl rfl ?_
                          refine fz_iast (n := 4) kX11_tries rfl rfl (by omega) (by omega) ?_
                          refine fz_nmu (S := [(53, 54), (53, 55), (74, 99999), (75, 99999), (89, 99999), (90, 99999)]) (h0 := h) (fz_Iv_up hI84 (by decide) (show 0 ≤ (h 56 (x25.toNat)) by omega) (show (h 56 (x25.toNat)) ≤ 7 by omega)) (fz_fr_up hf88 rfl) (fun H90 hI91 hf92 e93 => ?_)
                          clear e93
                          refine fz_aload_n kX11_tries rfl rfl ?_
                          refine fz_iload_n kX11_tries rfl rfl ?_
                          refine fz_iload kX11_tries rfl rfl ?_
                          refine fz_iload kX11_tries rfl rfl ?_
                          refine fz_iload kX11_tries rfl rfl ?_
                          refine fz_iconst ⟨by decide, by decide⟩ kX11_tries rfl ?_
                          refine fz_iaddN kX11_tries rfl ⟨by decide, by decide⟩ ?_
                          refine fz_eqi (y := 2) rfl ?_
                          refine fz_iload kX11_tries rfl rfl ?_
                          refine fz_aload_n kX11_tries rfl rfl ?_
                          refine fz_iload_n kX11_tries rfl rfl ?_
                          refine fz_iload kX11_tries rfl rfl ?_
                          refine fz_iload kX11_tries rfl rfl ?_
                          refine fz_callV (d' := 4) (M' := mX11_receivedIn) (As := [fz_i pe, fz_i (h 56 (x25.toNat)), fz_i z77]) (st := [fz_i su, fz_i 2, fz_i z77, fz_i (h 56 (x25.toNat)), fz_i pe, fz_r 53]) kX11_tries rfl rfl vX11_receivedIn rfl rfl rfl rfl (Nat.le_of_ble_eq_true rfl) (Nat.le_of_ble_eq_true rfl) (by decide) (sX11_receivedIn H90 hI91 pe (h 56 (x25.toNat)) z77 (by omega)) (fun H94 r95 q96 o97 => ?_)
                          obtain ⟨hI98, hf99, y101, rfl, f100⟩ := q96
                          clear o97
                          have hf102 := fz_fr_tr hf92 hf99 (show fz_su [(74, 99999), (75, 99999)] [(53, 54), (53, 55), (74, 99999), (75, 99999), (89, 99999), (90, 99999)] = true from rfl)
                          refine fz_iadd kX11_tries rfl ?_
                          refine fz_nmw (fun z103 e104 => ?_)
                          refine fz_callV (d' := 6) (M' := mX11_tries) (As := [fz_i pe, fz_i (h 56 (x25.toNat)), fz_i z77, fz_i 2, fz_i z103]) (st := []) kX11_tries rfl rfl vX11_tries rfl rfl rfl rfl (Nat.le_of_ble_eq_true rfl) (Nat.le_of_ble_eq_true rfl) (by decide) (sX11_tries_2 H94 hI98 pe (h 56 (x25.toNat)) z77 z103 (by omega)) (fun H105 r106 q107 o108 => ?_)
                          obtain ⟨hI109, hf110, rfl⟩ := q107
                          clear o108
                          have hf111 := fz_fr_tr hf102 hf110 (show fz_su [(53, 54), (53, 55), (74, 99999), (75, 99999), (89, 99999), (90, 99999)] [(53, 54), (53, 55), (74, 99999), (75, 99999), (89, 99999), (90, 99999)] = true from rfl)
                          refine fz_iincN (ls' := [(6, fz_i (x25 + 1)), (8, fz_i z77), (7, fz_i (h 56 (x25.toNat))), (0, fz_r 53), (1, fz_i pe), (2, fz_i t), (3, fz_i hr), (4, fz_i 1), (5, fz_i su)]) kX11_tries rfl (by decide) rfl (by omega) rfl ?_
                          refine fz_goto (tgt := 79) kX11_tries rfl (by decide) ?_
                          refine fz_sub (fz_pk_sub (ls' := [(6, fz_i (x25 + 1)), (0, fz_r 53), (1, fz_i pe), (2, fz_i t), (3, fz_i hr), (4, fz_i 1), (5, fz_i su)]) [0, 3, 4, 5, 6, 7, 8] rfl) ?_
                          exact ih31 (x25 + 1) H105 hI109 hf111 (by omega) (by omega)
                        · refine fz_goto (tgt := 211) kX11_tries rfl (by decide) ?_
                          refine fz_iincN (ls' := [(6, fz_i (x25 + 1)), (8, fz_i z77), (7, fz_i (h 56 (x25.toNat))), (0, fz_r 53), (1, fz_i pe), (2, fz_i t), (3, fz_i hr), (4, fz_i 1), (5, fz_i su)]) kX11_tries rfl (by decide) rfl (by omega) rfl ?_
                          refine fz_goto (tgt := 79) kX11_tries rfl (by decide) ?_
                          refine fz_sub (fz_pk_sub (ls' := [(6, fz_i (x25 + 1)), (0, fz_r 53), (1, fz_i pe), (2, fz_i t), (3, fz_i hr), (4, fz_i 1), (5, fz_i su)]) [0, 3, 4, 5, 6, 7, 8] rfl) ?_
                          exact ih31 (x25 + 1) H80 hI84 hf88 (by omega) (by omega)
                  · refine fz_aload_n kX11_tries rfl rfl ?_
                    refine fz_getR (t := 56) kX11_tries rfl rfl ?_
                    refine fz_iload kX11_tries rfl rfl ?_
                    refine fz_ialdV (n := 12) (v := h 56 (x25.toNat)) kX11_tries rfl rfl (by omega) (by omega) (hf28 56 _ rfl) ?_
                    have b112 : 0 ≤ h 56 (x25.toNat) ∧ h 56 (x25.toNat) ≤ 7 := hI.1 56 _
                    refine fz_iload_n kX11_tries rfl rfl ?_
                    refine fz_icmp_eq (tgt := 113) kX11_tries rfl (by decide) (fun c113 => ?_) (fun c113 => ?_)
                    · refine fz_aload_n kX11_tries rfl rfl ?_
                      refine fz_getR (t := 55) kX11_tries rfl rfl ?_
                      refine fz_iload kX11_tries rfl rfl ?_
                      refine fz_ialdV (n := 12) (v := h 55 (x25.toNat)) kX11_tries rfl rfl (by omega) (by omega) (hf28 55 _ rfl) ?_
                      refine fz_iload_n kX11_tries rfl rfl ?_
                      refine fz_icmp_ne (tgt := 134) kX11_tries rfl (by decide) (fun c114 => ?_) (fun c114 => ?_)
                      · refine fz_aload_n kX11_tries rfl rfl ?_
                        refine fz_getR (t := 55) kX11_tries rfl rfl ?_
                        refine fz_iload kX11_tries rfl rfl ?_
                        refine fz_ialdV (n := 12) (v := h 55 (x25.toNat)) kX11_tries rfl rfl (by omega) (by omega) (hf28 55 _ rfl) ?_
                        refine fz_istore (ls' := [(7, fz_i (h 55 (x25.toNat))), (6, fz_i x25), (0, fz_r 53), (1, fz_i pe), (2, fz_i t), (3, fz_i hr), (4, fz_i 1), (5, fz_i su)]) kX11_tries rfl (by decide) rfl ?_
                        refine fz_iload_n kX11_tries rfl rfl ?_
                        refine fz_aload_n kX11_tries rfl rfl ?_
                        refine fz_getR (t := 57) kX11_tries rfl rfl ?_
                        refine fz_iload kX11_tries rfl rfl ?_
                        refine fz_ialdV (n := 12) (v := h 57 (x25.toNat)) kX11_tries rfl rfl (by omega) (by omega) (hf28 57 _ rfl) ?_
                        have b115 : 0 ≤ h 57 (x25.toNat) ∧ h 57 (x25.toNat) ≤ 24 := hI.1 57 _
                        refine fz_iadd kX11_tries rfl ?_
                        refine fz_nmw (fun z116 e117 => ?_)
                        refine fz_istore (ls' := [(8, fz_i z116), (7, fz_i (h 55 (x25.toNat))), (6, fz_i x25), (0, fz_r 53), (1, fz_i pe), (2, fz_i t), (3, fz_i hr), (4, fz_i 1), (5, fz_i su)]) kX11_tries rfl (by decide) rfl ?_
                        refine fz_iload kX11_tries rfl rfl ?_
                        refine fz_sipush ⟨by decide, by decide⟩ kX11_tries rfl ?_
                        refine fz_icmp_gt (tgt := 211) kX11_tries rfl (by decide) (fun c118 => ?_) (fun c118 => ?_)
                        · refine fz_iincN (ls' := [(6, fz_i (x25 + 1)), (8, fz_i z116), (7, fz_i (h 55 (x25.toNat))), (0, fz_r 53), (1, fz_i pe), (2, fz_i t), (3, fz_i hr), (4, fz_i 1), (5, fz_i su)]) kX11_tries rfl (by decide) rfl (by omega) rfl ?_
                          refine fz_goto (tgt := 79) kX11_tries rfl (by decide) ?_
                          refine fz_sub (fz_pk_sub (ls' := [(6, fz_i (x25 + 1)), (0, fz_r 53), (1, fz_i pe), (2, fz_i t), (3, fz_i hr), (4, fz_i 1), (5, fz_i su)]) [0, 3, 4, 5, 6, 7, 8] rfl) ?_
                          exact ih31 (x25 + 1) H26 hI27 hf28 (by omega) (by omega)
                        · refine fz_aload_n kX11_tries rfl rfl ?_
                          refine fz_iload_n kX11_tries rfl rfl ?_
                          refine fz_iload kX11_tries rfl rfl ?_
                          refine fz_iload kX11_tries rfl rfl ?_
                          refine fz_callV (d' := 4) (M' := mX11_isArrested) (As := [fz_i pe, fz_i (h 55 (x25.toNat)), fz_i z116]) (st := []) kX11_tries rfl rfl vX11_isArrested rfl rfl rfl rfl (Nat.le_of_ble_eq_true rfl) (Nat.le_of_ble_eq_true rfl) (by decide) (sX11_isArrested H26 hI27 pe (h 55 (x25.toNat)) z116 (by omega)) (fun H119 r120 q121 o122 => ?_)
                          obtain ⟨hI123, hf124, y125, rfl, p126⟩ := q121
                          clear o122
                          have hf127 := fz_fr_tr hf28 hf124 (show fz_su [(74, 99999), (75, 99999)] [(53, 54), (53, 55), (74, 99999), (75, 99999), (89, 99999), (90, 99999)] = true from rfl)
                          refine fz_if_eq (tgt := 177) kX11_tries rfl (by decide) (fun c128 => ?_) (fun c128 => ?_)
                          · refine fz_aload_n kX11_tries rfl rfl ?_
                            refine fz_getR (t := 90) kX11_tries rfl rfl ?_
                            refine fz_iload kX11_tries rfl rfl ?_
                            refine fz_iload kX11_tries rfl rfl ?_
                            refine fz_iast (n := 4) kX11_tries rfl rfl (by omega) (by omega) ?_
                            refine fz_nmu (S := [(53, 54), (53, 55), (74, 99999), (75, 99999), (89, 99999), (90, 99999)]) (h0 := h) (fz_Iv_up hI123 (by decide) (show 0 ≤ (h 55 (x25.toNat)) by omega) (show (h 55 (x25.toNat)) ≤ 7 by omega)) (fz_fr_up hf127 rfl) (fun H129 hI130 hf131 e132 => ?_)
                            clear e132
                            refine fz_aload_n kX11_tries rfl rfl ?_
                            refine fz_iload_n kX11_tries rfl rfl ?_
                            refine fz_iload kX11_tries rfl rfl ?_
                            refine fz_iload kX11_tries rfl rfl ?_
                            refine fz_iload kX11_tries rfl rfl ?_
                            refine fz_iconst ⟨by decide, by decide⟩ kX11_tries rfl ?_
                            refine fz_iaddN kX11_tries rfl ⟨by decide, by decide⟩ ?_
                            refine fz_eqi (y := 2) rfl ?_
                            refine fz_iload kX11_tries rfl rfl ?_
                            refine fz_aload_n kX11_tries rfl rfl ?_
                            refine fz_iload_n kX11_tries rfl rfl ?_
                            refine fz_iload kX11_tries rfl rfl ?_
                            refine fz_iload kX11_tries rfl rfl ?_
                            refine fz_callV (d' := 4) (M' := mX11_receivedIn) (As := [fz_i pe, fz_i (h 55 (x25.toNat)), fz_i z116]) (st := [fz_i su, fz_i 2, fz_i z116, fz_i (h 55 (x25.toNat)), fz_i pe, fz_r 53]) kX11_tries rfl rfl vX11_receivedIn rfl rfl rfl rfl (Nat.le_of_ble_eq_true rfl) (Nat.le_of_ble_eq_true rfl) (by decide) (sX11_receivedIn H129 hI130 pe (h 55 (x25.toNat)) z116 (by omega)) (fun H133 r134 q135 o136 => ?_)
                            obtain ⟨hI137, hf138, y140, rfl, f139⟩ := q135
                            clear o136
                            have hf141 := fz_fr_tr hf131 hf138 (show fz_su [(74, 99999), (75, 99999)] [(53, 54), (53, 55), (74, 99999), (75, 99999), (89, 99999), (90, 99999)] = true from rfl)
                            refine fz_iadd kX11_tries rfl ?_
                            refine fz_nmw (fun z142 e143 => ?_)
                            refine fz_callV (d' := 6) (M' := mX11_tries) (As := [fz_i pe, fz_i (h 55 (x25.toNat)), fz_i z116, fz_i 2, fz_i z142]) (st := []) kX11_tries rfl rfl vX11_tries rfl rfl rfl rfl (Nat.le_of_ble_eq_true rfl) (Nat.le_of_ble_eq_true rfl) (by decide) (sX11_tries_2 H133 hI137 pe (h 55 (x25.toNat)) z116 z142 (by omega)) (fun H144 r145 q146 o147 => ?_)
                            obtain ⟨hI148, hf149, rfl⟩ := q146
                            clear o147
                            have hf150 := fz_fr_tr hf141 hf149 (show fz_su [(53, 54), (53, 55), (74, 99999), (75, 99999), (89, 99999), (90, 99999)] [(53, 54), (53, 55), (74, 99999), (75, 99999), (89, 99999), (90, 99999)] = true from rfl)
                            refine fz_iincN (ls' := [(6, fz_i (x25 + 1)), (8, fz_i z116), (7, fz_i (h 55 (x25.toNat))), (0, fz_r 53), (1, fz_i pe), (2, fz_i t), (3, fz_i hr), (4, fz_i 1), (5, fz_i su)]) kX11_tries rfl (by decide) rfl (by omega) rfl ?_
                            refine fz_goto (tgt := 79) kX11_tries rfl (by decide) ?_
                            refine fz_sub (fz_pk_sub (ls' := [(6, fz_i (x25 + 1)), (0, fz_r 53), (1, fz_i pe), (2, fz_i t), (3, fz_i hr), (4, fz_i 1), (5, fz_i su)]) [0, 3, 4, 5, 6, 7, 8] rfl) ?_
                            exact ih31 (x25 + 1) H144 hI148 hf150 (by omega) (by omega)
                          · refine fz_goto (tgt := 211) kX11_tries rfl (by decide) ?_
                            refine fz_iincN (ls' := [(6, fz_i (x25 + 1)), (8, fz_i z116), (7, fz_i (h 55 (x25.toNat))), (0, fz_r 53), (1, fz_i pe), (2, fz_i t), (3, fz_i hr), (4, fz_i 1), (5, fz_i su)]) kX11_tries rfl (by decide) rfl (by omega) rfl ?_
                            refine fz_goto (tgt := 79) kX11_tries rfl (by decide) ?_
                            refine fz_sub (fz_pk_sub (ls' := [(6, fz_i (x25 + 1)), (0, fz_r 53), (1, fz_i pe), (2, fz_i t), (3, fz_i hr), (4, fz_i 1), (5, fz_i su)]) [0, 3, 4, 5, 6, 7, 8] rfl) ?_
                            exact ih31 (x25 + 1) H119 hI123 hf127 (by omega) (by omega)
                      · refine fz_aload_n kX11_tries rfl rfl ?_
                        refine fz_getR (t := 56) kX11_tries rfl rfl ?_
                        refine fz_iload kX11_tries rfl rfl ?_
                        refine fz_ialdV (n := 12) (v := h 56 (x25.toNat)) kX11_tries rfl rfl (by omega) (by omega) (hf28 56 _ rfl) ?_
                        refine fz_goto (tgt := 141) kX11_tries rfl (by decide) ?_
                        refine fz_istore (ls' := [(7, fz_i (h 56 (x25.toNat))), (6, fz_i x25), (0, fz_r 53), (1, fz_i pe), (2, fz_i t), (3, fz_i hr), (4, fz_i 1), (5, fz_i su)]) kX11_tries rfl (by decide) rfl ?_
                        refine fz_iload_n kX11_tries rfl rfl ?_
                        refine fz_aload_n kX11_tries rfl rfl ?_
                        refine fz_getR (t := 57) kX11_tries rfl rfl ?_
                        refine fz_iload kX11_tries rfl rfl ?_
                        refine fz_ialdV (n := 12) (v := h 57 (x25.toNat)) kX11_tries rfl rfl (by omega) (by omega) (hf28 57 _ rfl) ?_
                        have b151 : 0 ≤ h 57 (x25.toNat) ∧ h 57 (x25.toNat) ≤ 24 := hI.1 57 _
                        refine fz_iadd kX11_tries rfl ?_
                        refine fz_nmw (fun z152 e153 => ?_)
                        refine fz_istore (ls' := [(8, fz_i z152), (7, fz_i (h 56 (x25.toNat))), (6, fz_i x25), (0, fz_r 53), (1, fz_i pe), (2, fz_i t), (3, fz_i hr), (4, fz_i 1), (5, fz_i su)]) kX11_tries rfl (by decide) rfl ?_
                        refine fz_iload kX11_tries rfl rfl ?_
                        refine fz_sipush ⟨by decide, by decide⟩ kX11_tries rfl ?_
                        refine fz_icmp_gt (tgt := 211) kX11_tries rfl (by decide) (fun c154 => ?_) (fun c154 => ?_)
                        · refine fz_iincN (ls' := [(6, fz_i (x25 + 1)), (8, fz_i z152), (7, fz_i (h 56 (x25.toNat))), (0, fz_r 53), (1, fz_i pe), (2, fz_i t), (3, fz_i hr), (4, fz_i 1), (5, fz_i su)]) kX11_tries rfl (by decide) rfl (by omega) rfl ?_
                          refine fz_goto (tgt := 79) kX11_tries rfl (by decide) ?_
                          refine fz_sub (fz_pk_sub (ls' := [(6, fz_i (x25 + 1)), (0, fz_r 53), (1, fz_i pe), (2, fz_i t), (3, fz_i hr), (4, fz_i 1), (5, fz_i su)]) [0, 3, 4, 5, 6, 7, 8] rfl) ?_
                          exact ih31 (x25 + 1) H26 hI27 hf28 (by omega) (by omega)
                        · refine fz_aload_n kX11_tries rfl rfl ?_
                          refine fz_iload_n kX11_tries rfl rfl ?_
                          refine fz_iload kX11_tries rfl rfl ?_
                          refine fz_iload kX11_tries rfl rfl ?_
                          refine fz_callV (d' := 4) (M' := mX11_isArrested) (As := [fz_i pe, fz_i (h 56 (x25.toNat)), fz_i z152]) (st := []) kX11_tries rfl rfl vX11_isArrested rfl rfl rfl rfl (Nat.le_of_ble_eq_true rfl) (Nat.le_of_ble_eq_true rfl) (by decide) (sX11_isArrested H26 hI27 pe (h 56 (x25.toNat)) z152 (by omega)) (fun H155 r156 q157 o158 => ?_)
                          obtain ⟨hI159, hf160, y161, rfl, p162⟩ := q157
                          clear o158
                          have hf163 := fz_fr_tr hf28 hf160 (show fz_su [(74, 99999), (75, 99999)] [(53, 54), (53, 55), (74, 99999), (75, 99999), (89, 99999), (90, 99999)] = true from rfl)
                          refine fz_if_eq (tgt := 177) kX11_tries rfl (by decide) (fun c164 => ?_) (fun c164 => ?_)
                          · refine fz_aload_n kX11_tries rfl rfl ?_
                            refine fz_getR (t := 90) kX11_tries rfl rfl ?_
                            refine fz_iload kX11_tries rfl rfl ?_
                            refine fz_iload kX11_tries rfl rfl ?_
                            refine fz_iast (n := 4) kX11_tries rfl rfl (by omega) (by omega) ?_
                            refine fz_nmu (S := [(53, 54), (53, 55), (74, 99999), (75, 99999), (89, 99999), (90, 99999)]) (h0 := h) (fz_Iv_up hI159 (by decide) (show 0 ≤ (h 56 (x25.toNat)) by omega) (show (h 56 (x25.toNat)) ≤ 7 by omega)) (fz_fr_up hf163 rfl) (fun H165 hI166 hf167 e168 => ?_)
                            clear e168
                            refine fz_aload_n kX11_tries rfl rfl ?_
                            refine fz_iload_n kX11_tries rfl rfl ?_
                            refine fz_iload kX11_tries rfl rfl ?_
                            refine fz_iload kX11_tries rfl rfl ?_
                            refine fz_iload kX11_tries rfl rfl ?_
                            refine fz_iconst ⟨by decide, by decide⟩ kX11_tries rfl ?_
                            refine fz_iaddN kX11_tries rfl ⟨by decide, by decide⟩ ?_
                            refine fz_eqi (y := 2) rfl ?_
                            refine fz_iload kX11_tries rfl rfl ?_
                            refine fz_aload_n kX11_tries rfl rfl ?_
                            refine fz_iload_n kX11_tries rfl rfl ?_
                            refine fz_iload kX11_tries rfl rfl ?_
                            refine fz_iload kX11_tries rfl rfl ?_
                            refine fz_callV (d' := 4) (M' := mX11_receivedIn) (As := [fz_i pe, fz_i (h 56 (x25.toNat)), fz_i z152]) (st := [fz_i su, fz_i 2, fz_i z152, fz_i (h 56 (x25.toNat)), fz_i pe, fz_r 53]) kX11_tries rfl rfl vX11_receivedIn rfl rfl rfl rfl (Nat.le_of_ble_eq_true rfl) (Nat.le_of_ble_eq_true rfl) (by decide) (sX11_receivedIn H165 hI166 pe (h 56 (x25.toNat)) z152 (by omega)) (fun H169 r170 q171 o172 => ?_)
                            obtain ⟨hI173, hf174, y176, rfl, f175⟩ := q171
                            clear o172
                            have hf177 := fz_fr_tr hf167 hf174 (show fz_su [(74, 99999), (75, 99999)] [(53, 54), (53, 55), (74, 99999), (75, 99999), (89, 99999), (90, 99999)] = true from rfl)
                            refine fz_iadd kX11_tries rfl ?_
                            refine fz_nmw (fun z178 e179 => ?_)
                            refine fz_callV (d' := 6) (M' := mX11_tries) (As := [fz_i pe, fz_i (h 56 (x25.toNat)), fz_i z152, fz_i 2, fz_i z178]) (st := []) kX11_tries rfl rfl vX11_tries rfl rfl rfl rfl (Nat.le_of_ble_eq_true rfl) (Nat.le_of_ble_eq_true rfl) (by decide) (sX11_tries_2 H169 hI173 pe (h 56 (x25.toNat)) z152 z178 (by omega)) (fun H180 r181 q182 o183 => ?_)
                            obtain ⟨hI184, hf185, rfl⟩ := q182
                            clear o183
                            have hf186 := fz_fr_tr hf177 hf185 (show fz_su [(53, 54), (53, 55), (74, 99999), (75, 99999), (89, 99999), (90, 99999)] [(53, 54), (53, 55), (74, 99999), (75, 99999), (89, 99999), (90, 99999)] = true from rfl)
                            refine fz_iincN (ls' := [(6, fz_i (x25 + 1)), (8, fz_i z152), (7, fz_i (h 56 (x25.toNat))), (0, fz_r 53), (1, fz_i pe), (2, fz_i t), (3, fz_i hr), (4, fz_i 1), (5, fz_i su)]) kX11_tries rfl (by decide) rfl (by omega) rfl ?_
                            refine fz_goto (tgt := 79) kX11_tries rfl (by decide) ?_
                            refine fz_sub (fz_pk_sub (ls' := [(6, fz_i (x25 + 1)), (0, fz_r 53), (1, fz_i pe), (2, fz_i t), (3, fz_i hr), (4, fz_i 1), (5, fz_i su)]) [0, 3, 4, 5, 6, 7, 8] rfl) ?_
                            exact ih31 (x25 + 1) H180 hI184 hf186 (by omega) (by omega)
                          · refine fz_goto (tgt := 211) kX11_tries rfl (by decide) ?_
                            refine fz_iincN (ls' := [(6, fz_i (x25 + 1)), (8, fz_i z152), (7, fz_i (h 56 (x25.toNat))), (0, fz_r 53), (1, fz_i pe), (2, fz_i t), (3, fz_i hr), (4, fz_i 1), (5, fz_i su)]) kX11_tries rfl (by decide) rfl (by omega) rfl ?_
                            refine fz_goto (tgt := 79) kX11_tries rfl (by decide) ?_
                            refine fz_sub (fz_pk_sub (ls' := [(6, fz_i (x25 + 1)), (0, fz_r 53), (1, fz_i pe), (2, fz_i t), (3, fz_i hr), (4, fz_i 1), (5, fz_i su)]) [0, 3, 4, 5, 6, 7, 8] rfl) ?_
                            exact ih31 (x25 + 1) H155 hI159 hf163 (by omega) (by omega)
                    · refine fz_goto (tgt := 211) kX11_tries rfl (by decide) ?_
                      refine fz_iincN (ls' := [(6, fz_i (x25 + 1)), (0, fz_r 53), (1, fz_i pe), (2, fz_i t), (3, fz_i hr), (4, fz_i 1), (5, fz_i su)]) kX11_tries rfl (by decide) rfl (by omega) rfl ?_
                      refine fz_goto (tgt := 79) kX11_tries rfl (by decide) ?_
                      exact ih31 (x25 + 1) H26 hI27 hf28 (by omega) (by omega)
            exact lp30 _ 0 H15 hI16 hf17 (by omega) (Nat.lt_succ_self _)
          · exfalso; omega
        · refine fz_aload_n kX11_tries rfl rfl ?_
          refine fz_getR (t := 89) kX11_tries rfl rfl ?_
          refine fz_iload kX11_tries rfl rfl ?_
          refine fz_aload_n kX11_tries rfl rfl ?_
          refine fz_getR (t := 90) kX11_tries rfl rfl ?_
          refine fz_iload kX11_tries rfl rfl ?_
          obtain ⟨v187, e188⟩ : ∃ z, H15 90 (x14.toNat) = z := ⟨_, rfl⟩
          refine fz_ialdV (n := 4) (v := v187) kX11_tries rfl rfl (by omega) (by omega) e188 ?_
          have b189 : 0 ≤ v187 ∧ v187 ≤ 7 := by rw [← e188]; exact hI16.1 90 _
          refine fz_iast (n := 4) kX11_tries rfl rfl (by omega) (by omega) ?_
          refine fz_nmu (S := [(53, 54), (53, 55), (74, 99999), (75, 99999), (89, 99999), (90, 99999)]) (h0 := h) (fz_Iv_up hI16 (by decide) (show 0 ≤ v187 by omega) (show v187 ≤ 7 by omega)) (fz_fr_up hf17 rfl) (fun H190 hI191 hf192 e193 => ?_)
          clear e193
          refine fz_iincN (ls' := [(6, fz_i (x14 + 1)), (0, fz_r 53), (1, fz_i pe), (2, fz_i t), (3, fz_i hr), (4, fz_i 1), (5, fz_i su)]) kX11_tries rfl (by decide) rfl (by omega) rfl ?_
          refine fz_goto (tgt := 42) kX11_tries rfl (by decide) ?_
          exact ih20 (x14 + 1) H190 hI191 hf192 (by omega) (by omega)
    exact lp19 _ 0 H8 hI9 hf10 (by omega) (Nat.lt_succ_self _)
  · refine fz_iload kX11_tries rfl rfl ?_
    refine fz_aload_n kX11_tries rfl rfl ?_
    refine fz_getV (v := h 53 54) kX11_tries rfl rfl rfl ?_
    refine fz_icmp_ne (tgt := 69) kX11_tries rfl (by decide) (fun c194 => ?_) (fun c194 => ?_)
    · refine fz_iload kX11_tries rfl rfl ?_
      refine fz_iconst ⟨by decide, by decide⟩ kX11_tries rfl ?_
      refine fz_icmp_ne (tgt := 76) kX11_tries rfl (by decide) (fun c195 => ?_) (fun c195 => ?_)
      · refine fz_iconst ⟨by decide, by decide⟩ kX11_tries rfl ?_
        refine fz_istore (ls' := [(6, fz_i 0), (0, fz_r 53), (1, fz_i pe), (2, fz_i t), (3, fz_i hr), (4, fz_i 1), (5, fz_i su)]) kX11_tries rfl (by decide) rfl ?_
        have lp201 : ∀ (n200 : Nat) (x196 : Int) (H197 : fz_H), fz_Iv H197 → fz_fr [(53, 54), (53, 55), (74, 99999), (75, 99999), (89, 99999), (90, 99999)] h H197 → (0 ≤ x196 ∧ x196 ≤ 2147483647) → ((h 53 2) - x196).toNat < n200 → fz_R 7 mX11_tries 79 [(6, fz_i x196), (0, fz_r 53), (1, fz_i pe), (2, fz_i t), (3, fz_i hr), (4, fz_i 1), (5, fz_i su)] [] H197 (qX11_tries_1 h pe t hr su) := by
          intro n200
          induction n200 with
          | zero => intro x196 H197 hI198 hf199 hv204 hm203; exact absurd hm203 (by omega)
          | succ n200 ih202 =>
            intro x196 H197 hI198 hf199 hv204 hm203
            refine fz_iload kX11_tries rfl rfl ?_
            refine fz_aload_n kX11_tries rfl rfl ?_
            refine fz_getV (v := h 53 2) kX11_tries rfl rfl (hf199 53 2 rfl) ?_
            have b205 : 0 ≤ h 53 2 ∧ h 53 2 ≤ 12 := hI.1 53 _
            refine fz_icmp_ge (tgt := 217) kX11_tries rfl (by decide) (fun c206 => ?_) (fun c206 => ?_)
            · exact fz_vret kX11_tries rfl rfl ⟨hI198, hf199, rfl⟩
            · refine fz_aload_n kX11_tries rfl rfl ?_
              refine fz_getR (t := 55) kX11_tries rfl rfl ?_
              refine fz_iload kX11_tries rfl rfl ?_
              refine fz_ialdV (n := 12) (v := h 55 (x196.toNat)) kX11_tries rfl rfl (by omega) (by omega) (hf199 55 _ rfl) ?_
              have b207 : 0 ≤ h 55 (x196.toNat) ∧ h 55 (x196.toNat) ≤ 7 := hI.1 55 _
              refine fz_iload_n kX11_tries rfl rfl ?_
              refine fz_icmp_eq (tgt := 113) kX11_tries rfl (by decide) (fun c208 => ?_) (fun c208 => ?_)
              · refine fz_aload_n kX11_tries rfl rfl ?_
                refine fz_getR (t := 55) kX11_tries rfl rfl ?_
                refine fz_iload kX11_tries rfl rfl ?_
                refine fz_ialdV (n := 12) (v := h 55 (x196.toNat)) kX11_tries rfl rfl (by omega) (by omega) (hf199 55 _ rfl) ?_
                refine fz_iload_n kX11_tries rfl rfl ?_
                refine fz_icmp_ne (tgt := 134) kX11_tries rfl (by decide) (fun c209 => ?_) (fun c209 => ?_)
                · refine fz_aload_n kX11_tries rfl rfl ?_
                  refine fz_getR (t := 55) kX11_tries rfl rfl ?_
                  refine fz_iload kX11_tries rfl rfl ?_
                  refine fz_ialdV (n := 12) (v := h 55 (x196.toNat)) kX11_tries rfl rfl (by omega) (by omega) (hf199 55 _ rfl) ?_
                  refine fz_istore (ls' := [(7, fz_i (h 55 (x196.toNat))), (6, fz_i x196), (0, fz_r 53), (1, fz_i pe), (2, fz_i t), (3, fz_i hr), (4, fz_i 1), (5, fz_i su)]) kX11_tries rfl (by decide) rfl ?_
                  refine fz_iload_n kX11_tries rfl rfl ?_
                  refine fz_aload_n kX11_tries rfl rfl ?_
                  refine fz_getR (t := 57) kX11_tries rfl rfl ?_
                  refine fz_iload kX11_tries rfl rfl ?_
                  refine fz_ialdV (n := 12) (v := h 57 (x196.toNat)) kX11_tries rfl rfl (by omega) (by omega) (hf199 57 _ rfl) ?_
                  have b210 : 0 ≤ h 57 (x196.toNat) ∧ h 57 (x196.toNat) ≤ 24 := hI.1 57 _
                  refine fz_iadd kX11_tries rfl ?_
                  refine fz_nmw (fun z211 e212 => ?_)
                  refine fz_istore (ls' := [(8, fz_i z211), (7, fz_i (h 55 (x196.toNat))), (6, fz_i x196), (0, fz_r 53), (1, fz_i pe), (2, fz_i t), (3, fz_i hr), (4, fz_i 1), (5, fz_i su)]) kX11_tries rfl (by decide) rfl ?_
                  refine fz_iload kX11_tries rfl rfl ?_
                  refine fz_sipush ⟨by decide, by decide⟩ kX11_tries rfl ?_
                  refine fz_icmp_gt (tgt := 211) kX11_tries rfl (by decide) (fun c213 => ?_) (fun c213 => ?_)
                  · refine fz_iincN (ls' := [(6, fz_i (x196 + 1)), (8, fz_i z211), (7, fz_i (h 55 (x196.toNat))), (0, fz_r 53), (1, fz_i pe), (2, fz_i t), (3, fz_i hr), (4, fz_i 1), (5, fz_i su)]) kX11_tries rfl (by decide) rfl (by omega) rfl ?_
                    refine fz_goto (tgt := 79) kX11_tries rfl (by decide) ?_
                    refine fz_sub (fz_pk_sub (ls' := [(6, fz_i (x196 + 1)), (0, fz_r 53), (1, fz_i pe), (2, fz_i t), (3, fz_i hr), (4, fz_i 1), (5, fz_i su)]) [0, 3, 4, 5, 6, 7, 8] rfl) ?_
                    exact ih202 (x196 + 1) H197 hI198 hf199 (by omega) (by omega)
                  · refine fz_aload_n kX11_tries rfl rfl ?_
                    refine fz_iload_n kX11_tries rfl rfl ?_
                    refine fz_iload kX11_tries rfl rfl ?_
                    refine fz_iload kX11_tries rfl rfl ?_
                    refine fz_callV (d' := 4) (M' := mX11_isArrested) (As := [fz_i pe, fz_i (h 55 (x196.toNat)), fz_i z211]) (st := []) kX11_tries rfl rfl vX11_isArrested rfl rfl rfl rfl (Nat.le_of_ble_eq_true rfl) (Nat.le_of_ble_eq_true rfl) (by decide) (sX11_isArrested H197 hI198 pe (h 55 (x196.toNat)) z211 (by omega)) (fun H214 r215 q216 o217 => ?_)
                    obtain ⟨hI218, hf219, y220, rfl, p221⟩ := q216
                    clear o217
                    have hf222 := fz_fr_tr hf199 hf219 (show fz_su [(74, 99999), (75, 99999)] [(53, 54), (53, 55), (74, 99999), (75, 99999), (89, 99999), (90, 99999)] = true from rfl)
                    refine fz_if_eq (tgt := 177) kX11_tries rfl (by decide) (fun c223 => ?_) (fun c223 => ?_)
                    · refine fz_aload_n kX11_tries rfl rfl ?_
                      refine fz_getR (t := 90) kX11_tries rfl rfl ?_
                      refine fz_iload kX11_tries rfl rfl ?_
                      refine fz_iload kX11_tries rfl rfl ?_
                      refine fz_iast (n := 4) kX11_tries rfl rfl (by omega) (by omega) ?_
                      refine fz_nmu (S := [(53, 54), (53, 55), (74, 99999), (75, 99999), (89, 99999), (90, 99999)]) (h0 := h) (fz_Iv_up hI218 (by decide) (show 0 ≤ (h 55 (x196.toNat)) by omega) (show (h 55 (x196.toNat)) ≤ 7 by omega)) (fz_fr_up hf222 rfl) (fun H224 hI225 hf226 e227 => ?_)
                      clear e227
                      refine fz_aload_n kX11_tries rfl rfl ?_
                      refine fz_iload_n kX11_tries rfl rfl ?_
                      refine fz_iload kX11_tries rfl rfl ?_
                      refine fz_iload kX11_tries rfl rfl ?_
                      refine fz_iload kX11_tries rfl rfl ?_
                      refine fz_iconst ⟨by decide, by decide⟩ kX11_tries rfl ?_
                      refine fz_iaddN kX11_tries rfl ⟨by decide, by decide⟩ ?_
                      refine fz_eqi (y := 2) rfl ?_
                      refine fz_iload kX11_tries rfl rfl ?_
                      refine fz_aload_n kX11_tries rfl rfl ?_
                      refine fz_iload_n kX11_tries rfl rfl ?_
                      refine fz_iload kX11_tries rfl rfl ?_
                      refine fz_iload kX11_tries rfl rfl ?_
                      refine fz_callV (d' := 4) (M' := mX11_receivedIn) (As := [fz_i pe, fz_i (h 55 (x196.toNat)), fz_i z211]) (st := [fz_i su, fz_i 2, fz_i z211, fz_i (h 55 (x196.toNat)), fz_i pe, fz_r 53]) kX11_tries rfl rfl vX11_receivedIn rfl rfl rfl rfl (Nat.le_of_ble_eq_true rfl) (Nat.le_of_ble_eq_true rfl) (by decide) (sX11_receivedIn H224 hI225 pe (h 55 (x196.toNat)) z211 (by omega)) (fun H228 r229 q230 o231 => ?_)
                      obtain ⟨hI232, hf233, y235, rfl, f234⟩ := q230
                      clear o231
                      have hf236 := fz_fr_tr hf226 hf233 (show fz_su [(74, 99999), (75, 99999)] [(53, 54), (53, 55), (74, 99999), (75, 99999), (89, 99999), (90, 99999)] = true from rfl)
                      refine fz_iadd kX11_tries rfl ?_
                      refine fz_nmw (fun z237 e238 => ?_)
                      refine fz_callV (d' := 6) (M' := mX11_tries) (As := [fz_i pe, fz_i (h 55 (x196.toNat)), fz_i z211, fz_i 2, fz_i z237]) (st := []) kX11_tries rfl rfl vX11_tries rfl rfl rfl rfl (Nat.le_of_ble_eq_true rfl) (Nat.le_of_ble_eq_true rfl) (by decide) (sX11_tries_2 H228 hI232 pe (h 55 (x196.toNat)) z211 z237 (by omega)) (fun H239 r240 q241 o242 => ?_)
                      obtain ⟨hI243, hf244, rfl⟩ := q241
                      clear o242
                      have hf245 := fz_fr_tr hf236 hf244 (show fz_su [(53, 54), (53, 55), (74, 99999), (75, 99999), (89, 99999), (90, 99999)] [(53, 54), (53, 55), (74, 99999), (75, 99999), (89, 99999), (90, 99999)] = true from rfl)
                      refine fz_iincN (ls' := [(6, fz_i (x196 + 1)), (8, fz_i z211), (7, fz_i (h 55 (x196.toNat))), (0, fz_r 53), (1, fz_i pe), (2, fz_i t), (3, fz_i hr), (4, fz_i 1), (5, fz_i su)]) kX11_tries rfl (by decide) rfl (by omega) rfl ?_
                      refine fz_goto (tgt := 79) kX11_tries rfl (by decide) ?_
                      refine fz_sub (fz_pk_sub (ls' := [(6, fz_i (x196 + 1)), (0, fz_r 53), (1, fz_i pe), (2, fz_i t), (3, fz_i hr), (4, fz_i 1), (5, fz_i su)]) [0, 3, 4, 5, 6, 7, 8] rfl) ?_
                      exact ih202 (x196 + 1) H239 hI243 hf245 (by omega) (by omega)
                    · refine fz_goto (tgt := 211) kX11_tries rfl (by decide) ?_
                      refine fz_iincN (ls' := [(6, fz_i (x196 + 1)), (8, fz_i z211), (7, fz_i (h 55 (x196.toNat))), (0, fz_r 53), (1, fz_i pe), (2, fz_i t), (3, fz_i hr), (4, fz_i 1), (5, fz_i su)]) kX11_tries rfl (by decide) rfl (by omega) rfl ?_
                      refine fz_goto (tgt := 79) kX11_tries rfl (by decide) ?_
                      refine fz_sub (fz_pk_sub (ls' := [(6, fz_i (x196 + 1)), (0, fz_r 53), (1, fz_i pe), (2, fz_i t), (3, fz_i hr), (4, fz_i 1), (5, fz_i su)]) [0, 3, 4, 5, 6, 7, 8] rfl) ?_
                      exact ih202 (x196 + 1) H214 hI218 hf222 (by omega) (by omega)
                · refine fz_aload_n kX11_tries rfl rfl ?_
                  refine fz_getR (t := 56) kX11_tries rfl rfl ?_
                  refine fz_iload kX11_tries rfl rfl ?_
                  refine fz_ialdV (n := 12) (v := h 56 (x196.toNat)) kX11_tries rfl rfl (by omega) (by omega) (hf199 56 _ rfl) ?_
                  have b246 : 0 ≤ h 56 (x196.toNat) ∧ h 56 (x196.toNat) ≤ 7 := hI.1 56 _
                  refine fz_goto (tgt := 141) kX11_tries rfl (by decide) ?_
                  refine fz_istore (ls' := [(7, fz_i (h 56 (x196.toNat))), (6, fz_i x196), (0, fz_r 53), (1, fz_i pe), (2, fz_i t), (3, fz_i hr), (4, fz_i 1), (5, fz_i su)]) kX11_tries rfl (by decide) rfl ?_
                  refine fz_iload_n kX11_tries rfl rfl ?_
                  refine fz_aload_n kX11_tries rfl rfl ?_
                  refine fz_getR (t := 57) kX11_tries rfl rfl ?_
                  refine fz_iload kX11_tries rfl rfl ?_
                  refine fz_ialdV (n := 12) (v := h 57 (x196.toNat)) kX11_tries rfl rfl (by omega) (by omega) (hf199 57 _ rfl) ?_
                  have b247 : 0 ≤ h 57 (x196.toNat) ∧ h 57 (x196.toNat) ≤ 24 := hI.1 57 _
                  refine fz_iadd kX11_tries rfl ?_
                  refine fz_nmw (fun z248 e249 => ?_)
                  refine fz_istore (ls' := [(8, fz_i z248), (7, fz_i (h 56 (x196.toNat))), (6, fz_i x196), (0, fz_r 53), (1, fz_i pe), (2, fz_i t), (3, fz_i hr), (4, fz_i 1), (5, fz_i su)]) kX11_tries rfl (by decide) rfl ?_
                  refine fz_iload kX11_tries rfl rfl ?_
                  refine fz_sipush ⟨by decide, by decide⟩ kX11_tries rfl ?_
                  refine fz_icmp_gt (tgt := 211) kX11_tries rfl (by decide) (fun c250 => ?_) (fun c250 => ?_)
                  · refine fz_iincN (ls' := [(6, fz_i (x196 + 1)), (8, fz_i z248), (7, fz_i (h 56 (x196.toNat))), (0, fz_r 53), (1, fz_i pe), (2, fz_i t), (3, fz_i hr), (4, fz_i 1), (5, fz_i su)]) kX11_tries rfl (by decide) rfl (by omega) rfl ?_
                    refine fz_goto (tgt := 79) kX11_tries rfl (by decide) ?_
                    refine fz_sub (fz_pk_sub (ls' := [(6, fz_i (x196 + 1)), (0, fz_r 53), (1, fz_i pe), (2, fz_i t), (3, fz_i hr), (4, fz_i 1), (5, fz_i su)]) [0, 3, 4, 5, 6, 7, 8] rfl) ?_
                    exact ih202 (x196 + 1) H197 hI198 hf199 (by omega) (by omega)
                  · refine fz_aload_n kX11_tries rfl rfl ?_
                    refine fz_iload_n kX11_tries rfl rfl ?_
                    refine fz_iload kX11_tries rfl rfl ?_
                    refine fz_iload kX11_tries rfl rfl ?_
                    refine fz_callV (d' := 4) (M' := mX11_isArrested) (As := [fz_i pe, fz_i (h 56 (x196.toNat)), fz_i z248]) (st := []) kX11_tries rfl rfl vX11_isArrested rfl rfl rfl rfl (Nat.le_of_ble_eq_true rfl) (Nat.le_of_ble_eq_true rfl) (by decide) (sX11_isArrested H197 hI198 pe (h 56 (x196.toNat)) z248 (by omega)) (fun H251 r252 q253 o254 => ?_)
                    obtain ⟨hI255, hf256, y257, rfl, p258⟩ := q253
                    clear o254
                    have hf259 := fz_fr_tr hf199 hf256 (show fz_su [(74, 99999), (75, 99999)] [(53, 54), (53, 55), (74, 99999), (75, 99999), (89, 99999), (90, 99999)] = true from rfl)
                    refine fz_if_eq (tgt := 177) kX11_tries rfl (by decide) (fun c260 => ?_) (fun c260 => ?_)
                    · refine fz_aload_n kX11_tries rfl rfl ?_
                      refine fz_getR (t := 90) kX11_tries rfl rfl ?_
                      refine fz_iload kX11_tries rfl rfl ?_
                      refine fz_iload kX11_tries rfl rfl ?_
                      refine fz_iast (n := 4) kX11_tries rfl rfl (by omega) (by omega) ?_
                      refine fz_nmu (S := [(53, 54), (53, 55), (74, 99999), (75, 99999), (89, 99999), (90, 99999)]) (h0 := h) (fz_Iv_up hI255 (by decide) (show 0 ≤ (h 56 (x196.toNat)) by omega) (show (h 56 (x196.toNat)) ≤ 7 by omega)) (fz_fr_up hf259 rfl) (fun H261 hI262 hf263 e264 => ?_)
                      clear e264
                      refine fz_aload_n kX11_tries rfl rfl ?_
                      refine fz_iload_n kX11_tries rfl rfl ?_
                      refine fz_iload kX11_tries rfl rfl ?_
                      refine fz_iload kX11_tries rfl rfl ?_
                      refine fz_iload kX11_tries rfl rfl ?_
                      refine fz_iconst ⟨by decide, by decide⟩ kX11_tries rfl ?_
                      refine fz_iaddN kX11_tries rfl ⟨by decide, by decide⟩ ?_
                      refine fz_eqi (y := 2) rfl ?_
                      refine fz_iload kX11_tries rfl rfl ?_
                      refine fz_aload_n kX11_tries rfl rfl ?_
                      refine fz_iload_n kX11_tries rfl rfl ?_
                      refine fz_iload kX11_tries rfl rfl ?_
                      refine fz_iload kX11_tries rfl rfl ?_
                      refine fz_callV (d' := 4) (M' := mX11_receivedIn) (As := [fz_i pe, fz_i (h 56 (x196.toNat)), fz_i z248]) (st := [fz_i su, fz_i 2, fz_i z248, fz_i (h 56 (x196.toNat)), fz_i pe, fz_r 53]) kX11_tries rfl rfl vX11_receivedIn rfl rfl rfl rfl (Nat.le_of_ble_eq_true rfl) (Nat.le_of_ble_eq_true rfl) (by decide) (sX11_receivedIn H261 hI262 pe (h 56 (x196.toNat)) z248 (by omega)) (fun H265 r266 q267 o268 => ?_)
                      obtain ⟨hI269, hf270, y272, rfl, f271⟩ := q267
                      clear o268
                      have hf273 := fz_fr_tr hf263 hf270 (show fz_su [(74, 99999), (75, 99999)] [(53, 54), (53, 55), (74, 99999), (75, 99999), (89, 99999), (90, 99999)] = true from rfl)
                      refine fz_iadd kX11_tries rfl ?_
                      refine fz_nmw (fun z274 e275 => ?_)
                      refine fz_callV (d' := 6) (M' := mX11_tries) (As := [fz_i pe, fz_i (h 56 (x196.toNat)), fz_i z248, fz_i 2, fz_i z274]) (st := []) kX11_tries rfl rfl vX11_tries rfl rfl rfl rfl (Nat.le_of_ble_eq_true rfl) (Nat.le_of_ble_eq_true rfl) (by decide) (sX11_tries_2 H265 hI269 pe (h 56 (x196.toNat)) z248 z274 (by omega)) (fun H276 r277 q278 o279 => ?_)
                      obtain ⟨hI280, hf281, rfl⟩ := q278
                      clear o279
                      have hf282 := fz_fr_tr hf273 hf281 (show fz_su [(53, 54), (53, 55), (74, 99999), (75, 99999), (89, 99999), (90, 99999)] [(53, 54), (53, 55), (74, 99999), (75, 99999), (89, 99999), (90, 99999)] = true from rfl)
                      refine fz_iincN (ls' := [(6, fz_i (x196 + 1)), (8, fz_i z248), (7, fz_i (h 56 (x196.toNat))), (0, fz_r 53), (1, fz_i pe), (2, fz_i t), (3, fz_i hr), (4, fz_i 1), (5, fz_i su)]) kX11_tries rfl (by decide) rfl (by omega) rfl ?_
                      refine fz_goto (tgt := 79) kX11_tries rfl (by decide) ?_
                      refine fz_sub (fz_pk_sub (ls' := [(6, fz_i (x196 + 1)), (0, fz_r 53), (1, fz_i pe), (2, fz_i t), (3, fz_i hr), (4, fz_i 1), (5, fz_i su)]) [0, 3, 4, 5, 6, 7, 8] rfl) ?_
                      exact ih202 (x196 + 1) H276 hI280 hf282 (by omega) (by omega)
                    · refine fz_goto (tgt := 211) kX11_tries rfl (by decide) ?_
                      refine fz_iincN (ls' := [(6, fz_i (x196 + 1)), (8, fz_i z248), (7, fz_i (h 56 (x196.toNat))), (0, fz_r 53), (1, fz_i pe), (2, fz_i t), (3, fz_i hr), (4, fz_i 1), (5, fz_i su)]) kX11_tries rfl (by decide) rfl (by omega) rfl ?_
                      refine fz_goto (tgt := 79) kX11_tries rfl (by decide) ?_
                      refine fz_sub (fz_pk_sub (ls' := [(6, fz_i (x196 + 1)), (0, fz_r 53), (1, fz_i pe), (2, fz_i t), (3, fz_i hr), (4, fz_i 1), (5, fz_i su)]) [0, 3, 4, 5, 6, 7, 8] rfl) ?_
                      exact ih202 (x196 + 1) H251 hI255 hf259 (by omega) (by omega)
              · refine fz_aload_n kX11_tries rfl rfl ?_
                refine fz_getR (t := 56) kX11_tries rfl rfl ?_
                refine fz_iload kX11_tries rfl rfl ?_
                refine fz_ialdV (n := 12) (v := h 56 (x196.toNat)) kX11_tries rfl rfl (by omega) (by omega) (hf199 56 _ rfl) ?_
                have b283 : 0 ≤ h 56 (x196.toNat) ∧ h 56 (x196.toNat) ≤ 7 := hI.1 56 _
                refine fz_iload_n kX11_tries rfl rfl ?_
                refine fz_icmp_eq (tgt := 113) kX11_tries rfl (by decide) (fun c284 => ?_) (fun c284 => ?_)
                · refine fz_aload_n kX11_tries rfl rfl ?_
                  refine fz_getR (t := 55) kX11_tries rfl rfl ?_
                  refine fz_iload kX11_tries rfl rfl ?_
                  refine fz_ialdV (n := 12) (v := h 55 (x196.toNat)) kX11_tries rfl rfl (by omega) (by omega) (hf199 55 _ rfl) ?_
                  refine fz_iload_n kX11_tries rfl rfl ?_
                  refine fz_icmp_ne (tgt := 134) kX11_tries rfl (by decide) (fun c285 => ?_) (fun c285 => ?_)
                  · refine fz_aload_n kX11_tries rfl rfl ?_
                    refine fz_getR (t := 55) kX11_tries rfl rfl ?_
                    refine fz_iload kX11_tries rfl rfl ?_
                    refine fz_ialdV (n := 12) (v := h 55 (x196.toNat)) kX11_tries rfl rfl (by omega) (by omega) (hf199 55 _ rfl) ?_
                    refine fz_istore (ls' := [(7, fz_i (h 55 (x196.toNat))), (6, fz_i x196), (0, fz_r 53), (1, fz_i pe), (2, fz_i t), (3, fz_i hr), (4, fz_i 1), (5, fz_i su)]) kX11_tries rfl (by decide) rfl ?_
                    refine fz_iload_n kX11_tries rfl rfl ?_
                    refine fz_aload_n kX11_tries rfl rfl ?_
                    refine fz_getR (t := 57) kX11_tries rfl rfl ?_
                    refine fz_iload kX11_tries rfl rfl ?_
                    refine fz_ialdV (n := 12) (v := h 57 (x196.toNat)) kX11_tries rfl rfl (by omega) (by omega) (hf199 57 _ rfl) ?_
                    have b286 : 0 ≤ h 57 (x196.toNat) ∧ h 57 (x196.toNat) ≤ 24 := hI.1 57 _
                    refine fz_iadd kX11_tries rfl ?_
                    refine fz_nmw (fun z287 e288 => ?_)
                    refine fz_istore (ls' := [(8, fz_i z287), (7, fz_i (h 55 (x196.toNat))), (6, fz_i x196), (0, fz_r 53), (1, fz_i pe), (2, fz_i t), (3, fz_i hr), (4, fz_i 1), (5, fz_i su)]) kX11_tries rfl (by decide) rfl ?_
                    refine fz_iload kX11_tries rfl rfl ?_
                    refine fz_sipush ⟨by decide, by decide⟩ kX11_tries rfl ?_
                    refine fz_icmp_gt (tgt := 211) kX11_tries rfl (by decide) (fun c289 => ?_) (fun c289 => ?_)
                    · refine fz_iincN (ls' := [(6, fz_i (x196 + 1)), (8, fz_i z287), (7, fz_i (h 55 (x196.toNat))), (0, fz_r 53), (1, fz_i pe), (2, fz_i t), (3, fz_i hr), (4, fz_i 1), (5, fz_i su)]) kX11_tries rfl (by decide) rfl (by omega) rfl ?_
                      refine fz_goto (tgt := 79) kX11_tries rfl (by decide) ?_
                      refine fz_sub (fz_pk_sub (ls' := [(6, fz_i (x196 + 1)), (0, fz_r 53), (1, fz_i pe), (2, fz_i t), (3, fz_i hr), (4, fz_i 1), (5, fz_i su)]) [0, 3, 4, 5, 6, 7, 8] rfl) ?_
                      exact ih202 (x196 + 1) H197 hI198 hf199 (by omega) (by omega)
                    · refine fz_aload_n kX11_tries rfl rfl ?_
                      refine fz_iload_n kX11_tries rfl rfl ?_
                      refine fz_iload kX11_tries rfl rfl ?_
                      refine fz_iload kX11_tries rfl rfl ?_
                      refine fz_callV (d' := 4) (M' := mX11_isArrested) (As := [fz_i pe, fz_i (h 55 (x196.toNat)), fz_i z287]) (st := []) kX11_tries rfl rfl vX11_isArrested rfl rfl rfl rfl (Nat.le_of_ble_eq_true rfl) (Nat.le_of_ble_eq_true rfl) (by decide) (sX11_isArrested H197 hI198 pe (h 55 (x196.toNat)) z287 (by omega)) (fun H290 r291 q292 o293 => ?_)
                      obtain ⟨hI294, hf295, y296, rfl, p297⟩ := q292
                      clear o293
                      have hf298 := fz_fr_tr hf199 hf295 (show fz_su [(74, 99999), (75, 99999)] [(53, 54), (53, 55), (74, 99999), (75, 99999), (89, 99999), (90, 99999)] = true from rfl)
                      refine fz_if_eq (tgt := 177) kX11_tries rfl (by decide) (fun c299 => ?_) (fun c299 => ?_)
                      · refine fz_aload_n kX11_tries rfl rfl ?_
                        refine fz_getR (t := 90) kX11_tries rfl rfl ?_
                        refine fz_iload kX11_tries rfl rfl ?_
                        refine fz_iload kX11_tries rfl rfl ?_
                        refine fz_iast (n := 4) kX11_tries rfl rfl (by omega) (by omega) ?_
                        refine fz_nmu (S := [(53, 54), (53, 55), (74, 99999), (75, 99999), (89, 99999), (90, 99999)]) (h0 := h) (fz_Iv_up hI294 (by decide) (show 0 ≤ (h 55 (x196.toNat)) by omega) (show (h 55 (x196.toNat)) ≤ 7 by omega)) (fz_fr_up hf298 rfl) (fun H300 hI301 hf302 e303 => ?_)
                        clear e303
                        refine fz_aload_n kX11_tries rfl rfl ?_
                        refine fz_iload_n kX11_tries rfl rfl ?_
                        refine fz_iload kX11_tries rfl rfl ?_
                        refine fz_iload kX11_tries rfl rfl ?_
                        refine fz_iload kX11_tries rfl rfl ?_
                        refine fz_iconst ⟨by decide, by decide⟩ kX11_tries rfl ?_
                        refine fz_iaddN kX11_tries rfl ⟨by decide, by decide⟩ ?_
                        refine fz_eqi (y := 2) rfl ?_
                        refine fz_iload kX11_tries rfl rfl ?_
                        refine fz_aload_n kX11_tries rfl rfl ?_
                        refine fz_iload_n kX11_tries rfl rfl ?_
                        refine fz_iload kX11_tries rfl rfl ?_
                        refine fz_iload kX11_tries rfl rfl ?_
                        refine fz_callV (d' := 4) (M' := mX11_receivedIn) (As := [fz_i pe, fz_i (h 55 (x196.toNat)), fz_i z287]) (st := [fz_i su, fz_i 2, fz_i z287, fz_i (h 55 (x196.toNat)), fz_i pe, fz_r 53]) kX11_tries rfl rfl vX11_receivedIn rfl rfl rfl rfl (Nat.le_of_ble_eq_true rfl) (Nat.le_of_ble_eq_true rfl) (by decide) (sX11_receivedIn H300 hI301 pe (h 55 (x196.toNat)) z287 (by omega)) (fun H304 r305 q306 o307 => ?_)
                        obtain ⟨hI308, hf309, y311, rfl, f310⟩ := q306
                        clear o307
                        have hf312 := fz_fr_tr hf302 hf309 (show fz_su [(74, 99999), (75, 99999)] [(53, 54), (53, 55), (74, 99999), (75, 99999), (89, 99999), (90, 99999)] = true from rfl)
                        refine fz_iadd kX11_tries rfl ?_
                        refine fz_nmw (fun z313 e314 => ?_)
                        refine fz_callV (d' := 6) (M' := mX11_tries) (As := [fz_i pe, fz_i (h 55 (x196.toNat)), fz_i z287, fz_i 2, fz_i z313]) (st := []) kX11_tries rfl rfl vX11_tries rfl rfl rfl rfl (Nat.le_of_ble_eq_true rfl) (Nat.le_of_ble_eq_true rfl) (by decide) (sX11_tries_2 H304 hI308 pe (h 55 (x196.toNat)) z287 z313 (by omega)) (fun H315 r316 q317 o318 => ?_)
                        obtain ⟨hI319, hf320, rfl⟩ := q317
                        clear o318
                        have hf321 := fz_fr_tr hf312 hf320 (show fz_su [(53, 54), (53, 55), (74, 99999), (75, 99999), (89, 99999), (90, 99999)] [(53, 54), (53, 55), (74, 99999), (75, 99999), (89, 99999), (90, 99999)] = true from rfl)
                        refine fz_iincN (ls' := [(6, fz_i (x196 + 1)), (8, fz_i z287), (7, fz_i (h 55 (x196.toNat))), (0, fz_r 53), (1, fz_i pe), (2, fz_i t), (3, fz_i hr), (4, fz_i 1), (5, fz_i su)]) kX11_tries rfl (by decide) rfl (by omega) rfl ?_
                        refine fz_goto (tgt := 79) kX11_tries rfl (by decide) ?_
                        refine fz_sub (fz_pk_sub (ls' := [(6, fz_i (x196 + 1)), (0, fz_r 53), (1, fz_i pe), (2, fz_i t), (3, fz_i hr), (4, fz_i 1), (5, fz_i su)]) [0, 3, 4, 5, 6, 7, 8] rfl) ?_
                        exact ih202 (x196 + 1) H315 hI319 hf321 (by omega) (by omega)
                      · refine fz_goto (tgt := 211) kX11_tries rfl (by decide) ?_
                        refine fz_iincN (ls' := [(6, fz_i (x196 + 1)), (8, fz_i z287), (7, fz_i (h 55 (x196.toNat))), (0, fz_r 53), (1, fz_i pe), (2, fz_i t), (3, fz_i hr), (4, fz_i 1), (5, fz_i su)]) kX11_tries rfl (by decide) rfl (by omega) rfl ?_
                        refine fz_goto (tgt := 79) kX11_tries rfl (by decide) ?_
                        refine fz_sub (fz_pk_sub (ls' := [(6, fz_i (x196 + 1)), (0, fz_r 53), (1, fz_i pe), (2, fz_i t), (3, fz_i hr), (4, fz_i 1), (5, fz_i su)]) [0, 3, 4, 5, 6, 7, 8] rfl) ?_
                        exact ih202 (x196 + 1) H290 hI294 hf298 (by omega) (by omega)
                  · refine fz_aload_n kX11_tries rfl rfl ?_
                    refine fz_getR (t := 56) kX11_tries rfl rfl ?_
                    refine fz_iload kX11_tries rfl rfl ?_
                    refine fz_ialdV (n := 12) (v := h 56 (x196.toNat)) kX11_tries rfl rfl (by omega) (by omega) (hf199 56 _ rfl) ?_
                    refine fz_goto (tgt := 141) kX11_tries rfl (by decide) ?_
                    refine fz_istore (ls' := [(7, fz_i (h 56 (x196.toNat))), (6, fz_i x196), (0, fz_r 53), (1, fz_i pe), (2, fz_i t), (3, fz_i hr), (4, fz_i 1), (5, fz_i su)]) kX11_tries rfl (by decide) rfl ?_
                    refine fz_iload_n kX11_tries rfl rfl ?_
                    refine fz_aload_n kX11_tries rfl rfl ?_
                    refine fz_getR (t := 57) kX11_tries rfl rfl ?_
                    refine fz_iload kX11_tries rfl rfl ?_
                    refine fz_ialdV (n := 12) (v := h 57 (x196.toNat)) kX11_tries rfl rfl (by omega) (by omega) (hf199 57 _ rfl) ?_
                    have b322 : 0 ≤ h 57 (x196.toNat) ∧ h 57 (x196.toNat) ≤ 24 := hI.1 57 _
                    refine fz_iadd kX11_tries rfl ?_
                    refine fz_nmw (fun z323 e324 => ?_)
                    refine fz_istore (ls' := [(8, fz_i z323), (7, fz_i (h 56 (x196.toNat))), (6, fz_i x196), (0, fz_r 53), (1, fz_i pe), (2, fz_i t), (3, fz_i hr), (4, fz_i 1), (5, fz_i su)]) kX11_tries rfl (by decide) rfl ?_
                    refine fz_iload kX11_tries rfl rfl ?_
                    refine fz_sipush ⟨by decide, by decide⟩ kX11_tries rfl ?_
                    refine fz_icmp_gt (tgt := 211) kX11_tries rfl (by decide) (fun c325 => ?_) (fun c325 => ?_)
                    · refine fz_iincN (ls' := [(6, fz_i (x196 + 1)), (8, fz_i z323), (7, fz_i (h 56 (x196.toNat))), (0, fz_r 53), (1, fz_i pe), (2, fz_i t), (3, fz_i hr), (4, fz_i 1), (5, fz_i su)]) kX11_tries rfl (by decide) rfl (by omega) rfl ?_
                      refine fz_goto (tgt := 79) kX11_tries rfl (by decide) ?_
                      refine fz_sub (fz_pk_sub (ls' := [(6, fz_i (x196 + 1)), (0, fz_r 53), (1, fz_i pe), (2, fz_i t), (3, fz_i hr), (4, fz_i 1), (5, fz_i su)]) [0, 3, 4, 5, 6, 7, 8] rfl) ?_
                      exact ih202 (x196 + 1) H197 hI198 hf199 (by omega) (by omega)
                    · refine fz_aload_n kX11_tries rfl rfl ?_
                      refine fz_iload_n kX11_tries rfl rfl ?_
                      refine fz_iload kX11_tries rfl rfl ?_
                      refine fz_iload kX11_tries rfl rfl ?_
                      refine fz_callV (d' := 4) (M' := mX11_isArrested) (As := [fz_i pe, fz_i (h 56 (x196.toNat)), fz_i z323]) (st := []) kX11_tries rfl rfl vX11_isArrested rfl rfl rfl rfl (Nat.le_of_ble_eq_true rfl) (Nat.le_of_ble_eq_true rfl) (by decide) (sX11_isArrested H197 hI198 pe (h 56 (x196.toNat)) z323 (by omega)) (fun H326 r327 q328 o329 => ?_)
                      obtain ⟨hI330, hf331, y332, rfl, p333⟩ := q328
                      clear o329
                      have hf334 := fz_fr_tr hf199 hf331 (show fz_su [(74, 99999), (75, 99999)] [(53, 54), (53, 55), (74, 99999), (75, 99999), (89, 99999), (90, 99999)] = true from rfl)
                      refine fz_if_eq (tgt := 177) kX11_tries rfl (by decide) (fun c335 => ?_) (fun c335 => ?_)
                      · refine fz_aload_n kX11_tries rfl rfl ?_
                        refine fz_getR (t := 90) kX11_tries rfl rfl ?_
                        refine fz_iload kX11_tries rfl rfl ?_
                        refine fz_iload kX11_tries rfl rfl ?_
                        refine fz_iast (n := 4) kX11_tries rfl rfl (by omega) (by omega) ?_
                        refine fz_nmu (S := [(53, 54), (53, 55), (74, 99999), (75, 99999), (89, 99999), (90, 99999)]) (h0 := h) (fz_Iv_up hI330 (by decide) (show 0 ≤ (h 56 (x196.toNat)) by omega) (show (h 56 (x196.toNat)) ≤ 7 by omega)) (fz_fr_up hf334 rfl) (fun H336 hI337 hf338 e339 => ?_)
                        clear e339
                        refine fz_aload_n kX11_tries rfl rfl ?_
                        refine fz_iload_n kX11_tries rfl rfl ?_
                        refine fz_iload kX11_tries rfl rfl ?_
                        refine fz_iload kX11_tries rfl rfl ?_
                        refine fz_iload kX11_tries rfl rfl ?_
                        refine fz_iconst ⟨by decide, by decide⟩ kX11_tries rfl ?_
                        refine fz_iaddN kX11_tries rfl ⟨by decide, by decide⟩ ?_
                        refine fz_eqi (y := 2) rfl ?_
                        refine fz_iload kX11_tries rfl rfl ?_
                        refine fz_aload_n kX11_tries rfl rfl ?_
                        refine fz_iload_n kX11_tries rfl rfl ?_
                        refine fz_iload kX11_tries rfl rfl ?_
                        refine fz_iload kX11_tries rfl rfl ?_
                        refine fz_callV (d' := 4) (M' := mX11_receivedIn) (As := [fz_i pe, fz_i (h 56 (x196.toNat)), fz_i z323]) (st := [fz_i su, fz_i 2, fz_i z323, fz_i (h 56 (x196.toNat)), fz_i pe, fz_r 53]) kX11_tries rfl rfl vX11_receivedIn rfl rfl rfl rfl (Nat.le_of_ble_eq_true rfl) (Nat.le_of_ble_eq_true rfl) (by decide) (sX11_receivedIn H336 hI337 pe (h 56 (x196.toNat)) z323 (by omega)) (fun H340 r341 q342 o343 => ?_)
                        obtain ⟨hI344, hf345, y347, rfl, f346⟩ := q342
                        clear o343
                        have hf348 := fz_fr_tr hf338 hf345 (show fz_su [(74, 99999), (75, 99999)] [(53, 54), (53, 55), (74, 99999), (75, 99999), (89, 99999), (90, 99999)] = true from rfl)
                        refine fz_iadd kX11_tries rfl ?_
                        refine fz_nmw (fun z349 e350 => ?_)
                        refine fz_callV (d' := 6) (M' := mX11_tries) (As := [fz_i pe, fz_i (h 56 (x196.toNat)), fz_i z323, fz_i 2, fz_i z349]) (st := []) kX11_tries rfl rfl vX11_tries rfl rfl rfl rfl (Nat.le_of_ble_eq_true rfl) (Nat.le_of_ble_eq_true rfl) (by decide) (sX11_tries_2 H340 hI344 pe (h 56 (x196.toNat)) z323 z349 (by omega)) (fun H351 r352 q353 o354 => ?_)
                        obtain ⟨hI355, hf356, rfl⟩ := q353
                        clear o354
                        have hf357 := fz_fr_tr hf348 hf356 (show fz_su [(53, 54), (53, 55), (74, 99999), (75, 99999), (89, 99999), (90, 99999)] [(53, 54), (53, 55), (74, 99999), (75, 99999), (89, 99999), (90, 99999)] = true from rfl)
                        refine fz_iincN (ls' := [(6, fz_i (x196 + 1)), (8, fz_i z323), (7, fz_i (h 56 (x196.toNat))), (0, fz_r 53), (1, fz_i pe), (2, fz_i t), (3, fz_i hr), (4, fz_i 1), (5, fz_i su)]) kX11_tries rfl (by decide) rfl (by omega) rfl ?_
                        refine fz_goto (tgt := 79) kX11_tries rfl (by decide) ?_
                        refine fz_sub (fz_pk_sub (ls' := [(6, fz_i (x196 + 1)), (0, fz_r 53), (1, fz_i pe), (2, fz_i t), (3, fz_i hr), (4, fz_i 1), (5, fz_i su)]) [0, 3, 4, 5, 6, 7, 8] rfl) ?_
                        exact ih202 (x196 + 1) H351 hI355 hf357 (by omega) (by omega)
                      · refine fz_goto (tgt := 211) kX11_tries rfl (by decide) ?_
                        refine fz_iincN (ls' := [(6, fz_i (x196 + 1)), (8, fz_i z323), (7, fz_i (h 56 (x196.toNat))), (0, fz_r 53), (1, fz_i pe), (2, fz_i t), (3, fz_i hr), (4, fz_i 1), (5, fz_i su)]) kX11_tries rfl (by decide) rfl (by omega) rfl ?_
                        refine fz_goto (tgt := 79) kX11_tries rfl (by decide) ?_
                        refine fz_sub (fz_pk_sub (ls' := [(6, fz_i (x196 + 1)), (0, fz_r 53), (1, fz_i pe), (2, fz_i t), (3, fz_i hr), (4, fz_i 1), (5, fz_i su)]) [0, 3, 4, 5, 6, 7, 8] rfl) ?_
                        exact ih202 (x196 + 1) H326 hI330 hf334 (by omega) (by omega)
                · refine fz_goto (tgt := 211) kX11_tries rfl (by decide) ?_
                  refine fz_iincN (ls' := [(6, fz_i (x196 + 1)), (0, fz_r 53), (1, fz_i pe), (2, fz_i t), (3, fz_i hr), (4, fz_i 1), (5, fz_i su)]) kX11_tries rfl (by decide) rfl (by omega) rfl ?_
                  refine fz_goto (tgt := 79) kX11_tries rfl (by decide) ?_
                  exact ih202 (x196 + 1) H197 hI198 hf199 (by omega) (by omega)
        exact lp201 _ 0 h hI hf (by omega) (Nat.lt_succ_self _)
      · exfalso; omega
    · refine fz_aload_n kX11_tries rfl rfl ?_
      refine fz_iload kX11_tries rfl rfl ?_
      refine fz_callV (d' := 0) (M' := mX11_isAhead) (As := [fz_i 1]) (st := []) kX11_tries rfl rfl vX11_isAhead rfl rfl rfl rfl (Nat.le_of_ble_eq_true rfl) (Nat.le_of_ble_eq_true rfl) (by decide) (sX11_isAhead h hI 1 (by omega)) (fun H358 r359 q360 o361 => ?_)
      obtain ⟨e362, y363, rfl, p364⟩ := q360
      subst H358
      clear o361
      refine fz_if_eq (tgt := 69) kX11_tries rfl (by decide) (fun c365 => ?_) (fun c365 => ?_)
      · refine fz_iload kX11_tries rfl rfl ?_
        refine fz_iconst ⟨by decide, by decide⟩ kX11_tries rfl ?_
        refine fz_icmp_ne (tgt := 76) kX11_tries rfl (by decide) (fun c366 => ?_) (fun c366 => ?_)
        · refine fz_iconst ⟨by decide, by decide⟩ kX11_tries rfl ?_
          refine fz_istore (ls' := [(6, fz_i 0), (0, fz_r 53), (1, fz_i pe), (2, fz_i t), (3, fz_i hr), (4, fz_i 1), (5, fz_i su)]) kX11_tries rfl (by decide) rfl ?_
          have lp372 : ∀ (n371 : Nat) (x367 : Int) (H368 : fz_H), fz_Iv H368 → fz_fr [(53, 54), (53, 55), (74, 99999), (75, 99999), (89, 99999), (90, 99999)] h H368 → (0 ≤ x367 ∧ x367 ≤ 2147483647) → ((h 53 2) - x367).toNat < n371 → fz_R 7 mX11_tries 79 [(6, fz_i x367), (0, fz_r 53), (1, fz_i pe), (2, fz_i t), (3, fz_i hr), (4, fz_i 1), (5, fz_i su)] [] H368 (qX11_tries_1 h pe t hr su) := by
            intro n371
            induction n371 with
            | zero => intro x367 H368 hI369 hf370 hv375 hm374; exact absurd hm374 (by omega)
            | succ n371 ih373 =>
              intro x367 H368 hI369 hf370 hv375 hm374
              refine fz_iload kX11_tries rfl rfl ?_
              refine fz_aload_n kX11_tries rfl rfl ?_
              refine fz_getV (v := h 53 2) kX11_tries rfl rfl (hf370 53 2 rfl) ?_
              have b376 : 0 ≤ h 53 2 ∧ h 53 2 ≤ 12 := hI.1 53 _
              refine fz_icmp_ge (tgt := 217) kX11_tries rfl (by decide) (fun c377 => ?_) (fun c377 => ?_)
              · exact fz_vret kX11_tries rfl rfl ⟨hI369, hf370, rfl⟩
              · refine fz_aload_n kX11_tries rfl rfl ?_
                refine fz_getR (t := 55) kX11_tries rfl rfl ?_
                refine fz_iload kX11_tries rfl rfl ?_
                refine fz_ialdV (n := 12) (v := h 55 (x367.toNat)) kX11_tries rfl rfl (by omega) (by omega) (hf370 55 _ rfl) ?_
                have b378 : 0 ≤ h 55 (x367.toNat) ∧ h 55 (x367.toNat) ≤ 7 := hI.1 55 _
                refine fz_iload_n kX11_tries rfl rfl ?_
                refine fz_icmp_eq (tgt := 113) kX11_tries rfl (by decide) (fun c379 => ?_) (fun c379 => ?_)
                · refine fz_aload_n kX11_tries rfl rfl ?_
                  refine fz_getR (t := 55) kX11_tries rfl rfl ?_
                  refine fz_iload kX11_tries rfl rfl ?_
                  refine fz_ialdV (n := 12) (v := h 55 (x367.toNat)) kX11_tries rfl rfl (by omega) (by omega) (hf370 55 _ rfl) ?_
                  refine fz_iload_n kX11_tries rfl rfl ?_
                  refine fz_icmp_ne (tgt := 134) kX11_tries rfl (by decide) (fun c380 => ?_) (fun c380 => ?_)
                  · refine fz_aload_n kX11_tries rfl rfl ?_
                    refine fz_getR (t := 55) kX11_tries rfl rfl ?_
                    refine fz_iload kX11_tries rfl rfl ?_
                    refine fz_ialdV (n := 12) (v := h 55 (x367.toNat)) kX11_tries rfl rfl (by omega) (by omega) (hf370 55 _ rfl) ?_
                    refine fz_istore (ls' := [(7, fz_i (h 55 (x367.toNat))), (6, fz_i x367), (0, fz_r 53), (1, fz_i pe), (2, fz_i t), (3, fz_i hr), (4, fz_i 1), (5, fz_i su)]) kX11_tries rfl (by decide) rfl ?_
                    refine fz_iload_n kX11_tries rfl rfl ?_
                    refine fz_aload_n kX11_tries rfl rfl ?_
                    refine fz_getR (t := 57) kX11_tries rfl rfl ?_
                    refine fz_iload kX11_tries rfl rfl ?_
                    refine fz_ialdV (n := 12) (v := h 57 (x367.toNat)) kX11_tries rfl rfl (by omega) (by omega) (hf370 57 _ rfl) ?_
                    have b381 : 0 ≤ h 57 (x367.toNat) ∧ h 57 (x367.toNat) ≤ 24 := hI.1 57 _
                    refine fz_iadd kX11_tries rfl ?_
                    refine fz_nmw (fun z382 e383 => ?_)
                    refine fz_istore (ls' := [(8, fz_i z382), (7, fz_i (h 55 (x367.toNat))), (6, fz_i x367), (0, fz_r 53), (1, fz_i pe), (2, fz_i t), (3, fz_i hr), (4, fz_i 1), (5, fz_i su)]) kX11_tries rfl (by decide) rfl ?_
                    refine fz_iload kX11_tries rfl rfl ?_
                    refine fz_sipush ⟨by decide, by decide⟩ kX11_tries rfl ?_
                    refine fz_icmp_gt (tgt := 211) kX11_tries rfl (by decide) (fun c384 => ?_) (fun c384 => ?_)
                    · refine fz_iincN (ls' := [(6, fz_i (x367 + 1)), (8, fz_i z382), (7, fz_i (h 55 (x367.toNat))), (0, fz_r 53), (1, fz_i pe), (2, fz_i t), (3, fz_i hr), (4, fz_i 1), (5, fz_i su)]) kX11_tries rfl (by decide) rfl (by omega) rfl ?_
                      refine fz_goto (tgt := 79) kX11_tries rfl (by decide) ?_
                      refine fz_sub (fz_pk_sub (ls' := [(6, fz_i (x367 + 1)), (0, fz_r 53), (1, fz_i pe), (2, fz_i t), (3, fz_i hr), (4, fz_i 1), (5, fz_i su)]) [0, 3, 4, 5, 6, 7, 8] rfl) ?_
                      exact ih373 (x367 + 1) H368 hI369 hf370 (by omega) (by omega)
                    · refine fz_aload_n kX11_tries rfl rfl ?_
                      refine fz_iload_n kX11_tries rfl rfl ?_
                      refine fz_iload kX11_tries rfl rfl ?_
                      refine fz_iload kX11_tries rfl rfl ?_
                      refine fz_callV (d' := 4) (M' := mX11_isArrested) (As := [fz_i pe, fz_i (h 55 (x367.toNat)), fz_i z382]) (st := []) kX11_tries rfl rfl vX11_isArrested rfl rfl rfl rfl (Nat.le_of_ble_eq_true rfl) (Nat.le_of_ble_eq_true rfl) (by decide) (sX11_isArrested H368 hI369 pe (h 55 (x367.toNat)) z382 (by omega)) (fun H385 r386 q387 o388 => ?_)
                      obtain ⟨hI389, hf390, y391, rfl, p392⟩ := q387
                      clear o388
                      have hf393 := fz_fr_tr hf370 hf390 (show fz_su [(74, 99999), (75, 99999)] [(53, 54), (53, 55), (74, 99999), (75, 99999), (89, 99999), (90, 99999)] = true from rfl)
                      refine fz_if_eq (tgt := 177) kX11_tries rfl (by decide) (fun c394 => ?_) (fun c394 => ?_)
                      · refine fz_aload_n kX11_tries rfl rfl ?_
                        refine fz_getR (t := 90) kX11_tries rfl rfl ?_
                        refine fz_iload kX11_tries rfl rfl ?_
                        refine fz_iload kX11_tries rfl rfl ?_
                        refine fz_iast (n := 4) kX11_tries rfl rfl (by omega) (by omega) ?_
                        refine fz_nmu (S := [(53, 54), (53, 55), (74, 99999), (75, 99999), (89, 99999), (90, 99999)]) (h0 := h) (fz_Iv_up hI389 (by decide) (show 0 ≤ (h 55 (x367.toNat)) by omega) (show (h 55 (x367.toNat)) ≤ 7 by omega)) (fz_fr_up hf393 rfl) (fun H395 hI396 hf397 e398 => ?_)
                        clear e398
                        refine fz_aload_n kX11_tries rfl rfl ?_
                        refine fz_iload_n kX11_tries rfl rfl ?_
                        refine fz_iload kX11_tries rfl rfl ?_
                        refine fz_iload kX11_tries rfl rfl ?_
                        refine fz_iload kX11_tries rfl rfl ?_
                        refine fz_iconst ⟨by decide, by decide⟩ kX11_tries rfl ?_
                        refine fz_iaddN kX11_tries rfl ⟨by decide, by decide⟩ ?_
                        refine fz_eqi (y := 2) rfl ?_
                        refine fz_iload kX11_tries rfl rfl ?_
                        refine fz_aload_n kX11_tries rfl rfl ?_
                        refine fz_iload_n kX11_tries rfl rfl ?_
                        refine fz_iload kX11_tries rfl rfl ?_
                        refine fz_iload kX11_tries rfl rfl ?_
                        refine fz_callV (d' := 4) (M' := mX11_receivedIn) (As := [fz_i pe, fz_i (h 55 (x367.toNat)), fz_i z382]) (st := [fz_i su, fz_i 2, fz_i z382, fz_i (h 55 (x367.toNat)), fz_i pe, fz_r 53]) kX11_tries rfl rfl vX11_receivedIn rfl rfl rfl rfl (Nat.le_of_ble_eq_true rfl) (Nat.le_of_ble_eq_true rfl) (by decide) (sX11_receivedIn H395 hI396 pe (h 55 (x367.toNat)) z382 (by omega)) (fun H399 r400 q401 o402 => ?_)
                        obtain ⟨hI403, hf404, y406, rfl, f405⟩ := q401
                        clear o402
                        have hf407 := fz_fr_tr hf397 hf404 (show fz_su [(74, 99999), (75, 99999)] [(53, 54), (53, 55), (74, 99999), (75, 99999), (89, 99999), (90, 99999)] = true from rfl)
                        refine fz_iadd kX11_tries rfl ?_
                        refine fz_nmw (fun z408 e409 => ?_)
                        refine fz_callV (d' := 6) (M' := mX11_tries) (As := [fz_i pe, fz_i (h 55 (x367.toNat)), fz_i z382, fz_i 2, fz_i z408]) (st := []) kX11_tries rfl rfl vX11_tries rfl rfl rfl rfl (Nat.le_of_ble_eq_true rfl) (Nat.le_of_ble_eq_true rfl) (by decide) (sX11_tries_2 H399 hI403 pe (h 55 (x367.toNat)) z382 z408 (by omega)) (fun H410 r411 q412 o413 => ?_)
                        obtain ⟨hI414, hf415, rfl⟩ := q412
                        clear o413
                        have hf416 := fz_fr_tr hf407 hf415 (show fz_su [(53, 54), (53, 55), (74, 99999), (75, 99999), (89, 99999), (90, 99999)] [(53, 54), (53, 55), (74, 99999), (75, 99999), (89, 99999), (90, 99999)] = true from rfl)
                        refine fz_iincN (ls' := [(6, fz_i (x367 + 1)), (8, fz_i z382), (7, fz_i (h 55 (x367.toNat))), (0, fz_r 53), (1, fz_i pe), (2, fz_i t), (3, fz_i hr), (4, fz_i 1), (5, fz_i su)]) kX11_tries rfl (by decide) rfl (by omega) rfl ?_
                        refine fz_goto (tgt := 79) kX11_tries rfl (by decide) ?_
                        refine fz_sub (fz_pk_sub (ls' := [(6, fz_i (x367 + 1)), (0, fz_r 53), (1, fz_i pe), (2, fz_i t), (3, fz_i hr), (4, fz_i 1), (5, fz_i su)]) [0, 3, 4, 5, 6, 7, 8] rfl) ?_
                        exact ih373 (x367 + 1) H410 hI414 hf416 (by omega) (by omega)
                      · refine fz_goto (tgt := 211) kX11_tries rfl (by decide) ?_
                        refine fz_iincN (ls' := [(6, fz_i (x367 + 1)), (8, fz_i z382), (7, fz_i (h 55 (x367.toNat))), (0, fz_r 53), (1, fz_i pe), (2, fz_i t), (3, fz_i hr), (4, fz_i 1), (5, fz_i su)]) kX11_tries rfl (by decide) rfl (by omega) rfl ?_
                        refine fz_goto (tgt := 79) kX11_tries rfl (by decide) ?_
                        refine fz_sub (fz_pk_sub (ls' := [(6, fz_i (x367 + 1)), (0, fz_r 53), (1, fz_i pe), (2, fz_i t), (3, fz_i hr), (4, fz_i 1), (5, fz_i su)]) [0, 3, 4, 5, 6, 7, 8] rfl) ?_
                        exact ih373 (x367 + 1) H385 hI389 hf393 (by omega) (by omega)
                  · refine fz_aload_n kX11_tries rfl rfl ?_
                    refine fz_getR (t := 56) kX11_tries rfl rfl ?_
                    refine fz_iload kX11_tries rfl rfl ?_
                    refine fz_ialdV (n := 12) (v := h 56 (x367.toNat)) kX11_tries rfl rfl (by omega) (by omega) (hf370 56 _ rfl) ?_
                    have b417 : 0 ≤ h 56 (x367.toNat) ∧ h 56 (x367.toNat) ≤ 7 := hI.1 56 _
                    refine fz_goto (tgt := 141) kX11_tries rfl (by decide) ?_
                    refine fz_istore (ls' := [(7, fz_i (h 56 (x367.toNat))), (6, fz_i x367), (0, fz_r 53), (1, fz_i pe), (2, fz_i t), (3, fz_i hr), (4, fz_i 1), (5, fz_i su)]) kX11_tries rfl (by decide) rfl ?_
                    refine fz_iload_n kX11_tries rfl rfl ?_
                    refine fz_aload_n kX11_tries rfl rfl ?_
                    refine fz_getR (t := 57) kX11_tries rfl rfl ?_
                    refine fz_iload kX11_tries rfl rfl ?_
                    refine fz_ialdV (n := 12) (v := h 57 (x367.toNat)) kX11_tries rfl rfl (by omega) (by omega) (hf370 57 _ rfl) ?_
                    have b418 : 0 ≤ h 57 (x367.toNat) ∧ h 57 (x367.toNat) ≤ 24 := hI.1 57 _
                    refine fz_iadd kX11_tries rfl ?_
                    refine fz_nmw (fun z419 e420 => ?_)
                    refine fz_istore (ls' := [(8, fz_i z419), (7, fz_i (h 56 (x367.toNat))), (6, fz_i x367), (0, fz_r 53), (1, fz_i pe), (2, fz_i t), (3, fz_i hr), (4, fz_i 1), (5, fz_i su)]) kX11_tries rfl (by decide) rfl ?_
                    refine fz_iload kX11_tries rfl rfl ?_
                    refine fz_sipush ⟨by decide, by decide⟩ kX11_tries rfl ?_
                    refine fz_icmp_gt (tgt := 211) kX11_tries rfl (by decide) (fun c421 => ?_) (fun c421 => ?_)
                    · refine fz_iincN (ls' := [(6, fz_i (x367 + 1)), (8, fz_i z419), (7, fz_i (h 56 (x367.toNat))), (0, fz_r 53), (1, fz_i pe), (2, fz_i t), (3, fz_i hr), (4, fz_i 1), (5, fz_i su)]) kX11_tries rfl (by decide) rfl (by omega) rfl ?_
                      refine fz_goto (tgt := 79) kX11_tries rfl (by decide) ?_
                      refine fz_sub (fz_pk_sub (ls' := [(6, fz_i (x367 + 1)), (0, fz_r 53), (1, fz_i pe), (2, fz_i t), (3, fz_i hr), (4, fz_i 1), (5, fz_i su)]) [0, 3, 4, 5, 6, 7, 8] rfl) ?_
                      exact ih373 (x367 + 1) H368 hI369 hf370 (by omega) (by omega)
                    · refine fz_aload_n kX11_tries rfl rfl ?_
                      refine fz_iload_n kX11_tries rfl rfl ?_
                      refine fz_iload kX11_tries rfl rfl ?_
                      refine fz_iload kX11_tries rfl rfl ?_
                      refine fz_callV (d' := 4) (M' := mX11_isArrested) (As := [fz_i pe, fz_i (h 56 (x367.toNat)), fz_i z419]) (st := []) kX11_tries rfl rfl vX11_isArrested rfl rfl rfl rfl (Nat.le_of_ble_eq_true rfl) (Nat.le_of_ble_eq_true rfl) (by decide) (sX11_isArrested H368 hI369 pe (h 56 (x367.toNat)) z419 (by omega)) (fun H422 r423 q424 o425 => ?_)
                      obtain ⟨hI426, hf427, y428, rfl, p429⟩ := q424
                      clear o425
                      have hf430 := fz_fr_tr hf370 hf427 (show fz_su [(74, 99999), (75, 99999)] [(53, 54), (53, 55), (74, 99999), (75, 99999), (89, 99999), (90, 99999)] = true from rfl)
                      refine fz_if_eq (tgt := 177) kX11_tries rfl (by decide) (fun c431 => ?_) (fun c431 => ?_)
                      · refine fz_aload_n kX11_tries rfl rfl ?_
                        refine fz_getR (t := 90) kX11_tries rfl rfl ?_
                        refine fz_iload kX11_tries rfl rfl ?_
                        refine fz_iload kX11_tries rfl rfl ?_
                        refine fz_iast (n := 4) kX11_tries rfl rfl (by omega) (by omega) ?_
                        refine fz_nmu (S := [(53, 54), (53, 55), (74, 99999), (75, 99999), (89, 99999), (90, 99999)]) (h0 := h) (fz_Iv_up hI426 (by decide) (show 0 ≤ (h 56 (x367.toNat)) by omega) (show (h 56 (x367.toNat)) ≤ 7 by omega)) (fz_fr_up hf430 rfl) (fun H432 hI433 hf434 e435 => ?_)
                        clear e435
                        refine fz_aload_n kX11_tries rfl rfl ?_
                        refine fz_iload_n kX11_tries rfl rfl ?_
                        refine fz_iload kX11_tries rfl rfl ?_
                        refine fz_iload kX11_tries rfl rfl ?_
                        refine fz_iload kX11_tries rfl rfl ?_
                        refine fz_iconst ⟨by decide, by decide⟩ kX11_tries rfl ?_
                        refine fz_iaddN kX11_tries rfl ⟨by decide, by decide⟩ ?_
                        refine fz_eqi (y := 2) rfl ?_
                        refine fz_iload kX11_tries rfl rfl ?_
                        refine fz_aload_n kX11_tries rfl rfl ?_
                        refine fz_iload_n kX11_tries rfl rfl ?_
                        refine fz_iload kX11_tries rfl rfl ?_
                        refine fz_iload kX11_tries rfl rfl ?_
                        refine fz_callV (d' := 4) (M' := mX11_receivedIn) (As := [fz_i pe, fz_i (h 56 (x367.toNat)), fz_i z419]) (st := [fz_i su, fz_i 2, fz_i z419, fz_i (h 56 (x367.toNat)), fz_i pe, fz_r 53]) kX11_tries rfl rfl vX11_receivedIn rfl rfl rfl rfl (Nat.le_of_ble_eq_true rfl) (Nat.le_of_ble_eq_true rfl) (by decide) (sX11_receivedIn H432 hI433 pe (h 56 (x367.toNat)) z419 (by omega)) (fun H436 r437 q438 o439 => ?_)
                        obtain ⟨hI440, hf441, y443, rfl, f442⟩ := q438
                        clear o439
                        have hf444 := fz_fr_tr hf434 hf441 (show fz_su [(74, 99999), (75, 99999)] [(53, 54), (53, 55), (74, 99999), (75, 99999), (89, 99999), (90, 99999)] = true from rfl)
                        refine fz_iadd kX11_tries rfl ?_
                        refine fz_nmw (fun z445 e446 => ?_)
                        refine fz_callV (d' := 6) (M' := mX11_tries) (As := [fz_i pe, fz_i (h 56 (x367.toNat)), fz_i z419, fz_i 2, fz_i z445]) (st := []) kX11_tries rfl rfl vX11_tries rfl rfl rfl rfl (Nat.le_of_ble_eq_true rfl) (Nat.le_of_ble_eq_true rfl) (by decide) (sX11_tries_2 H436 hI440 pe (h 56 (x367.toNat)) z419 z445 (by omega)) (fun H447 r448 q449 o450 => ?_)
                        obtain ⟨hI451, hf452, rfl⟩ := q449
                        clear o450
                        have hf453 := fz_fr_tr hf444 hf452 (show fz_su [(53, 54), (53, 55), (74, 99999), (75, 99999), (89, 99999), (90, 99999)] [(53, 54), (53, 55), (74, 99999), (75, 99999), (89, 99999), (90, 99999)] = true from rfl)
                        refine fz_iincN (ls' := [(6, fz_i (x367 + 1)), (8, fz_i z419), (7, fz_i (h 56 (x367.toNat))), (0, fz_r 53), (1, fz_i pe), (2, fz_i t), (3, fz_i hr), (4, fz_i 1), (5, fz_i su)]) kX11_tries rfl (by decide) rfl (by omega) rfl ?_
                        refine fz_goto (tgt := 79) kX11_tries rfl (by decide) ?_
                        refine fz_sub (fz_pk_sub (ls' := [(6, fz_i (x367 + 1)), (0, fz_r 53), (1, fz_i pe), (2, fz_i t), (3, fz_i hr), (4, fz_i 1), (5, fz_i su)]) [0, 3, 4, 5, 6, 7, 8] rfl) ?_
                        exact ih373 (x367 + 1) H447 hI451 hf453 (by omega) (by omega)
                      · refine fz_goto (tgt := 211) kX11_tries rfl (by decide) ?_
                        refine fz_iincN (ls' := [(6, fz_i (x367 + 1)), (8, fz_i z419), (7, fz_i (h 56 (x367.toNat))), (0, fz_r 53), (1, fz_i pe), (2, fz_i t), (3, fz_i hr), (4, fz_i 1), (5, fz_i su)]) kX11_tries rfl (by decide) rfl (by omega) rfl ?_
                        refine fz_goto (tgt := 79) kX11_tries rfl (by decide) ?_
                        refine fz_sub (fz_pk_sub (ls' := [(6, fz_i (x367 + 1)), (0, fz_r 53), (1, fz_i pe), (2, fz_i t), (3, fz_i hr), (4, fz_i 1), (5, fz_i su)]) [0, 3, 4, 5, 6, 7, 8] rfl) ?_
                        exact ih373 (x367 + 1) H422 hI426 hf430 (by omega) (by omega)
                · refine fz_aload_n kX11_tries rfl rfl ?_
                  refine fz_getR (t := 56) kX11_tries rfl rfl ?_
                  refine fz_iload kX11_tries rfl rfl ?_
                  refine fz_ialdV (n := 12) (v := h 56 (x367.toNat)) kX11_tries rfl rfl (by omega) (by omega) (hf370 56 _ rfl) ?_
                  have b454 : 0 ≤ h 56 (x367.toNat) ∧ h 56 (x367.toNat) ≤ 7 := hI.1 56 _
                  refine fz_iload_n kX11_tries rfl rfl ?_
                  refine fz_icmp_eq (tgt := 113) kX11_tries rfl (by decide) (fun c455 => ?_) (fun c455 => ?_)
                  · refine fz_aload_n kX11_tries rfl rfl ?_
                    refine fz_getR (t := 55) kX11_tries rfl rfl ?_
                    refine fz_iload kX11_tries rfl rfl ?_
                    refine fz_ialdV (n := 12) (v := h 55 (x367.toNat)) kX11_tries rfl rfl (by omega) (by omega) (hf370 55 _ rfl) ?_
                    refine fz_iload_n kX11_tries rfl rfl ?_
                    refine fz_icmp_ne (tgt := 134) kX11_tries rfl (by decide) (fun c456 => ?_) (fun c456 => ?_)
                    · refine fz_aload_n kX11_tries rfl rfl ?_
                      refine fz_getR (t := 55) kX11_tries rfl rfl ?_
                      refine fz_iload kX11_tries rfl rfl ?_
                      refine fz_ialdV (n := 12) (v := h 55 (x367.toNat)) kX11_tries rfl rfl (by omega) (by omega) (hf370 55 _ rfl) ?_
                      refine fz_istore (ls' := [(7, fz_i (h 55 (x367.toNat))), (6, fz_i x367), (0, fz_r 53), (1, fz_i pe), (2, fz_i t), (3, fz_i hr), (4, fz_i 1), (5, fz_i su)]) kX11_tries rfl (by decide) rfl ?_
                      refine fz_iload_n kX11_tries rfl rfl ?_
                      refine fz_aload_n kX11_tries rfl rfl ?_
                      refine fz_getR (t := 57) kX11_tries rfl rfl ?_
                      refine fz_iload kX11_tries rfl rfl ?_
                      refine fz_ialdV (n := 12) (v := h 57 (x367.toNat)) kX11_tries rfl rfl (by omega) (by omega) (hf370 57 _ rfl) ?_
                      have b457 : 0 ≤ h 57 (x367.toNat) ∧ h 57 (x367.toNat) ≤ 24 := hI.1 57 _
                      refine fz_iadd kX11_tries rfl ?_
                      refine fz_nmw (fun z458 e459 => ?_)
                      refine fz_istore (ls' := [(8, fz_i z458), (7, fz_i (h 55 (x367.toNat))), (6, fz_i x367), (0, fz_r 53), (1, fz_i pe), (2, fz_i t), (3, fz_i hr), (4, fz_i 1), (5, fz_i su)]) kX11_tries rfl (by decide) rfl ?_
                      refine fz_iload kX11_tries rfl rfl ?_
                      refine fz_sipush ⟨by decide, by decide⟩ kX11_tries rfl ?_
                      refine fz_icmp_gt (tgt := 211) kX11_tries rfl (by decide) (fun c460 => ?_) (fun c460 => ?_)
                      · refine fz_iincN (ls' := [(6, fz_i (x367 + 1)), (8, fz_i z458), (7, fz_i (h 55 (x367.toNat))), (0, fz_r 53), (1, fz_i pe), (2, fz_i t), (3, fz_i hr), (4, fz_i 1), (5, fz_i su)]) kX11_tries rfl (by decide) rfl (by omega) rfl ?_
                        refine fz_goto (tgt := 79) kX11_tries rfl (by decide) ?_
                        refine fz_sub (fz_pk_sub (ls' := [(6, fz_i (x367 + 1)), (0, fz_r 53), (1, fz_i pe), (2, fz_i t), (3, fz_i hr), (4, fz_i 1), (5, fz_i su)]) [0, 3, 4, 5, 6, 7, 8] rfl) ?_
                        exact ih373 (x367 + 1) H368 hI369 hf370 (by omega) (by omega)
                      · refine fz_aload_n kX11_tries rfl rfl ?_
                        refine fz_iload_n kX11_tries rfl rfl ?_
                        refine fz_iload kX11_tries rfl rfl ?_
                        refine fz_iload kX11_tries rfl rfl ?_
                        refine fz_callV (d' := 4) (M' := mX11_isArrested) (As := [fz_i pe, fz_i (h 55 (x367.toNat)), fz_i z458]) (st := []) kX11_tries rfl rfl vX11_isArrested rfl rfl rfl rfl (Nat.le_of_ble_eq_true rfl) (Nat.le_of_ble_eq_true rfl) (by decide) (sX11_isArrested H368 hI369 pe (h 55 (x367.toNat)) z458 (by omega)) (fun H461 r462 q463 o464 => ?_)
                        obtain ⟨hI465, hf466, y467, rfl, p468⟩ := q463
                        clear o464
                        have hf469 := fz_fr_tr hf370 hf466 (show fz_su [(74, 99999), (75, 99999)] [(53, 54), (53, 55), (74, 99999), (75, 99999), (89, 99999), (90, 99999)] = true from rfl)
                        refine fz_if_eq (tgt := 177) kX11_tries rfl (by decide) (fun c470 => ?_) (fun c470 => ?_)
                        · refine fz_aload_n kX11_tries rfl rfl ?_
                          refine fz_getR (t := 90) kX11_tries rfl rfl ?_
                          refine fz_iload kX11_tries rfl rfl ?_
                          refine fz_iload kX11_tries rfl rfl ?_
                          refine fz_iast (n := 4) kX11_tries rfl rfl (by omega) (by omega) ?_
                          refine fz_nmu (S := [(53, 54), (53, 55), (74, 99999), (75, 99999), (89, 99999), (90, 99999)]) (h0 := h) (fz_Iv_up hI465 (by decide) (show 0 ≤ (h 55 (x367.toNat)) by omega) (show (h 55 (x367.toNat)) ≤ 7 by omega)) (fz_fr_up hf469 rfl) (fun H471 hI472 hf473 e474 => ?_)
                          clear e474
                          refine fz_aload_n kX11_tries rfl rfl ?_
                          refine fz_iload_n kX11_tries rfl rfl ?_
                          refine fz_iload kX11_tries rfl rfl ?_
                          refine fz_iload kX11_tries rfl rfl ?_
                          refine fz_iload kX11_tries rfl rfl ?_
                          refine fz_iconst ⟨by decide, by decide⟩ kX11_tries rfl ?_
                          refine fz_iaddN kX11_tries rfl ⟨by decide, by decide⟩ ?_
                          refine fz_eqi (y := 2) rfl ?_
                          refine fz_iload kX11_tries rfl rfl ?_
                          refine fz_aload_n kX11_tries rfl rfl ?_
                          refine fz_iload_n kX11_tries rfl rfl ?_
                          refine fz_iload kX11_tries rfl rfl ?_
                          refine fz_iload kX11_tries rfl rfl ?_
                          refine fz_callV (d' := 4) (M' := mX11_receivedIn) (As := [fz_i pe, fz_i (h 55 (x367.toNat)), fz_i z458]) (st := [fz_i su, fz_i 2, fz_i z458, fz_i (h 55 (x367.toNat)), fz_i pe, fz_r 53]) kX11_tries rfl rfl vX11_receivedIn rfl rfl rfl rfl (Nat.le_of_ble_eq_true rfl) (Nat.le_of_ble_eq_true rfl) (by decide) (sX11_receivedIn H471 hI472 pe (h 55 (x367.toNat)) z458 (by omega)) (fun H475 r476 q477 o478 => ?_)
                          obtain ⟨hI479, hf480, y482, rfl, f481⟩ := q477
                          clear o478
                          have hf483 := fz_fr_tr hf473 hf480 (show fz_su [(74, 99999), (75, 99999)] [(53, 54), (53, 55), (74, 99999), (75, 99999), (89, 99999), (90, 99999)] = true from rfl)
                          refine fz_iadd kX11_tries rfl ?_
                          refine fz_nmw (fun z484 e485 => ?_)
                          refine fz_callV (d' := 6) (M' := mX11_tries) (As := [fz_i pe, fz_i (h 55 (x367.toNat)), fz_i z458, fz_i 2, fz_i z484]) (st := []) kX11_tries rfl rfl vX11_tries rfl rfl rfl rfl (Nat.le_of_ble_eq_true rfl) (Nat.le_of_ble_eq_true rfl) (by decide) (sX11_tries_2 H475 hI479 pe (h 55 (x367.toNat)) z458 z484 (by omega)) (fun H486 r487 q488 o489 => ?_)
                          obtain ⟨hI490, hf491, rfl⟩ := q488
                          clear o489
                          have hf492 := fz_fr_tr hf483 hf491 (show fz_su [(53, 54), (53, 55), (74, 99999), (75, 99999), (89, 99999), (90, 99999)] [(53, 54), (53, 55), (74, 99999), (75, 99999), (89, 99999), (90, 99999)] = true from rfl)
                          refine fz_iincN (ls' := [(6, fz_i (x367 + 1)), (8, fz_i z458), (7, fz_i (h 55 (x367.toNat))), (0, fz_r 53), (1, fz_i pe), (2, fz_i t), (3, fz_i hr), (4, fz_i 1), (5, fz_i su)]) kX11_tries rfl (by decide) rfl (by omega) rfl ?_
                          refine fz_goto (tgt := 79) kX11_tries rfl (by decide) ?_
                          refine fz_sub (fz_pk_sub (ls' := [(6, fz_i (x367 + 1)), (0, fz_r 53), (1, fz_i pe), (2, fz_i t), (3, fz_i hr), (4, fz_i 1), (5, fz_i su)]) [0, 3, 4, 5, 6, 7, 8] rfl) ?_
                          exact ih373 (x367 + 1) H486 hI490 hf492 (by omega) (by omega)
                        · refine fz_goto (tgt := 211) kX11_tries rfl (by decide) ?_
                          refine fz_iincN (ls' := [(6, fz_i (x367 + 1)), (8, fz_i z458), (7, fz_i (h 55 (x367.toNat))), (0, fz_r 53), (1, fz_i pe), (2, fz_i t), (3, fz_i hr), (4, fz_i 1), (5, fz_i su)]) kX11_tries rfl (by decide) rfl (by omega) rfl ?_
                          refine fz_goto (tgt := 79) kX11_tries rfl (by decide) ?_
                          refine fz_sub (fz_pk_sub (ls' := [(6, fz_i (x367 + 1)), (0, fz_r 53), (1, fz_i pe), (2, fz_i t), (3, fz_i hr), (4, fz_i 1), (5, fz_i su)]) [0, 3, 4, 5, 6, 7, 8] rfl) ?_
                          exact ih373 (x367 + 1) H461 hI465 hf469 (by omega) (by omega)
                    · refine fz_aload_n kX11_tries rfl rfl ?_
                      refine fz_getR (t := 56) kX11_tries rfl rfl ?_
                      refine fz_iload kX11_tries rfl rfl ?_
                      refine fz_ialdV (n := 12) (v := h 56 (x367.toNat)) kX11_tries rfl rfl (by omega) (by omega) (hf370 56 _ rfl) ?_
                      refine fz_goto (tgt := 141) kX11_tries rfl (by decide) ?_
                      refine fz_istore (ls' := [(7, fz_i (h 56 (x367.toNat))), (6, fz_i x367), (0, fz_r 53), (1, fz_i pe), (2, fz_i t), (3, fz_i hr), (4, fz_i 1), (5, fz_i su)]) kX11_tries rfl (by decide) rfl ?_
                      refine fz_iload_n kX11_tries rfl rfl ?_
                      refine fz_aload_n kX11_tries rfl rfl ?_
                      refine fz_getR (t := 57) kX11_tries rfl rfl ?_
                      refine fz_iload kX11_tries rfl rfl ?_
                      refine fz_ialdV (n := 12) (v := h 57 (x367.toNat)) kX11_tries rfl rfl (by omega) (by omega) (hf370 57 _ rfl) ?_
                      have b493 : 0 ≤ h 57 (x367.toNat) ∧ h 57 (x367.toNat) ≤ 24 := hI.1 57 _
                      refine fz_iadd kX11_tries rfl ?_
                      refine fz_nmw (fun z494 e495 => ?_)
                      refine fz_istore (ls' := [(8, fz_i z494), (7, fz_i (h 56 (x367.toNat))), (6, fz_i x367), (0, fz_r 53), (1, fz_i pe), (2, fz_i t), (3, fz_i hr), (4, fz_i 1), (5, fz_i su)]) kX11_tries rfl (by decide) rfl ?_
                      refine fz_iload kX11_tries rfl rfl ?_
                      refine fz_sipush ⟨by decide, by decide⟩ kX11_tries rfl ?_
                      refine fz_icmp_gt (tgt := 211) kX11_tries rfl (by decide) (fun c496 => ?_) (fun c496 => ?_)
                      · refine fz_iincN (ls' := [(6, fz_i (x367 + 1)), (8, fz_i z494), (7, fz_i (h 56 (x367.toNat))), (0, fz_r 53), (1, fz_i pe), (2, fz_i t), (3, fz_i hr), (4, fz_i 1), (5, fz_i su)]) kX11_tries rfl (by decide) rfl (by omega) rfl ?_
                        refine fz_goto (tgt := 79) kX11_tries rfl (by decide) ?_
                        refine fz_sub (fz_pk_sub (ls' := [(6, fz_i (x367 + 1)), (0, fz_r 53), (1, fz_i pe), (2, fz_i t), (3, fz_i hr), (4, fz_i 1), (5, fz_i su)]) [0, 3, 4, 5, 6, 7, 8] rfl) ?_
                        exact ih373 (x367 + 1) H368 hI369 hf370 (by omega) (by omega)
                      · refine fz_aload_n kX11_tries rfl rfl ?_
                        refine fz_iload_n kX11_tries rfl rfl ?_
                        refine fz_iload kX11_tries rfl rfl ?_
                        refine fz_iload kX11_tries rfl rfl ?_
                        refine fz_callV (d' := 4) (M' := mX11_isArrested) (As := [fz_i pe, fz_i (h 56 (x367.toNat)), fz_i z494]) (st := []) kX11_tries rfl rfl vX11_isArrested rfl rfl rfl rfl (Nat.le_of_ble_eq_true rfl) (Nat.le_of_ble_eq_true rfl) (by decide) (sX11_isArrested H368 hI369 pe (h 56 (x367.toNat)) z494 (by omega)) (fun H497 r498 q499 o500 => ?_)
                        obtain ⟨hI501, hf502, y503, rfl, p504⟩ := q499
                        clear o500
                        have hf505 := fz_fr_tr hf370 hf502 (show fz_su [(74, 99999), (75, 99999)] [(53, 54), (53, 55), (74, 99999), (75, 99999), (89, 99999), (90, 99999)] = true from rfl)
                        refine fz_if_eq (tgt := 177) kX11_tries rfl (by decide) (fun c506 => ?_) (fun c506 => ?_)
                        · refine fz_aload_n kX11_tries rfl rfl ?_
                          refine fz_getR (t := 90) kX11_tries rfl rfl ?_
                          refine fz_iload kX11_tries rfl rfl ?_
                          refine fz_iload kX11_tries rfl rfl ?_
                          refine fz_iast (n := 4) kX11_tries rfl rfl (by omega) (by omega) ?_
                          refine fz_nmu (S := [(53, 54), (53, 55), (74, 99999), (75, 99999), (89, 99999), (90, 99999)]) (h0 := h) (fz_Iv_up hI501 (by decide) (show 0 ≤ (h 56 (x367.toNat)) by omega) (show (h 56 (x367.toNat)) ≤ 7 by omega)) (fz_fr_up hf505 rfl) (fun H507 hI508 hf509 e510 => ?_)
                          clear e510
                          refine fz_aload_n kX11_tries rfl rfl ?_
                          refine fz_iload_n kX11_tries rfl rfl ?_
                          refine fz_iload kX11_tries rfl rfl ?_
                          refine fz_iload kX11_tries rfl rfl ?_
                          refine fz_iload kX11_tries rfl rfl ?_
                          refine fz_iconst ⟨by decide, by decide⟩ kX11_tries rfl ?_
                          refine fz_iaddN kX11_tries rfl ⟨by decide, by decide⟩ ?_
                          refine fz_eqi (y := 2) rfl ?_
                          refine fz_iload kX11_tries rfl rfl ?_
                          refine fz_aload_n kX11_tries rfl rfl ?_
                          refine fz_iload_n kX11_tries rfl rfl ?_
                          refine fz_iload kX11_tries rfl rfl ?_
                          refine fz_iload kX11_tries rfl rfl ?_
                          refine fz_callV (d' := 4) (M' := mX11_receivedIn) (As := [fz_i pe, fz_i (h 56 (x367.toNat)), fz_i z494]) (st := [fz_i su, fz_i 2, fz_i z494, fz_i (h 56 (x367.toNat)), fz_i pe, fz_r 53]) kX11_tries rfl rfl vX11_receivedIn rfl rfl rfl rfl (Nat.le_of_ble_eq_true rfl) (Nat.le_of_ble_eq_true rfl) (by decide) (sX11_receivedIn H507 hI508 pe (h 56 (x367.toNat)) z494 (by omega)) (fun H511 r512 q513 o514 => ?_)
                          obtain ⟨hI515, hf516, y518, rfl, f517⟩ := q513
                          clear o514
                          have hf519 := fz_fr_tr hf509 hf516 (show fz_su [(74, 99999), (75, 99999)] [(53, 54), (53, 55), (74, 99999), (75, 99999), (89, 99999), (90, 99999)] = true from rfl)
                          refine fz_iadd kX11_tries rfl ?_
                          refine fz_nmw (fun z520 e521 => ?_)
                          refine fz_callV (d' := 6) (M' := mX11_tries) (As := [fz_i pe, fz_i (h 56 (x367.toNat)), fz_i z494, fz_i 2, fz_i z520]) (st := []) kX11_tries rfl rfl vX11_tries rfl rfl rfl rfl (Nat.le_of_ble_eq_true rfl) (Nat.le_of_ble_eq_true rfl) (by decide) (sX11_tries_2 H511 hI515 pe (h 56 (x367.toNat)) z494 z520 (by omega)) (fun H522 r523 q524 o525 => ?_)
                          obtain ⟨hI526, hf527, rfl⟩ := q524
                          clear o525
                          have hf528 := fz_fr_tr hf519 hf527 (show fz_su [(53, 54), (53, 55), (74, 99999), (75, 99999), (89, 99999), (90, 99999)] [(53, 54), (53, 55), (74, 99999), (75, 99999), (89, 99999), (90, 99999)] = true from rfl)
                          refine fz_iincN (ls' := [(6, fz_i (x367 + 1)), (8, fz_i z494), (7, fz_i (h 56 (x367.toNat))), (0, fz_r 53), (1, fz_i pe), (2, fz_i t), (3, fz_i hr), (4, fz_i 1), (5, fz_i su)]) kX11_tries rfl (by decide) rfl (by omega) rfl ?_
                          refine fz_goto (tgt := 79) kX11_tries rfl (by decide) ?_
                          refine fz_sub (fz_pk_sub (ls' := [(6, fz_i (x367 + 1)), (0, fz_r 53), (1, fz_i pe), (2, fz_i t), (3, fz_i hr), (4, fz_i 1), (5, fz_i su)]) [0, 3, 4, 5, 6, 7, 8] rfl) ?_
                          exact ih373 (x367 + 1) H522 hI526 hf528 (by omega) (by omega)
                        · refine fz_goto (tgt := 211) kX11_tries rfl (by decide) ?_
                          refine fz_iincN (ls' := [(6, fz_i (x367 + 1)), (8, fz_i z494), (7, fz_i (h 56 (x367.toNat))), (0, fz_r 53), (1, fz_i pe), (2, fz_i t), (3, fz_i hr), (4, fz_i 1), (5, fz_i su)]) kX11_tries rfl (by decide) rfl (by omega) rfl ?_
                          refine fz_goto (tgt := 79) kX11_tries rfl (by decide) ?_
                          refine fz_sub (fz_pk_sub (ls' := [(6, fz_i (x367 + 1)), (0, fz_r 53), (1, fz_i pe), (2, fz_i t), (3, fz_i hr), (4, fz_i 1), (5, fz_i su)]) [0, 3, 4, 5, 6, 7, 8] rfl) ?_
                          exact ih373 (x367 + 1) H497 hI501 hf505 (by omega) (by omega)
                  · refine fz_goto (tgt := 211) kX11_tries rfl (by decide) ?_
                    refine fz_iincN (ls' := [(6, fz_i (x367 + 1)), (0, fz_r 53), (1, fz_i pe), (2, fz_i t), (3, fz_i hr), (4, fz_i 1), (5, fz_i su)]) kX11_tries rfl (by decide) rfl (by omega) rfl ?_
                    refine fz_goto (tgt := 79) kX11_tries rfl (by decide) ?_
                    exact ih373 (x367 + 1) H368 hI369 hf370 (by omega) (by omega)
          exact lp372 _ 0 h hI hf (by omega) (Nat.lt_succ_self _)
        · exfalso; omega
      · refine fz_aload_n kX11_tries rfl rfl ?_
        refine fz_iload kX11_tries rfl rfl ?_
        refine fz_putI kX11_tries rfl rfl rfl ?_
        refine fz_nmu (S := [(53, 54), (53, 55), (74, 99999), (75, 99999), (89, 99999), (90, 99999)]) (h0 := h) (fz_Iv_up hI (by decide) (show (-2147483648) ≤ su by omega) (show su ≤ 2147483647 by omega)) (fz_fr_up hf rfl) (fun H529 hI530 hf531 e532 => ?_)
        have k533 : H529 53 54 = su := by rw [e532]; exact fz_up_e
        clear e532
        refine fz_aload_n kX11_tries rfl rfl ?_
        refine fz_iload kX11_tries rfl rfl ?_
        refine fz_putI kX11_tries rfl rfl rfl ?_
        refine fz_nmu (S := [(53, 54), (53, 55), (74, 99999), (75, 99999), (89, 99999), (90, 99999)]) (h0 := h) (fz_Iv_up hI530 (by decide) (show 0 ≤ 1 by omega) (show 1 ≤ 4 by omega)) (fz_fr_up hf531 rfl) (fun H534 hI535 hf536 e537 => ?_)
        have k538 : H534 53 54 = su := by rw [e537]; exact (fz_up_s (by decide)).trans k533
        have k539 : H534 53 55 = 1 := by rw [e537]; exact fz_up_e
        clear e537
        refine fz_iconst ⟨by decide, by decide⟩ kX11_tries rfl ?_
        refine fz_istore (ls' := [(6, fz_i 0), (0, fz_r 53), (1, fz_i pe), (2, fz_i t), (3, fz_i hr), (4, fz_i 1), (5, fz_i su)]) kX11_tries rfl (by decide) rfl ?_
        have lp545 : ∀ (n544 : Nat) (x540 : Int) (H541 : fz_H), fz_Iv H541 → fz_fr [(53, 54), (53, 55), (74, 99999), (75, 99999), (89, 99999), (90, 99999)] h H541 → (0 ≤ x540 ∧ x540 ≤ 2147483647) → (1 - x540).toNat < n544 → fz_R 7 mX11_tries 42 [(6, fz_i x540), (0, fz_r 53), (1, fz_i pe), (2, fz_i t), (3, fz_i hr), (4, fz_i 1), (5, fz_i su)] [] H541 (qX11_tries_1 h pe t hr su) := by
          intro n544
          induction n544 with
          | zero => intro x540 H541 hI542 hf543 hv548 hm547; exact absurd hm547 (by omega)
          | succ n544 ih546 =>
            intro x540 H541 hI542 hf543 hv548 hm547
            refine fz_iload kX11_tries rfl rfl ?_
            refine fz_iload kX11_tries rfl rfl ?_
            refine fz_icmp_ge (tgt := 69) kX11_tries rfl (by decide) (fun c549 => ?_) (fun c549 => ?_)
            · refine fz_iload kX11_tries rfl rfl ?_
              refine fz_iconst ⟨by decide, by decide⟩ kX11_tries rfl ?_
              refine fz_icmp_ne (tgt := 76) kX11_tries rfl (by decide) (fun c550 => ?_) (fun c550 => ?_)
              · refine fz_iconst ⟨by decide, by decide⟩ kX11_tries rfl ?_
                refine fz_istore (ls' := [(6, fz_i 0), (0, fz_r 53), (1, fz_i pe), (2, fz_i t), (3, fz_i hr), (4, fz_i 1), (5, fz_i su)]) kX11_tries rfl (by decide) rfl ?_
                have lp556 : ∀ (n555 : Nat) (x551 : Int) (H552 : fz_H), fz_Iv H552 → fz_fr [(53, 54), (53, 55), (74, 99999), (75, 99999), (89, 99999), (90, 99999)] h H552 → (0 ≤ x551 ∧ x551 ≤ 2147483647) → ((h 53 2) - x551).toNat < n555 → fz_R 7 mX11_tries 79 [(6, fz_i x551), (0, fz_r 53), (1, fz_i pe), (2, fz_i t), (3, fz_i hr), (4, fz_i 1), (5, fz_i su)] [] H552 (qX11_tries_1 h pe t hr su) := by
                  intro n555
                  induction n555 with
                  | zero => intro x551 H552 hI553 hf554 hv559 hm558; exact absurd hm558 (by omega)
                  | succ n555 ih557 =>
                    intro x551 H552 hI553 hf554 hv559 hm558
                    refine fz_iload kX11_tries rfl rfl ?_
                    refine fz_aload_n kX11_tries rfl rfl ?_
                    refine fz_getV (v := h 53 2) kX11_tries rfl rfl (hf554 53 2 rfl) ?_
                    have b560 : 0 ≤ h 53 2 ∧ h 53 2 ≤ 12 := hI.1 53 _
                    refine fz_icmp_ge (tgt := 217) kX11_tries rfl (by decide) (fun c561 => ?_) (fun c561 => ?_)
                    · exact fz_vret kX11_tries rfl rfl ⟨hI553, hf554, rfl⟩
                    · refine fz_aload_n kX11_tries rfl rfl ?_
                      refine fz_getR (t := 55) kX11_tries rfl rfl ?_
                      refine fz_iload kX11_tries rfl rfl ?_
                      refine fz_ialdV (n := 12) (v := h 55 (x551.toNat)) kX11_tries rfl rfl (by omega) (by omega) (hf554 55 _ rfl) ?_
                      have b562 : 0 ≤ h 55 (x551.toNat) ∧ h 55 (x551.toNat) ≤ 7 := hI.1 55 _
                      refine fz_iload_n kX11_tries rfl rfl ?_
                      refine fz_icmp_eq (tgt := 113) kX11_tries rfl (by decide) (fun c563 => ?_) (fun c563 => ?_)
                      · refine fz_aload_n kX11_tries rfl rfl ?_
                        refine fz_getR (t := 55) kX11_tries rfl rfl ?_
                        refine fz_iload kX11_tries rfl rfl ?_
                        refine fz_ialdV (n := 12) (v := h 55 (x551.toNat)) kX11_tries rfl rfl (by omega) (by omega) (hf554 55 _ rfl) ?_
                        refine fz_iload_n kX11_tries rfl rfl ?_
                        refine fz_icmp_ne (tgt := 134) kX11_tries rfl (by decide) (fun c564 => ?_) (fun c564 => ?_)
                        · refine fz_aload_n kX11_tries rfl rfl ?_
                          refine fz_getR (t := 55) kX11_tries rfl rfl ?_
                          refine fz_iload kX11_tries rfl rfl ?_
                          refine fz_ialdV (n := 12) (v := h 55 (x551.toNat)) kX11_tries rfl rfl (by omega) (by omega) (hf554 55 _ rfl) ?_
                          refine fz_istore (ls' := [(7, fz_i (h 55 (x551.toNat))), (6, fz_i x551), (0, fz_r 53), (1, fz_i pe), (2, fz_i t), (3, fz_i hr), (4, fz_i 1), (5, fz_i su)]) kX11_tries rfl (by decide) rfl ?_
                          refine fz_iload_n kX11_tries rfl rfl ?_
                          refine fz_aload_n kX11_tries rfl rfl ?_
                          refine fz_getR (t := 57) kX11_tries rfl rfl ?_
                          refine fz_iload kX11_tries rfl rfl ?_
                          refine fz_ialdV (n := 12) (v := h 57 (x551.toNat)) kX11_tries rfl rfl (by omega) (by omega) (hf554 57 _ rfl) ?_
                          have b565 : 0 ≤ h 57 (x551.toNat) ∧ h 57 (x551.toNat) ≤ 24 := hI.1 57 _
                          refine fz_iadd kX11_tries rfl ?_
                          refine fz_nmw (fun z566 e567 => ?_)
                          refine fz_istore (ls' := [(8, fz_i z566), (7, fz_i (h 55 (x551.toNat))), (6, fz_i x551), (0, fz_r 53), (1, fz_i pe), (2, fz_i t), (3, fz_i hr), (4, fz_i 1), (5, fz_i su)]) kX11_tries rfl (by decide) rfl ?_
                          refine fz_iload kX11_tries rfl rfl ?_
                          refine fz_sipush ⟨by decide, by decide⟩ kX11_tries rfl ?_
                          refine fz_icmp_gt (tgt := 211) kX11_tries rfl (by decide) (fun c568 => ?_) (fun c568 => ?_)
                          · refine fz_iincN (ls' := [(6, fz_i (x551 + 1)), (8, fz_i z566), (7, fz_i (h 55 (x551.toNat))), (0, fz_r 53), (1, fz_i pe), (2, fz_i t), (3, fz_i hr), (4, fz_i 1), (5, fz_i su)]) kX11_tries rfl (by decide) rfl (by omega) rfl ?_
                            refine fz_goto (tgt := 79) kX11_tries rfl (by decide) ?_
                            refine fz_sub (fz_pk_sub (ls' := [(6, fz_i (x551 + 1)), (0, fz_r 53), (1, fz_i pe), (2, fz_i t), (3, fz_i hr), (4, fz_i 1), (5, fz_i su)]) [0, 3, 4, 5, 6, 7, 8] rfl) ?_
                            exact ih557 (x551 + 1) H552 hI553 hf554 (by omega) (by omega)
                          · refine fz_aload_n kX11_tries rfl rfl ?_
                            refine fz_iload_n kX11_tries rfl rfl ?_
                            refine fz_iload kX11_tries rfl rfl ?_
                            refine fz_iload kX11_tries rfl rfl ?_
                            refine fz_callV (d' := 4) (M' := mX11_isArrested) (As := [fz_i pe, fz_i (h 55 (x551.toNat)), fz_i z566]) (st := []) kX11_tries rfl rfl vX11_isArrested rfl rfl rfl rfl (Nat.le_of_ble_eq_true rfl) (Nat.le_of_ble_eq_true rfl) (by decide) (sX11_isArrested H552 hI553 pe (h 55 (x551.toNat)) z566 (by omega)) (fun H569 r570 q571 o572 => ?_)
                            obtain ⟨hI573, hf574, y575, rfl, p576⟩ := q571
                            clear o572
                            have hf577 := fz_fr_tr hf554 hf574 (show fz_su [(74, 99999), (75, 99999)] [(53, 54), (53, 55), (74, 99999), (75, 99999), (89, 99999), (90, 99999)] = true from rfl)
                            refine fz_if_eq (tgt := 177) kX11_tries rfl (by decide) (fun c578 => ?_) (fun c578 => ?_)
                            · refine fz_aload_n kX11_tries rfl rfl ?_
                              refine fz_getR (t := 90) kX11_tries rfl rfl ?_
                              refine fz_iload kX11_tries rfl rfl ?_
                              refine fz_iload kX11_tries rfl rfl ?_
                              refine fz_iast (n := 4) kX11_tries rfl rfl (by omega) (by omega) ?_
                              refine fz_nmu (S := [(53, 54), (53, 55), (74, 99999), (75, 99999), (89, 99999), (90, 99999)]) (h0 := h) (fz_Iv_up hI573 (by decide) (show 0 ≤ (h 55 (x551.toNat)) by omega) (show (h 55 (x551.toNat)) ≤ 7 by omega)) (fz_fr_up hf577 rfl) (fun H579 hI580 hf581 e582 => ?_)
                              clear e582
                              refine fz_aload_n kX11_tries rfl rfl ?_
                              refine fz_iload_n kX11_tries rfl rfl ?_
                              refine fz_iload kX11_tries rfl rfl ?_
                              refine fz_iload kX11_tries rfl rfl ?_
                              refine fz_iload kX11_tries rfl rfl ?_
                              refine fz_iconst ⟨by decide, by decide⟩ kX11_tries rfl ?_
                              refine fz_iaddN kX11_tries rfl ⟨by decide, by decide⟩ ?_
                              refine fz_eqi (y := 2) rfl ?_
                              refine fz_iload kX11_tries rfl rfl ?_
                              refine fz_aload_n kX11_tries rfl rfl ?_
                              refine fz_iload_n kX11_tries rfl rfl ?_
                              refine fz_iload kX11_tries rfl rfl ?_
                              refine fz_iload kX11_tries rfl rfl ?_
                              refine fz_callV (d' := 4) (M' := mX11_receivedIn) (As := [fz_i pe, fz_i (h 55 (x551.toNat)), fz_i z566]) (st := [fz_i su, fz_i 2, fz_i z566, fz_i (h 55 (x551.toNat)), fz_i pe, fz_r 53]) kX11_tries rfl rfl vX11_receivedIn rfl rfl rfl rfl (Nat.le_of_ble_eq_true rfl) (Nat.le_of_ble_eq_true rfl) (by decide) (sX11_receivedIn H579 hI580 pe (h 55 (x551.toNat)) z566 (by omega)) (fun H583 r584 q585 o586 => ?_)
                              obtain ⟨hI587, hf588, y590, rfl, f589⟩ := q585
                              clear o586
                              have hf591 := fz_fr_tr hf581 hf588 (show fz_su [(74, 99999), (75, 99999)] [(53, 54), (53, 55), (74, 99999), (75, 99999), (89, 99999), (90, 99999)] = true from rfl)
                              refine fz_iadd kX11_tries rfl ?_
                              refine fz_nmw (fun z592 e593 => ?_)
                              refine fz_callV (d' := 6) (M' := mX11_tries) (As := [fz_i pe, fz_i (h 55 (x551.toNat)), fz_i z566, fz_i 2, fz_i z592]) (st := []) kX11_tries rfl rfl vX11_tries rfl rfl rfl rfl (Nat.le_of_ble_eq_true rfl) (Nat.le_of_ble_eq_true rfl) (by decide) (sX11_tries_2 H583 hI587 pe (h 55 (x551.toNat)) z566 z592 (by omega)) (fun H594 r595 q596 o597 => ?_)
                              obtain ⟨hI598, hf599, rfl⟩ := q596
                              clear o597
                              have hf600 := fz_fr_tr hf591 hf599 (show fz_su [(53, 54), (53, 55), (74, 99999), (75, 99999), (89, 99999), (90, 99999)] [(53, 54), (53, 55), (74, 99999), (75, 99999), (89, 99999), (90, 99999)] = true from rfl)
                              refine fz_iincN (ls' := [(6, fz_i (x551 + 1)), (8, fz_i z566), (7, fz_i (h 55 (x551.toNat))), (0, fz_r 53), (1, fz_i pe), (2, fz_i t), (3, fz_i hr), (4, fz_i 1), (5, fz_i su)]) kX11_tries rfl (by decide) rfl (by omega) rfl ?_
                              refine fz_goto (tgt := 79) kX11_tries rfl (by decide) ?_
                              refine fz_sub (fz_pk_sub (ls' := [(6, fz_i (x551 + 1)), (0, fz_r 53), (1, fz_i pe), (2, fz_i t), (3, fz_i hr), (4, fz_i 1), (5, fz_i su)]) [0, 3, 4, 5, 6, 7, 8] rfl) ?_
                              exact ih557 (x551 + 1) H594 hI598 hf600 (by omega) (by omega)
                            · refine fz_goto (tgt := 211) kX11_tries rfl (by decide) ?_
                              refine fz_iincN (ls' := [(6, fz_i (x551 + 1)), (8, fz_i z566), (7, fz_i (h 55 (x551.toNat))), (0, fz_r 53), (1, fz_i pe), (2, fz_i t), (3, fz_i hr), (4, fz_i 1), (5, fz_i su)]) kX11_tries rfl (by decide) rfl (by omega) rfl ?_
                              refine fz_goto (tgt := 79) kX11_tries rfl (by decide) ?_
                              refine fz_sub (fz_pk_sub (ls' := [(6, fz_i (x551 + 1)), (0, fz_r 53), (1, fz_i pe), (2, fz_i t), (3, fz_i hr), (4, fz_i 1), (5, fz_i su)]) [0, 3, 4, 5, 6, 7, 8] rfl) ?_
                              exact ih557 (x551 + 1) H569 hI573 hf577 (by omega) (by omega)
                        · refine fz_aload_n kX11_tries rfl rfl ?_
                          refine fz_getR (t := 56) kX11_tries rfl rfl ?_
                          refine fz_iload kX11_tries rfl rfl ?_
                          refine fz_ialdV (n := 12) (v := h 56 (x551.toNat)) kX11_tries rfl rfl (by omega) (by omega) (hf554 56 _ rfl) ?_
                          have b601 : 0 ≤ h 56 (x551.toNat) ∧ h 56 (x551.toNat) ≤ 7 := hI.1 56 _
                          refine fz_goto (tgt := 141) kX11_tries rfl (by decide) ?_
                          refine fz_istore (ls' := [(7, fz_i (h 56 (x551.toNat))), (6, fz_i x551), (0, fz_r 53), (1, fz_i pe), (2, fz_i t), (3, fz_i hr), (4, fz_i 1), (5, fz_i su)]) kX11_tries rfl (by decide) rfl ?_
                          refine fz_iload_n kX11_tries rfl rfl ?_
                          refine fz_aload_n kX11_tries rfl rfl ?_
                          refine fz_getR (t := 57) kX11_tries rfl rfl ?_
                          refine fz_iload kX11_tries rfl rfl ?_
                          refine fz_ialdV (n := 12) (v := h 57 (x551.toNat)) kX11_tries rfl rfl (by omega) (by omega) (hf554 57 _ rfl) ?_
                          have b602 : 0 ≤ h 57 (x551.toNat) ∧ h 57 (x551.toNat) ≤ 24 := hI.1 57 _
                          refine fz_iadd kX11_tries rfl ?_
                          refine fz_nmw (fun z603 e604 => ?_)
                          refine fz_istore (ls' := [(8, fz_i z603), (7, fz_i (h 56 (x551.toNat))), (6, fz_i x551), (0, fz_r 53), (1, fz_i pe), (2, fz_i t), (3, fz_i hr), (4, fz_i 1), (5, fz_i su)]) kX11_tries rfl (by decide) rfl ?_
                          refine fz_iload kX11_tries rfl rfl ?_
                          refine fz_sipush ⟨by decide, by decide⟩ kX11_tries rfl ?_
                          refine fz_icmp_gt (tgt := 211) kX11_tries rfl (by decide) (fun c605 => ?_) (fun c605 => ?_)
                          · refine fz_iincN (ls' := [(6, fz_i (x551 + 1)), (8, fz_i z603), (7, fz_i (h 56 (x551.toNat))), (0, fz_r 53), (1, fz_i pe), (2, fz_i t), (3, fz_i hr), (4, fz_i 1), (5, fz_i su)]) kX11_tries rfl (by decide) rfl (by omega) rfl ?_
                            refine fz_goto (tgt := 79) kX11_tries rfl (by decide) ?_
                            refine fz_sub (fz_pk_sub (ls' := [(6, fz_i (x551 + 1)), (0, fz_r 53), (1, fz_i pe), (2, fz_i t), (3, fz_i hr), (4, fz_i 1), (5, fz_i su)]) [0, 3, 4, 5, 6, 7, 8] rfl) ?_
                            exact ih557 (x551 + 1) H552 hI553 hf554 (by omega) (by omega)
                          · refine fz_aload_n kX11_tries rfl rfl ?_
                            refine fz_iload_n kX11_tries rfl rfl ?_
                            refine fz_iload kX11_tries rfl rfl ?_
                            refine fz_iload kX11_tries rfl rfl ?_
                            refine fz_callV (d' := 4) (M' := mX11_isArrested) (As := [fz_i pe, fz_i (h 56 (x551.toNat)), fz_i z603]) (st := []) kX11_tries rfl rfl vX11_isArrested rfl rfl rfl rfl (Nat.le_of_ble_eq_true rfl) (Nat.le_of_ble_eq_true rfl) (by decide) (sX11_isArrested H552 hI553 pe (h 56 (x551.toNat)) z603 (by omega)) (fun H606 r607 q608 o609 => ?_)
                            obtain ⟨hI610, hf611, y612, rfl, p613⟩ := q608
                            clear o609
                            have hf614 := fz_fr_tr hf554 hf611 (show fz_su [(74, 99999), (75, 99999)] [(53, 54), (53, 55), (74, 99999), (75, 99999), (89, 99999), (90, 99999)] = true from rfl)
                            refine fz_if_eq (tgt := 177) kX11_tries rfl (by decide) (fun c615 => ?_) (fun c615 => ?_)
                            · refine fz_aload_n kX11_tries rfl rfl ?_
                              refine fz_getR (t := 90) kX11_tries rfl rfl ?_
                              refine fz_iload kX11_tries rfl rfl ?_
                              refine fz_iload kX11_tries rfl rfl ?_
                              refine fz_iast (n := 4) kX11_tries rfl rfl (by omega) (by omega) ?_
                              refine fz_nmu (S := [(53, 54), (53, 55), (74, 99999), (75, 99999), (89, 99999), (90, 99999)]) (h0 := h) (fz_Iv_up hI610 (by decide) (show 0 ≤ (h 56 (x551.toNat)) by omega) (show (h 56 (x551.toNat)) ≤ 7 by omega)) (fz_fr_up hf614 rfl) (fun H616 hI617 hf618 e619 => ?_)
                              clear e619
                              refine fz_aload_n kX11_tries rfl rfl ?_
                              refine fz_iload_n kX11_tries rfl rfl ?_
                              refine fz_iload kX11_tries rfl rfl ?_
                              refine fz_iload kX11_tries rfl rfl ?_
                              refine fz_iload kX11_tries rfl rfl ?_
                              refine fz_iconst ⟨by decide, by decide⟩ kX11_tries rfl ?_
                              refine fz_iaddN kX11_tries rfl ⟨by decide, by decide⟩ ?_
                              refine fz_eqi (y := 2) rfl ?_
                              refine fz_iload kX11_tries rfl rfl ?_
                              refine fz_aload_n kX11_tries rfl rfl ?_
                              refine fz_iload_n kX11_tries rfl rfl ?_
                              refine fz_iload kX11_tries rfl rfl ?_
                              refine fz_iload kX11_tries rfl rfl ?_
                              refine fz_callV (d' := 4) (M' := mX11_receivedIn) (As := [fz_i pe, fz_i (h 56 (x551.toNat)), fz_i z603]) (st := [fz_i su, fz_i 2, fz_i z603, fz_i (h 56 (x551.toNat)), fz_i pe, fz_r 53]) kX11_tries rfl rfl vX11_receivedIn rfl rfl rfl rfl (Nat.le_of_ble_eq_true rfl) (Nat.le_of_ble_eq_true rfl) (by decide) (sX11_receivedIn H616 hI617 pe (h 56 (x551.toNat)) z603 (by omega)) (fun H620 r621 q622 o623 => ?_)
                              obtain ⟨hI624, hf625, y627, rfl, f626⟩ := q622
                              clear o623
                              have hf628 := fz_fr_tr hf618 hf625 (show fz_su [(74, 99999), (75, 99999)] [(53, 54), (53, 55), (74, 99999), (75, 99999), (89, 99999), (90, 99999)] = true from rfl)
                              refine fz_iadd kX11_tries rfl ?_
                              refine fz_nmw (fun z629 e630 => ?_)
                              refine fz_callV (d' := 6) (M' := mX11_tries) (As := [fz_i pe, fz_i (h 56 (x551.toNat)), fz_i z603, fz_i 2, fz_i z629]) (st := []) kX11_tries rfl rfl vX11_tries rfl rfl rfl rfl (Nat.le_of_ble_eq_true rfl) (Nat.le_of_ble_eq_true rfl) (by decide) (sX11_tries_2 H620 hI624 pe (h 56 (x551.toNat)) z603 z629 (by omega)) (fun H631 r632 q633 o634 => ?_)
                              obtain ⟨hI635, hf636, rfl⟩ := q633
                              clear o634
                              have hf637 := fz_fr_tr hf628 hf636 (show fz_su [(53, 54), (53, 55), (74, 99999), (75, 99999), (89, 99999), (90, 99999)] [(53, 54), (53, 55), (74, 99999), (75, 99999), (89, 99999), (90, 99999)] = true from rfl)
                              refine fz_iincN (ls' := [(6, fz_i (x551 + 1)), (8, fz_i z603), (7, fz_i (h 56 (x551.toNat))), (0, fz_r 53), (1, fz_i pe), (2, fz_i t), (3, fz_i hr), (4, fz_i 1), (5, fz_i su)]) kX11_tries rfl (by decide) rfl (by omega) rfl ?_
                              refine fz_goto (tgt := 79) kX11_tries rfl (by decide) ?_
                              refine fz_sub (fz_pk_sub (ls' := [(6, fz_i (x551 + 1)), (0, fz_r 53), (1, fz_i pe), (2, fz_i t), (3, fz_i hr), (4, fz_i 1), (5, fz_i su)]) [0, 3, 4, 5, 6, 7, 8] rfl) ?_
                              exact ih557 (x551 + 1) H631 hI635 hf637 (by omega) (by omega)
                            · refine fz_goto (tgt := 211) kX11_tries rfl (by decide) ?_
                              refine fz_iincN (ls' := [(6, fz_i (x551 + 1)), (8, fz_i z603), (7, fz_i (h 56 (x551.toNat))), (0, fz_r 53), (1, fz_i pe), (2, fz_i t), (3, fz_i hr), (4, fz_i 1), (5, fz_i su)]) kX11_tries rfl (by decide) rfl (by omega) rfl ?_
                              refine fz_goto (tgt := 79) kX11_tries rfl (by decide) ?_
                              refine fz_sub (fz_pk_sub (ls' := [(6, fz_i (x551 + 1)), (0, fz_r 53), (1, fz_i pe), (2, fz_i t), (3, fz_i hr), (4, fz_i 1), (5, fz_i su)]) [0, 3, 4, 5, 6, 7, 8] rfl) ?_
                              exact ih557 (x551 + 1) H606 hI610 hf614 (by omega) (by omega)
                      · refine fz_aload_n kX11_tries rfl rfl ?_
                        refine fz_getR (t := 56) kX11_tries rfl rfl ?_
                        refine fz_iload kX11_tries rfl rfl ?_
                        refine fz_ialdV (n := 12) (v := h 56 (x551.toNat)) kX11_tries rfl rfl (by omega) (by omega) (hf554 56 _ rfl) ?_
                        have b638 : 0 ≤ h 56 (x551.toNat) ∧ h 56 (x551.toNat) ≤ 7 := hI.1 56 _
                        refine fz_iload_n kX11_tries rfl rfl ?_
                        refine fz_icmp_eq (tgt := 113) kX11_tries rfl (by decide) (fun c639 => ?_) (fun c639 => ?_)
                        · refine fz_aload_n kX11_tries rfl rfl ?_
                          refine fz_getR (t := 55) kX11_tries rfl rfl ?_
                          refine fz_iload kX11_tries rfl rfl ?_
                          refine fz_ialdV (n := 12) (v := h 55 (x551.toNat)) kX11_tries rfl rfl (by omega) (by omega) (hf554 55 _ rfl) ?_
                          refine fz_iload_n kX11_tries rfl rfl ?_
                          refine fz_icmp_ne (tgt := 134) kX11_tries rfl (by decide) (fun c640 => ?_) (fun c640 => ?_)
                          · refine fz_aload_n kX11_tries rfl rfl ?_
                            refine fz_getR (t := 55) kX11_tries rfl rfl ?_
                            refine fz_iload kX11_tries rfl rfl ?_
                            refine fz_ialdV (n := 12) (v := h 55 (x551.toNat)) kX11_tries rfl rfl (by omega) (by omega) (hf554 55 _ rfl) ?_
                            refine fz_istore (ls' := [(7, fz_i (h 55 (x551.toNat))), (6, fz_i x551), (0, fz_r 53), (1, fz_i pe), (2, fz_i t), (3, fz_i hr), (4, fz_i 1), (5, fz_i su)]) kX11_tries rfl (by decide) rfl ?_
                            refine fz_iload_n kX11_tries rfl rfl ?_
                            refine fz_aload_n kX11_tries rfl rfl ?_
                            refine fz_getR (t := 57) kX11_tries rfl rfl ?_
                            refine fz_iload kX11_tries rfl rfl ?_
                            refine fz_ialdV (n := 12) (v := h 57 (x551.toNat)) kX11_tries rfl rfl (by omega) (by omega) (hf554 57 _ rfl) ?_
                            have b641 : 0 ≤ h 57 (x551.toNat) ∧ h 57 (x551.toNat) ≤ 24 := hI.1 57 _
                            refine fz_iadd kX11_tries rfl ?_
                            refine fz_nmw (fun z642 e643 => ?_)
                            refine fz_istore (ls' := [(8, fz_i z642), (7, fz_i (h 55 (x551.toNat))), (6, fz_i x551), (0, fz_r 53), (1, fz_i pe), (2, fz_i t), (3, fz_i hr), (4, fz_i 1), (5, fz_i su)]) kX11_tries rfl (by decide) rfl ?_
                            refine fz_iload kX11_tries rfl rfl ?_
                            refine fz_sipush ⟨by decide, by decide⟩ kX11_tries rfl ?_
                            refine fz_icmp_gt (tgt := 211) kX11_tries rfl (by decide) (fun c644 => ?_) (fun c644 => ?_)
                            · refine fz_iincN (ls' := [(6, fz_i (x551 + 1)), (8, fz_i z642), (7, fz_i (h 55 (x551.toNat))), (0, fz_r 53), (1, fz_i pe), (2, fz_i t), (3, fz_i hr), (4, fz_i 1), (5, fz_i su)]) kX11_tries rfl (by decide) rfl (by omega) rfl ?_
                              refine fz_goto (tgt := 79) kX11_tries rfl (by decide) ?_
                              refine fz_sub (fz_pk_sub (ls' := [(6, fz_i (x551 + 1)), (0, fz_r 53), (1, fz_i pe), (2, fz_i t), (3, fz_i hr), (4, fz_i 1), (5, fz_i su)]) [0, 3, 4, 5, 6, 7, 8] rfl) ?_
                              exact ih557 (x551 + 1) H552 hI553 hf554 (by omega) (by omega)
                            · refine fz_aload_n kX11_tries rfl rfl ?_
                              refine fz_iload_n kX11_tries rfl rfl ?_
                              refine fz_iload kX11_tries rfl rfl ?_
                              refine fz_iload kX11_tries rfl rfl ?_
                              refine fz_callV (d' := 4) (M' := mX11_isArrested) (As := [fz_i pe, fz_i (h 55 (x551.toNat)), fz_i z642]) (st := []) kX11_tries rfl rfl vX11_isArrested rfl rfl rfl rfl (Nat.le_of_ble_eq_true rfl) (Nat.le_of_ble_eq_true rfl) (by decide) (sX11_isArrested H552 hI553 pe (h 55 (x551.toNat)) z642 (by omega)) (fun H645 r646 q647 o648 => ?_)
                              obtain ⟨hI649, hf650, y651, rfl, p652⟩ := q647
                              clear o648
                              have hf653 := fz_fr_tr hf554 hf650 (show fz_su [(74, 99999), (75, 99999)] [(53, 54), (53, 55), (74, 99999), (75, 99999), (89, 99999), (90, 99999)] = true from rfl)
                              refine fz_if_eq (tgt := 177) kX11_tries rfl (by decide) (fun c654 => ?_) (fun c654 => ?_)
                              · refine fz_aload_n kX11_tries rfl rfl ?_
                                refine fz_getR (t := 90) kX11_tries rfl rfl ?_
                                refine fz_iload kX11_tries rfl rfl ?_
                                refine fz_iload kX11_tries rfl rfl ?_
                                refine fz_iast (n := 4) kX11_tries rfl rfl (by omega) (by omega) ?_
                                refine fz_nmu (S := [(53, 54), (53, 55), (74, 99999), (75, 99999), (89, 99999), (90, 99999)]) (h0 := h) (fz_Iv_up hI649 (by decide) (show 0 ≤ (h 55 (x551.toNat)) by omega) (show (h 55 (x551.toNat)) ≤ 7 by omega)) (fz_fr_up hf653 rfl) (fun H655 hI656 hf657 e658 => ?_)
                                clear e658
                                refine fz_aload_n kX11_tries rfl rfl ?_
                                refine fz_iload_n kX11_tries rfl rfl ?_
                                refine fz_iload kX11_tries rfl rfl ?_
                                refine fz_iload kX11_tries rfl rfl ?_
                                refine fz_iload kX11_tries rfl rfl ?_
                                refine fz_iconst ⟨by decide, by decide⟩ kX11_tries rfl ?_
                                refine fz_iaddN kX11_tries rfl ⟨by decide, by decide⟩ ?_
                                refine fz_eqi (y := 2) rfl ?_
                                refine fz_iload kX11_tries rfl rfl ?_
                                refine fz_aload_n kX11_tries rfl rfl ?_
                                refine fz_iload_n kX11_tries rfl rfl ?_
                                refine fz_iload kX11_tries rfl rfl ?_
                                refine fz_iload kX11_tries rfl rfl ?_
                                refine fz_callV (d' := 4) (M' := mX11_receivedIn) (As := [fz_i pe, fz_i (h 55 (x551.toNat)), fz_i z642]) (st := [fz_i su, fz_i 2, fz_i z642, fz_i (h 55 (x551.toNat)), fz_i pe, fz_r 53]) kX11_tries rfl rfl vX11_receivedIn rfl rfl rfl rfl (Nat.le_of_ble_eq_true rfl) (Nat.le_of_ble_eq_true rfl) (by decide) (sX11_receivedIn H655 hI656 pe (h 55 (x551.toNat)) z642 (by omega)) (fun H659 r660 q661 o662 => ?_)
                                obtain ⟨hI663, hf664, y666, rfl, f665⟩ := q661
                                clear o662
                                have hf667 := fz_fr_tr hf657 hf664 (show fz_su [(74, 99999), (75, 99999)] [(53, 54), (53, 55), (74, 99999), (75, 99999), (89, 99999), (90, 99999)] = true from rfl)
                                refine fz_iadd kX11_tries rfl ?_
                                refine fz_nmw (fun z668 e669 => ?_)
                                refine fz_callV (d' := 6) (M' := mX11_tries) (As := [fz_i pe, fz_i (h 55 (x551.toNat)), fz_i z642, fz_i 2, fz_i z668]) (st := []) kX11_tries rfl rfl vX11_tries rfl rfl rfl rfl (Nat.le_of_ble_eq_true rfl) (Nat.le_of_ble_eq_true rfl) (by decide) (sX11_tries_2 H659 hI663 pe (h 55 (x551.toNat)) z642 z668 (by omega)) (fun H670 r671 q672 o673 => ?_)
                                obtain ⟨hI674, hf675, rfl⟩ := q672
                                clear o673
                                have hf676 := fz_fr_tr hf667 hf675 (show fz_su [(53, 54), (53, 55), (74, 99999), (75, 99999), (89, 99999), (90, 99999)] [(53, 54), (53, 55), (74, 99999), (75, 99999), (89, 99999), (90, 99999)] = true from rfl)
                                refine fz_iincN (ls' := [(6, fz_i (x551 + 1)), (8, fz_i z642), (7, fz_i (h 55 (x551.toNat))), (0, fz_r 53), (1, fz_i pe), (2, fz_i t), (3, fz_i hr), (4, fz_i 1), (5, fz_i su)]) kX11_tries rfl (by decide) rfl (by omega) rfl ?_
                                refine fz_goto (tgt := 79) kX11_tries rfl (by decide) ?_
                                refine fz_sub (fz_pk_sub (ls' := [(6, fz_i (x551 + 1)), (0, fz_r 53), (1, fz_i pe), (2, fz_i t), (3, fz_i hr), (4, fz_i 1), (5, fz_i su)]) [0, 3, 4, 5, 6, 7, 8] rfl) ?_
                                exact ih557 (x551 + 1) H670 hI674 hf676 (by omega) (by omega)
                              · refine fz_goto (tgt := 211) kX11_tries rfl (by decide) ?_
                                refine fz_iincN (ls' := [(6, fz_i (x551 + 1)), (8, fz_i z642), (7, fz_i (h 55 (x551.toNat))), (0, fz_r 53), (1, fz_i pe), (2, fz_i t), (3, fz_i hr), (4, fz_i 1), (5, fz_i su)]) kX11_tries rfl (by decide) rfl (by omega) rfl ?_
                                refine fz_goto (tgt := 79) kX11_tries rfl (by decide) ?_
                                refine fz_sub (fz_pk_sub (ls' := [(6, fz_i (x551 + 1)), (0, fz_r 53), (1, fz_i pe), (2, fz_i t), (3, fz_i hr), (4, fz_i 1), (5, fz_i su)]) [0, 3, 4, 5, 6, 7, 8] rfl) ?_
                                exact ih557 (x551 + 1) H645 hI649 hf653 (by omega) (by omega)
                          · refine fz_aload_n kX11_tries rfl rfl ?_
                            refine fz_getR (t := 56) kX11_tries rfl rfl ?_
                            refine fz_iload kX11_tries rfl rfl ?_
                            refine fz_ialdV (n := 12) (v := h 56 (x551.toNat)) kX11_tries rfl rfl (by omega) (by omega) (hf554 56 _ rfl) ?_
                            refine fz_goto (tgt := 141) kX11_tries rfl (by decide) ?_
                            refine fz_istore (ls' := [(7, fz_i (h 56 (x551.toNat))), (6, fz_i x551), (0, fz_r 53), (1, fz_i pe), (2, fz_i t), (3, fz_i hr), (4, fz_i 1), (5, fz_i su)]) kX11_tries rfl (by decide) rfl ?_
                            refine fz_iload_n kX11_tries rfl rfl ?_
                            refine fz_aload_n kX11_tries rfl rfl ?_
                            refine fz_getR (t := 57) kX11_tries rfl rfl ?_
                            refine fz_iload kX11_tries rfl rfl ?_
                            refine fz_ialdV (n := 12) (v := h 57 (x551.toNat)) kX11_tries rfl rfl (by omega) (by omega) (hf554 57 _ rfl) ?_
                            have b677 : 0 ≤ h 57 (x551.toNat) ∧ h 57 (x551.toNat) ≤ 24 := hI.1 57 _
                            refine fz_iadd kX11_tries rfl ?_
                            refine fz_nmw (fun z678 e679 => ?_)
                            refine fz_istore (ls' := [(8, fz_i z678), (7, fz_i (h 56 (x551.toNat))), (6, fz_i x551), (0, fz_r 53), (1, fz_i pe), (2, fz_i t), (3, fz_i hr), (4, fz_i 1), (5, fz_i su)]) kX11_tries rfl (by decide) rfl ?_
                            refine fz_iload kX11_tries rfl rfl ?_
                            refine fz_sipush ⟨by decide, by decide⟩ kX11_tries rfl ?_
                            refine fz_icmp_gt (tgt := 211) kX11_tries rfl (by decide) (fun c680 => ?_) (fun c680 => ?_)
                            · refine fz_iincN (ls' := [(6, fz_i (x551 + 1)), (8, fz_i z678), (7, fz_i (h 56 (x551.toNat))), (0, fz_r 53), (1, fz_i pe), (2, fz_i t), (3, fz_i hr), (4, fz_i 1), (5, fz_i su)]) kX11_tries rfl (by decide) rfl (by omega) rfl ?_
                              refine fz_goto (tgt := 79) kX11_tries rfl (by decide) ?_
                              refine fz_sub (fz_pk_sub (ls' := [(6, fz_i (x551 + 1)), (0, fz_r 53), (1, fz_i pe), (2, fz_i t), (3, fz_i hr), (4, fz_i 1), (5, fz_i su)]) [0, 3, 4, 5, 6, 7, 8] rfl) ?_
                              exact ih557 (x551 + 1) H552 hI553 hf554 (by omega) (by omega)
                            · refine fz_aload_n kX11_tries rfl rfl ?_
                              refine fz_iload_n kX11_tries rfl rfl ?_
                              refine fz_iload kX11_tries rfl rfl ?_
                              refine fz_iload kX11_tries rfl rfl ?_
                              refine fz_callV (d' := 4) (M' := mX11_isArrested) (As := [fz_i pe, fz_i (h 56 (x551.toNat)), fz_i z678]) (st := []) kX11_tries rfl rfl vX11_isArrested rfl rfl rfl rfl (Nat.le_of_ble_eq_true rfl) (Nat.le_of_ble_eq_true rfl) (by decide) (sX11_isArrested H552 hI553 pe (h 56 (x551.toNat)) z678 (by omega)) (fun H681 r682 q683 o684 => ?_)
                              obtain ⟨hI685, hf686, y687, rfl, p688⟩ := q683
                              clear o684
                              have hf689 := fz_fr_tr hf554 hf686 (show fz_su [(74, 99999), (75, 99999)] [(53, 54), (53, 55), (74, 99999), (75, 99999), (89, 99999), (90, 99999)] = true from rfl)
                              refine fz_if_eq (tgt := 177) kX11_tries rfl (by decide) (fun c690 => ?_) (fun c690 => ?_)
                              · refine fz_aload_n kX11_tries rfl rfl ?_
                                refine fz_getR (t := 90) kX11_tries rfl rfl ?_
                                refine fz_iload kX11_tries rfl rfl ?_
                                refine fz_iload kX11_tries rfl rfl ?_
                                refine fz_iast (n := 4) kX11_tries rfl rfl (by omega) (by omega) ?_
                                refine fz_nmu (S := [(53, 54), (53, 55), (74, 99999), (75, 99999), (89, 99999), (90, 99999)]) (h0 := h) (fz_Iv_up hI685 (by decide) (show 0 ≤ (h 56 (x551.toNat)) by omega) (show (h 56 (x551.toNat)) ≤ 7 by omega)) (fz_fr_up hf689 rfl) (fun H691 hI692 hf693 e694 => ?_)
                                clear e694
                                refine fz_aload_n kX11_tries rfl rfl ?_
                                refine fz_iload_n kX11_tries rfl rfl ?_
                                refine fz_iload kX11_tries rfl rfl ?_
                                refine fz_iload kX11_tries rfl rfl ?_
                                refine fz_iload kX11_tries rfl rfl ?_
                                refine fz_iconst ⟨by decide, by decide⟩ kX11_tries rfl ?_
                                refine fz_iaddN kX11_tries rfl ⟨by decide, by decide⟩ ?_
                                refine fz_eqi (y := 2) rfl ?_
                                refine fz_iload kX11_tries rfl rfl ?_
                                refine fz_aload_n kX11_tries rfl rfl ?_
                                refine fz_iload_n kX11_tries rfl rfl ?_
                                refine fz_iload kX11_tries rfl rfl ?_
                                refine fz_iload kX11_tries rfl rfl ?_
                                refine fz_callV (d' := 4) (M' := mX11_receivedIn) (As := [fz_i pe, fz_i (h 56 (x551.toNat)), fz_i z678]) (st := [fz_i su, fz_i 2, fz_i z678, fz_i (h 56 (x551.toNat)), fz_i pe, fz_r 53]) kX11_tries rfl rfl vX11_receivedIn rfl rfl rfl rfl (Nat.le_of_ble_eq_true rfl) (Nat.le_of_ble_eq_true rfl) (by decide) (sX11_receivedIn H691 hI692 pe (h 56 (x551.toNat)) z678 (by omega)) (fun H695 r696 q697 o698 => ?_)
                                obtain ⟨hI699, hf700, y702, rfl, f701⟩ := q697
                                clear o698
                                have hf703 := fz_fr_tr hf693 hf700 (show fz_su [(74, 99999), (75, 99999)] [(53, 54), (53, 55), (74, 99999), (75, 99999), (89, 99999), (90, 99999)] = true from rfl)
                                refine fz_iadd kX11_tries rfl ?_
                                refine fz_nmw (fun z704 e705 => ?_)
                                refine fz_callV (d' := 6) (M' := mX11_tries) (As := [fz_i pe, fz_i (h 56 (x551.toNat)), fz_i z678, fz_i 2, fz_i z704]) (st := []) kX11_tries rfl rfl vX11_tries rfl rfl rfl rfl (Nat.le_of_ble_eq_true rfl) (Nat.le_of_ble_eq_true rfl) (by decide) (sX11_tries_2 H695 hI699 pe (h 56 (x551.toNat)) z678 z704 (by omega)) (fun H706 r707 q708 o709 => ?_)
                                obtain ⟨hI710, hf711, rfl⟩ := q708
                                clear o709
                                have hf712 := fz_fr_tr hf703 hf711 (show fz_su [(53, 54), (53, 55), (74, 99999), (75, 99999), (89, 99999), (90, 99999)] [(53, 54), (53, 55), (74, 99999), (75, 99999), (89, 99999), (90, 99999)] = true from rfl)
                                refine fz_iincN (ls' := [(6, fz_i (x551 + 1)), (8, fz_i z678), (7, fz_i (h 56 (x551.toNat))), (0, fz_r 53), (1, fz_i pe), (2, fz_i t), (3, fz_i hr), (4, fz_i 1), (5, fz_i su)]) kX11_tries rfl (by decide) rfl (by omega) rfl ?_
                                refine fz_goto (tgt := 79) kX11_tries rfl (by decide) ?_
                                refine fz_sub (fz_pk_sub (ls' := [(6, fz_i (x551 + 1)), (0, fz_r 53), (1, fz_i pe), (2, fz_i t), (3, fz_i hr), (4, fz_i 1), (5, fz_i su)]) [0, 3, 4, 5, 6, 7, 8] rfl) ?_
                                exact ih557 (x551 + 1) H706 hI710 hf712 (by omega) (by omega)
                              · refine fz_goto (tgt := 211) kX11_tries rfl (by decide) ?_
                                refine fz_iincN (ls' := [(6, fz_i (x551 + 1)), (8, fz_i z678), (7, fz_i (h 56 (x551.toNat))), (0, fz_r 53), (1, fz_i pe), (2, fz_i t), (3, fz_i hr), (4, fz_i 1), (5, fz_i su)]) kX11_tries rfl (by decide) rfl (by omega) rfl ?_
                                refine fz_goto (tgt := 79) kX11_tries rfl (by decide) ?_
                                refine fz_sub (fz_pk_sub (ls' := [(6, fz_i (x551 + 1)), (0, fz_r 53), (1, fz_i pe), (2, fz_i t), (3, fz_i hr), (4, fz_i 1), (5, fz_i su)]) [0, 3, 4, 5, 6, 7, 8] rfl) ?_
                                exact ih557 (x551 + 1) H681 hI685 hf689 (by omega) (by omega)
                        · refine fz_goto (tgt := 211) kX11_tries rfl (by decide) ?_
                          refine fz_iincN (ls' := [(6, fz_i (x551 + 1)), (0, fz_r 53), (1, fz_i pe), (2, fz_i t), (3, fz_i hr), (4, fz_i 1), (5, fz_i su)]) kX11_tries rfl (by decide) rfl (by omega) rfl ?_
                          refine fz_goto (tgt := 79) kX11_tries rfl (by decide) ?_
                          exact ih557 (x551 + 1) H552 hI553 hf554 (by omega) (by omega)
                exact lp556 _ 0 H541 hI542 hf543 (by omega) (Nat.lt_succ_self _)
              · exfalso; omega
            · refine fz_aload_n kX11_tries rfl rfl ?_
              refine fz_getR (t := 89) kX11_tries rfl rfl ?_
              refine fz_iload kX11_tries rfl rfl ?_
              refine fz_aload_n kX11_tries rfl rfl ?_
              refine fz_getR (t := 90) kX11_tries rfl rfl ?_
              refine fz_iload kX11_tries rfl rfl ?_
              obtain ⟨v713, e714⟩ : ∃ z, H541 90 (x540.toNat) = z := ⟨_, rfl⟩
              refine fz_ialdV (n := 4) (v := v713) kX11_tries rfl rfl (by omega) (by omega) e714 ?_
              have b715 : 0 ≤ v713 ∧ v713 ≤ 7 := by rw [← e714]; exact hI542.1 90 _
              refine fz_iast (n := 4) kX11_tries rfl rfl (by omega) (by omega) ?_
              refine fz_nmu (S := [(53, 54), (53, 55), (74, 99999), (75, 99999), (89, 99999), (90, 99999)]) (h0 := h) (fz_Iv_up hI542 (by decide) (show 0 ≤ v713 by omega) (show v713 ≤ 7 by omega)) (fz_fr_up hf543 rfl) (fun H716 hI717 hf718 e719 => ?_)
              clear e719
              refine fz_iincN (ls' := [(6, fz_i (x540 + 1)), (0, fz_r 53), (1, fz_i pe), (2, fz_i t), (3, fz_i hr), (4, fz_i 1), (5, fz_i su)]) kX11_tries rfl (by decide) rfl (by omega) rfl ?_
              refine fz_goto (tgt := 42) kX11_tries rfl (by decide) ?_
              exact ih546 (x540 + 1) H716 hI717 hf718 (by omega) (by omega)
        exact lp545 _ 0 H534 hI535 hf536 (by omega) (Nat.lt_succ_self _)

abbrev qX11_tries_0 (h : fz_H) (pe t hr su : Int) : fz_H → Option fz_V → Prop := fun h' r0 => fz_Iv h' ∧ fz_fr [(53, 54), (53, 55), (74, 99999), (75, 99999), (89, 99999), (90, 99999)] h h' ∧ r0 = none
set_option maxHeartbeats 1000000 in
set_option maxRecDepth 100000 in
theorem sX11_tries_0 (h : fz_H) (hI : fz_Iv h) (pe t hr su : Int) (hp0 : 0 ≤ t ∧ t ≤ 7) : fz_R 8 mX11_tries 0 [(0, fz_r 53), (1, fz_i pe), (2, fz_i t), (3, fz_i hr), (4, fz_i 0), (5, fz_i su)] [] h (qX11_tries_0 h pe t hr su) := by
  refine fz_knowl (fun hk => ?_)
  have hr_pe : -2147483648 ≤ pe ∧ pe < 2147483648 := hk _ (List.Mem.tail _ (List.Mem.head _))
  have hr_t : -2147483648 ≤ t ∧ t < 2147483648 := hk _ (List.Mem.tail _ (List.Mem.tail _ (List.Mem.head _)))
  have hr_hr : -2147483648 ≤ hr ∧ hr < 2147483648 := hk _ (List.Mem.tail _ (List.Mem.tail _ (List.Mem.tail _ (List.Mem.head _))))
  have hr_su : -2147483648 ≤ su ∧ su < 2147483648 := hk _ (List.Mem.tail _ (List.Mem.tail _ (List.Mem.tail _ (List.Mem.tail _ (List.Mem.tail _ (List.Mem.head _))))))
  clear hk
  have hf : fz_fr [(53, 54), (53, 55), (74, 99999), (75, 99999), (89, 99999), (90, 99999)] h h := fz_fr_rf
  refine fz_iload kX11_tries rfl rfl ?_
  refine fz_aload_n kX11_tries rfl rfl ?_
  refine fz_getV (v := h 53 54) kX11_tries rfl rfl rfl ?_
  have b1 : (-2147483648) ≤ h 53 54 ∧ h 53 54 ≤ 2147483647 := hI.1 53 _
  refine fz_icmp_gt (tgt := 27) kX11_tries rfl (by decide) (fun c2 => ?_) (fun c2 => ?_)
  · refine fz_aload_n kX11_tries rfl rfl ?_
    refine fz_iload kX11_tries rfl rfl ?_
    refine fz_putI kX11_tries rfl rfl rfl ?_
    refine fz_nmu (S := [(53, 54), (53, 55), (74, 99999), (75, 99999), (89, 99999), (90, 99999)]) (h0 := h) (fz_Iv_up hI (by decide) (show (-2147483648) ≤ su by omega) (show su ≤ 2147483647 by omega)) (fz_fr_up hf rfl) (fun H3 hI4 hf5 e6 => ?_)
    have k7 : H3 53 54 = su := by rw [e6]; exact fz_up_e
    clear e6
    refine fz_aload_n kX11_tries rfl rfl ?_
    refine fz_iload kX11_tries rfl rfl ?_
    refine fz_putI kX11_tries rfl rfl rfl ?_
    refine fz_nmu (S := [(53, 54), (53, 55), (74, 99999), (75, 99999), (89, 99999), (90, 99999)]) (h0 := h) (fz_Iv_up hI4 (by decide) (show 0 ≤ 0 by omega) (show 0 ≤ 4 by omega)) (fz_fr_up hf5 rfl) (fun H8 hI9 hf10 e11 => ?_)
    have k12 : H8 53 54 = su := by rw [e11]; exact (fz_up_s (by decide)).trans k7
    have k13 : H8 53 55 = 0 := by rw [e11]; exact fz_up_e
    clear e11
    refine fz_iconst ⟨by decide, by decide⟩ kX11_tries rfl ?_
    refine fz_istore (ls' := [(6, fz_i 0), (0, fz_r 53), (1, fz_i pe), (2, fz_i t), (3, fz_i hr), (4, fz_i 0), (5, fz_i su)]) kX11_tries rfl (by decide) rfl ?_
    have lp19 : ∀ (n18 : Nat) (x14 : Int) (H15 : fz_H), fz_Iv H15 → fz_fr [(53, 54), (53, 55), (74, 99999), (75, 99999), (89, 99999), (90, 99999)] h H15 → (0 ≤ x14 ∧ x14 ≤ 2147483647) → (0 - x14).toNat < n18 → fz_R 8 mX11_tries 42 [(6, fz_i x14), (0, fz_r 53), (1, fz_i pe), (2, fz_i t), (3, fz_i hr), (4, fz_i 0), (5, fz_i su)] [] H15 (qX11_tries_0 h pe t hr su) := by
      intro n18
      induction n18 with
      | zero => intro x14 H15 hI16 hf17 hv22 hm21; exact absurd hm21 (by omega)
      | succ n18 ih20 =>
        intro x14 H15 hI16 hf17 hv22 hm21
        refine fz_iload kX11_tries rfl rfl ?_
        refine fz_iload kX11_tries rfl rfl ?_
        refine fz_icmp_ge (tgt := 69) kX11_tries rfl (by decide) (fun c23 => ?_) (fun c23 => ?_)
        · refine fz_iload kX11_tries rfl rfl ?_
          refine fz_iconst ⟨by decide, by decide⟩ kX11_tries rfl ?_
          refine fz_icmp_ne (tgt := 76) kX11_tries rfl (by decide) (fun c24 => ?_) (fun c24 => ?_)
          · refine fz_iconst ⟨by decide, by decide⟩ kX11_tries rfl ?_
            refine fz_istore (ls' := [(6, fz_i 0), (0, fz_r 53), (1, fz_i pe), (2, fz_i t), (3, fz_i hr), (4, fz_i 0), (5, fz_i su)]) kX11_tries rfl (by decide) rfl ?_
            have lp30 : ∀ (n29 : Nat) (x25 : Int) (H26 : fz_H), fz_Iv H26 → fz_fr [(53, 54), (53, 55), (74, 99999), (75, 99999), (89, 99999), (90, 99999)] h H26 → (0 ≤ x25 ∧ x25 ≤ 2147483647) → ((h 53 2) - x25).toNat < n29 → fz_R 8 mX11_tries 79 [(6, fz_i x25), (0, fz_r 53), (1, fz_i pe), (2, fz_i t), (3, fz_i hr), (4, fz_i 0), (5, fz_i su)] [] H26 (qX11_tries_0 h pe t hr su) := by
              intro n29
              induction n29 with
              | zero => intro x25 H26 hI27 hf28 hv33 hm32; exact absurd hm32 (by omega)
              | succ n29 ih31 =>
                intro x25 H26 hI27 hf28 hv33 hm32
                refine fz_iload kX11_tries rfl rfl ?_
                refine fz_aload_n kX11_tries rfl rfl ?_
                refine fz_getV (v := h 53 2) kX11_tries rfl rfl (hf28 53 2 rfl) ?_
                have b34 : 0 ≤ h 53 2 ∧ h 53 2 ≤ 12 := hI.1 53 _
                refine fz_icmp_ge (tgt := 217) kX11_tries rfl (by decide) (fun c35 => ?_) (fun c35 => ?_)
                · exact fz_vret kX11_tries rfl rfl ⟨hI27, hf28, rfl⟩
                · refine fz_aload_n kX11_tries rfl rfl ?_
                  refine fz_getR (t := 55) kX11_tries rfl rfl ?_
                  refine fz_iload kX11_tries rfl rfl ?_
                  refine fz_ialdV (n := 12) (v := h 55 (x25.toNat)) kX11_tries rfl rfl (by omega) (by omega) (hf28 55 _ rfl) ?_
                  have b36 : 0 ≤ h 55 (x25.toNat) ∧ h 55 (x25.toNat) ≤ 7 := hI.1 55 _
                  refine fz_iload_n kX11_tries rfl rfl ?_
                  refine fz_icmp_eq (tgt := 113) kX11_tries rfl (by decide) (fun c37 => ?_) (fun c37 => ?_)
                  · refine fz_aload_n kX11_tries rfl rfl ?_
                    refine fz_getR (t := 55) kX11_tries rfl rfl ?_
                    refine fz_iload kX11_tries rfl rfl ?_
                    refine fz_ialdV (n := 12) (v := h 55 (x25.toNat)) kX11_tries rfl rfl (by omega) (by omega) (hf28 55 _ rfl) ?_
                    refine fz_iload_n kX11_tries rfl rfl ?_
                    refine fz_icmp_ne (tgt := 134) kX11_tries rfl (by decide) (fun c38 => ?_) (fun c38 => ?_)
                    · refine fz_aload_n kX11_tries rfl rfl ?_
                      refine fz_getR (t := 55) kX11_tries rfl rfl ?_
                      refine fz_iload kX11_tries rfl rfl ?_
                      refine fz_ialdV (n := 12) (v := h 55 (x25.toNat)) kX11_tries rfl rfl (by omega) (by omega) (hf28 55 _ rfl) ?_
                      refine fz_istore (ls' := [(7, fz_i (h 55 (x25.toNat))), (6, fz_i x25), (0, fz_r 53), (1, fz_i pe), (2, fz_i t), (3, fz_i hr), (4, fz_i 0), (5, fz_i su)]) kX11_tries rfl (by decide) rfl ?_
                      refine fz_iload_n kX11_tries rfl rfl ?_
                      refine fz_aload_n kX11_tries rfl rfl ?_
                      refine fz_getR (t := 57) kX11_tries rfl rfl ?_
                      refine fz_iload kX11_tries rfl rfl ?_
                      refine fz_ialdV (n := 12) (v := h 57 (x25.toNat)) kX11_tries rfl rfl (by omega) (by omega) (hf28 57 _ rfl) ?_
                      have b39 : 0 ≤ h 57 (x25.toNat) ∧ h 57 (x25.toNat) ≤ 24 := hI.1 57 _
                      refine fz_iadd kX11_tries rfl ?_
                      refine fz_nmw (fun z40 e41 => ?_)
                      refine fz_istore (ls' := [(8, fz_i z40), (7, fz_i (h 55 (x25.toNat))), (6, fz_i x25), (0, fz_r 53), (1, fz_i pe), (2, fz_i t), (3, fz_i hr), (4, fz_i 0), (5, fz_i su)]) kX11_tries rfl (by decide) rfl ?_
                      refine fz_iload kX11_tries rfl rfl ?_
                      refine fz_sipush ⟨by decide, by decide⟩ kX11_tries rfl ?_
                      refine fz_icmp_gt (tgt := 211) kX11_tries rfl (by decide) (fun c42 => ?_) (fun c42 => ?_)
                      · refine fz_iincN (ls' := [(6, fz_i (x25 + 1)), (8, fz_i z40), (7, fz_i (h 55 (x25.toNat))), (0, fz_r 53), (1, fz_i pe), (2, fz_i t), (3, fz_i hr), (4, fz_i 0), (5, fz_i su)]) kX11_tries rfl (by decide) rfl (by omega) rfl ?_
                        refine fz_goto (tgt := 79) kX11_tries rfl (by decide) ?_
                        refine fz_sub (fz_pk_sub (ls' := [(6, fz_i (x25 + 1)), (0, fz_r 53), (1, fz_i pe), (2, fz_i t), (3, fz_i hr), (4, fz_i 0), (5, fz_i su)]) [0, 3, 4, 5, 6, 7, 8] rfl) ?_
                        exact ih31 (x25 + 1) H26 hI27 hf28 (by omega) (by omega)
                      · refine fz_aload_n kX11_tries rfl rfl ?_
                        refine fz_iload_n kX11_tries rfl rfl ?_
                        refine fz_iload kX11_tries rfl rfl ?_
                        refine fz_iload kX11_tries rfl rfl ?_
                        refine fz_callV (d' := 4) (M' := mX11_isArrested) (As := [fz_i pe, fz_i (h 55 (x25.toNat)), fz_i z40]) (st := []) kX11_tries rfl rfl vX11_isArrested rfl rfl rfl rfl (Nat.le_of_ble_eq_true rfl) (Nat.le_of_ble_eq_true rfl) (by decide) (sX11_isArrested H26 hI27 pe (h 55 (x25.toNat)) z40 (by omega)) (fun H43 r44 q45 o46 => ?_)
                        obtain ⟨hI47, hf48, y49, rfl, p50⟩ := q45
                        clear o46
                        have hf51 := fz_fr_tr hf28 hf48 (show fz_su [(74, 99999), (75, 99999)] [(53, 54), (53, 55), (74, 99999), (75, 99999), (89, 99999), (90, 99999)] = true from rfl)
                        refine fz_if_eq (tgt := 177) kX11_tries rfl (by decide) (fun c52 => ?_) (fun c52 => ?_)
                        · refine fz_aload_n kX11_tries rfl rfl ?_
                          refine fz_getR (t := 90) kX11_tries rfl rfl ?_
                          refine fz_iload kX11_tries rfl rfl ?_
                          refine fz_iload kX11_tries rfl rfl ?_
                          refine fz_iast (n := 4) kX11_tries rfl rfl (by omega) (by omega) ?_
                          refine fz_nmu (S := [(53, 54), (53, 55), (74, 99999), (75, 99999), (89, 99999), (90, 99999)]) (h0 := h) (fz_Iv_up hI47 (by decide) (show 0 ≤ (h 55 (x25.toNat)) by omega) (show (h 55 (x25.toNat)) ≤ 7 by omega)) (fz_fr_up hf51 rfl) (fun H53 hI54 hf55 e56 => ?_)
                          clear e56
                          refine fz_aload_n kX11_tries rfl rfl ?_
                          refine fz_iload_n kX11_tries rfl rfl ?_
                          refine fz_iload kX11_tries rfl rfl ?_
                          refine fz_iload kX11_tries rfl rfl ?_
                          refine fz_iload kX11_tries rfl rfl ?_
                          refine fz_iconst ⟨by decide, by decide⟩ kX11_tries rfl ?_
                          refine fz_iaddN kX11_tries rfl ⟨by decide, by decide⟩ ?_
                          refine fz_eqi (y := 1) rfl ?_
                          refine fz_iload kX11_tries rfl rfl ?_
                          refine fz_aload_n kX11_tries rfl rfl ?_
                          refine fz_iload_n kX11_tries rfl rfl ?_
                          refine fz_iload kX11_tries rfl rfl ?_
                          refine fz_iload kX11_tries rfl rfl ?_
                          refine fz_callV (d' := 4) (M' := mX11_receivedIn) (As := [fz_i pe, fz_i (h 55 (x25.toNat)), fz_i z40]) (st := [fz_i su, fz_i 1, fz_i z40, fz_i (h 55 (x25.toNat)), fz_i pe, fz_r 53]) kX11_tries rfl rfl vX11_receivedIn rfl rfl rfl rfl (Nat.le_of_ble_eq_true rfl) (Nat.le_of_ble_eq_true rfl) (by decide) (sX11_receivedIn H53 hI54 pe (h 55 (x25.toNat)) z40 (by omega)) (fun H57 r58 q59 o60 => ?_)
                          obtain ⟨hI61, hf62, y64, rfl, f63⟩ := q59
                          clear o60
                          have hf65 := fz_fr_tr hf55 hf62 (show fz_su [(74, 99999), (75, 99999)] [(53, 54), (53, 55), (74, 99999), (75, 99999), (89, 99999), (90, 99999)] = true from rfl)
                          refine fz_iadd kX11_tries rfl ?_
                          refine fz_nmw (fun z66 e67 => ?_)
                          refine fz_callV (d' := 7) (M' := mX11_tries) (As := [fz_i pe, fz_i (h 55 (x25.toNat)), fz_i z40, fz_i 1, fz_i z66]) (st := []) kX11_tries rfl rfl vX11_tries rfl rfl rfl rfl (Nat.le_of_ble_eq_true rfl) (Nat.le_of_ble_eq_true rfl) (by decide) (sX11_tries_1 H57 hI61 pe (h 55 (x25.toNat)) z40 z66 (by omega)) (fun H68 r69 q70 o71 => ?_)
                          obtain ⟨hI72, hf73, rfl⟩ := q70
                          clear o71
                          have hf74 := fz_fr_tr hf65 hf73 (show fz_su [(53, 54), (53, 55), (74, 99999), (75, 99999), (89, 99999), (90, 99999)] [(53, 54), (53, 55), (74, 99999), (75, 99999), (89, 99999), (90, 99999)] = true from rfl)
                          refine fz_iincN (ls' := [(6, fz_i (x25 + 1)), (8, fz_i z40), (7, fz_i (h 55 (x25.toNat))), (0, fz_r 53), (1, fz_i pe), (2, fz_i t), (3, fz_i hr), (4, fz_i 0), (5, fz_i su)]) kX11_tries rfl (by decide) rfl (by omega) rfl ?_
                          refine fz_goto (tgt := 79) kX11_tries rfl (by decide) ?_
                          refine fz_sub (fz_pk_sub (ls' := [(6, fz_i (x25 + 1)), (0, fz_r 53), (1, fz_i pe), (2, fz_i t), (3, fz_i hr), (4, fz_i 0), (5, fz_i su)]) [0, 3, 4, 5, 6, 7, 8] rfl) ?_
                          exact ih31 (x25 + 1) H68 hI72 hf74 (by omega) (by omega)
                        · refine fz_goto (tgt := 211) kX11_tries rfl (by decide) ?_
                          refine fz_iincN (ls' := [(6, fz_i (x25 + 1)), (8, fz_i z40), (7, fz_i (h 55 (x25.toNat))), (0, fz_r 53), (1, fz_i pe), (2, fz_i t), (3, fz_i hr), (4, fz_i 0), (5, fz_i su)]) kX11_tries rfl (by decide) rfl (by omega) rfl ?_
                          refine fz_goto (tgt := 79) kX11_tries rfl (by decide) ?_
                          refine fz_sub (fz_pk_sub (ls' := [(6, fz_i (x25 + 1)), (0, fz_r 53), (1, fz_i pe), (2, fz_i t), (3, fz_i hr), (4, fz_i 0), (5, fz_i su)]) [0, 3, 4, 5, 6, 7, 8] rfl) ?_
                          exact ih31 (x25 + 1) H43 hI47 hf51 (by omega) (by omega)
                    · refine fz_aload_n kX11_tries rfl rfl ?_
                      refine fz_getR (t := 56) kX11_tries rfl rfl ?_
                      refine fz_iload kX11_tries rfl rfl ?_
                      refine fz_ialdV (n := 12) (v := h 56 (x25.toNat)) kX11_tries rfl rfl (by omega) (by omega) (hf28 56 _ rfl) ?_
                      have b75 : 0 ≤ h 56 (x25.toNat) ∧ h 56 (x25.toNat) ≤ 7 := hI.1 56 _
                      refine fz_goto (tgt := 141) kX11_tries rfl (by decide) ?_
                      refine fz_istore (ls' := [(7, fz_i (h 56 (x25.toNat))), (6, fz_i x25), (0, fz_r 53), (1, fz_i pe), (2, fz_i t), (3, fz_i hr), (4, fz_i 0), (5, fz_i su)]) kX11_tries rfl (by decide) rfl ?_
                      refine fz_iload_n kX11_tries rfl rfl ?_
                      refine fz_aload_n kX11_tries rfl rfl ?_
                      refine fz_getR (t := 57) kX11_tries rfl rfl ?_
                      refine fz_iload kX11_tries rfl rfl ?_
                      refine fz_ialdV (n := 12) (v := h 57 (x25.toNat)) kX11_tries rfl rfl (by omega) (by omega) (hf28 57 _ rfl) ?_
                      have b76 : 0 ≤ h 57 (x25.toNat) ∧ h 57 (x25.toNat) ≤ 24 := hI.1 57 _
                      refine fz_iadd kX11_tries rfl ?_
                      refine fz_nmw (fun z77 e78 => ?_)
                      refine fz_istore (ls' := [(8, fz_i z77), (7, fz_i (h 56 (x25.toNat))), (6, fz_i x25), (0, fz_r 53), (1, fz_i pe), (2, fz_i t), (3, fz_i hr), (4, fz_i 0), (5, fz_i su)]) kX11_tries rfl (by decide) rfl ?_
                      refine fz_iload kX11_tries rfl rfl ?_
                      refine fz_sipush ⟨by decide, by decide⟩ kX11_tries rfl ?_
                      refine fz_icmp_gt (tgt := 211) kX11_tries rfl (by decide) (fun c79 => ?_) (fun c79 => ?_)
                      · refine fz_iincN (ls' := [(6, fz_i (x25 + 1)), (8, fz_i z77), (7, fz_i (h 56 (x25.toNat))), (0, fz_r 53), (1, fz_i pe), (2, fz_i t), (3, fz_i hr), (4, fz_i 0), (5, fz_i su)]) kX11_tries rfl (by decide) rfl (by omega) rfl ?_
                        refine fz_goto (tgt := 79) kX11_tries rfl (by decide) ?_
                        refine fz_sub (fz_pk_sub (ls' := [(6, fz_i (x25 + 1)), (0, fz_r 53), (1, fz_i pe), (2, fz_i t), (3, fz_i hr), (4, fz_i 0), (5, fz_i su)]) [0, 3, 4, 5, 6, 7, 8] rfl) ?_
                        exact ih31 (x25 + 1) H26 hI27 hf28 (by omega) (by omega)
                      · refine fz_aload_n kX11_tries rfl rfl ?_
                        refine fz_iload_n kX11_tries rfl rfl ?_
                        refine fz_iload kX11_tries rfl rfl ?_
                        refine fz_iload kX11_tries rfl rfl ?_
                        refine fz_callV (d' := 4) (M' := mX11_isArrested) (As := [fz_i pe, fz_i (h 56 (x25.toNat)), fz_i z77]) (st := []) kX11_tries rfl rfl vX11_isArrested rfl rfl rfl rfl (Nat.le_of_ble_eq_true rfl) (Nat.le_of_ble_eq_true rfl) (by decide) (sX11_isArrested H26 hI27 pe (h 56 (x25.toNat)) z77 (by omega)) (fun H80 r81 q82 o83 => ?_)
                        obtain ⟨hI84, hf85, y86, rfl, p87⟩ := q82
                        clear o83
                        have hf88 := fz_fr_tr hf28 hf85 (show fz_su [(74, 99999), (75, 99999)] [(53, 54), (53, 55), (74, 99999), (75, 99999), (89, 99999), (90, 99999)] = true from rfl)
                        refine fz_if_eq (tgt := 177) kX11_tries rfl (by decide) (fun c89 => ?_) (fun c89 => ?_)
                        · refine fz_aload_n kX11_tries rfl rfl ?_
                          refine fz_getR (t := 90) kX11_tries rfl rfl ?_
                          refine fz_iload kX11_tries rfl rfl ?_
                          refine fz_iload kX11_tries rfl rfl ?_
                          refine fz_iast (n := 4) kX11_tries rfl rfl (by omega) (by omega) ?_
                          refine fz_nmu (S := [(53, 54), (53, 55), (74, 99999), (75, 99999), (89, 99999), (90, 99999)]) (h0 := h) (fz_Iv_up hI84 (by decide) (show 0 ≤ (h 56 (x25.toNat)) by omega) (show (h 56 (x25.toNat)) ≤ 7 by omega)) (fz_fr_up hf88 rfl) (fun H90 hI91 hf92 e93 => ?_)
                          clear e93
                          refine fz_aload_n kX11_tries rfl rfl ?_
                          refine fz_iload_n kX11_tries rfl rfl ?_
                          refine fz_iload kX11_tries rfl rfl ?_
                          refine fz_iload kX11_tries rfl rfl ?_
                          refine fz_iload kX11_tries rfl rfl ?_
                          refine fz_iconst ⟨by decide, by decide⟩ kX11_tries rfl ?_
                          refine fz_iaddN kX11_tries rfl ⟨by decide, by decide⟩ ?_
                          refine fz_eqi (y := 1) rfl ?_
                          refine fz_iload kX11_tries rfl rfl ?_
                          refine fz_aload_n kX11_tries rfl rfl ?_
                          refine fz_iload_n kX11_tries rfl rfl ?_
                          refine fz_iload kX11_tries rfl rfl ?_
                          refine fz_iload kX11_tries rfl rfl ?_
                          refine fz_callV (d' := 4) (M' := mX11_receivedIn) (As := [fz_i pe, fz_i (h 56 (x25.toNat)), fz_i z77]) (st := [fz_i su, fz_i 1, fz_i z77, fz_i (h 56 (x25.toNat)), fz_i pe, fz_r 53]) kX11_tries rfl rfl vX11_receivedIn rfl rfl rfl rfl (Nat.le_of_ble_eq_true rfl) (Nat.le_of_ble_eq_true rfl) (by decide) (sX11_receivedIn H90 hI91 pe (h 56 (x25.toNat)) z77 (by omega)) (fun H94 r95 q96 o97 => ?_)
                          obtain ⟨hI98, hf99, y101, rfl, f100⟩ := q96
                          clear o97
                          have hf102 := fz_fr_tr hf92 hf99 (show fz_su [(74, 99999), (75, 99999)] [(53, 54), (53, 55), (74, 99999), (75, 99999), (89, 99999), (90, 99999)] = true from rfl)
                          refine fz_iadd kX11_tries rfl ?_
                          refine fz_nmw (fun z103 e104 => ?_)
                          refine fz_callV (d' := 7) (M' := mX11_tries) (As := [fz_i pe, fz_i (h 56 (x25.toNat)), fz_i z77, fz_i 1, fz_i z103]) (st := []) kX11_tries rfl rfl vX11_tries rfl rfl rfl rfl (Nat.le_of_ble_eq_true rfl) (Nat.le_of_ble_eq_true rfl) (by decide) (sX11_tries_1 H94 hI98 pe (h 56 (x25.toNat)) z77 z103 (by omega)) (fun H105 r106 q107 o108 => ?_)
                          obtain ⟨hI109, hf110, rfl⟩ := q107
                          clear o108
                          have hf111 := fz_fr_tr hf102 hf110 (show fz_su [(53, 54), (53, 55), (74, 99999), (75, 99999), (89, 99999), (90, 99999)] [(53, 54), (53, 55), (74, 99999), (75, 99999), (89, 99999), (90, 99999)] = true from rfl)
                          refine fz_iincN (ls' := [(6, fz_i (x25 + 1)), (8, fz_i z77), (7, fz_i (h 56 (x25.toNat))), (0, fz_r 53), (1, fz_i pe), (2, fz_i t), (3, fz_i hr), (4, fz_i 0), (5, fz_i su)]) kX11_tries rfl (by decide) rfl (by omega) rfl ?_
                          refine fz_goto (tgt := 79) kX11_tries rfl (by decide) ?_
                          refine fz_sub (fz_pk_sub (ls' := [(6, fz_i (x25 + 1)), (0, fz_r 53), (1, fz_i pe), (2, fz_i t), (3, fz_i hr), (4, fz_i 0), (5, fz_i su)]) [0, 3, 4, 5, 6, 7, 8] rfl) ?_
                          exact ih31 (x25 + 1) H105 hI109 hf111 (by omega) (by omega)
                        · refine fz_goto (tgt := 211) kX11_tries rfl (by decide) ?_
                          refine fz_iincN (ls' := [(6, fz_i (x25 + 1)), (8, fz_i z77), (7, fz_i (h 56 (x25.toNat))), (0, fz_r 53), (1, fz_i pe), (2, fz_i t), (3, fz_i hr), (4, fz_i 0), (5, fz_i su)]) kX11_tries rfl (by decide) rfl (by omega) rfl ?_
                          refine fz_goto (tgt := 79) kX11_tries rfl (by decide) ?_
                          refine fz_sub (fz_pk_sub (ls' := [(6, fz_i (x25 + 1)), (0, fz_r 53), (1, fz_i pe), (2, fz_i t), (3, fz_i hr), (4, fz_i 0), (5, fz_i su)]) [0, 3, 4, 5, 6, 7, 8] rfl) ?_
                          exact ih31 (x25 + 1) H80 hI84 hf88 (by omega) (by omega)
                  · refine fz_aload_n kX11_tries rfl rfl ?_
                    refine fz_getR (t := 56) kX11_tries rfl rfl ?_
                    refine fz_iload kX11_tries rfl rfl ?_
                    refine fz_ialdV (n := 12) (v := h 56 (x25.toNat)) kX11_tries rfl rfl (by omega) (by omega) (hf28 56 _ rfl) ?_
                    have b112 : 0 ≤ h 56 (x25.toNat) ∧ h 56 (x25.toNat) ≤ 7 := hI.1 56 _
                    refine fz_iload_n kX11_tries rfl rfl ?_
                    refine fz_icmp_eq (tgt := 113) kX11_tries rfl (by decide) (fun c113 => ?_) (fun c113 => ?_)
                    · refine fz_aload_n kX11_tries rfl rfl ?_
                      refine fz_getR (t := 55) kX11_tries rfl rfl ?_
                      refine fz_iload kX11_tries rfl rfl ?_
                      refine fz_ialdV (n := 12) (v := h 55 (x25.toNat)) kX11_tries rfl rfl (by omega) (by omega) (hf28 55 _ rfl) ?_
                      refine fz_iload_n kX11_tries rfl rfl ?_
                      refine fz_icmp_ne (tgt := 134) kX11_tries rfl (by decide) (fun c114 => ?_) (fun c114 => ?_)
                      · refine fz_aload_n kX11_tries rfl rfl ?_
                        refine fz_getR (t := 55) kX11_tries rfl rfl ?_
                        refine fz_iload kX11_tries rfl rfl ?_
                        refine fz_ialdV (n := 12) (v := h 55 (x25.toNat)) kX11_tries rfl rfl (by omega) (by omega) (hf28 55 _ rfl) ?_
                        refine fz_istore (ls' := [(7, fz_i (h 55 (x25.toNat))), (6, fz_i x25), (0, fz_r 53), (1, fz_i pe), (2, fz_i t), (3, fz_i hr), (4, fz_i 0), (5, fz_i su)]) kX11_tries rfl (by decide) rfl ?_
                        refine fz_iload_n kX11_tries rfl rfl ?_
                        refine fz_aload_n kX11_tries rfl rfl ?_
                        refine fz_getR (t := 57) kX11_tries rfl rfl ?_
                        refine fz_iload kX11_tries rfl rfl ?_
                        refine fz_ialdV (n := 12) (v := h 57 (x25.toNat)) kX11_tries rfl rfl (by omega) (by omega) (hf28 57 _ rfl) ?_
                        have b115 : 0 ≤ h 57 (x25.toNat) ∧ h 57 (x25.toNat) ≤ 24 := hI.1 57 _
                        refine fz_iadd kX11_tries rfl ?_
                        refine fz_nmw (fun z116 e117 => ?_)
                        refine fz_istore (ls' := [(8, fz_i z116), (7, fz_i (h 55 (x25.toNat))), (6, fz_i x25), (0, fz_r 53), (1, fz_i pe), (2, fz_i t), (3, fz_i hr), (4, fz_i 0), (5, fz_i su)]) kX11_tries rfl (by decide) rfl ?_
                        refine fz_iload kX11_tries rfl rfl ?_
                        refine fz_sipush ⟨by decide, by decide⟩ kX11_tries rfl ?_
                        refine fz_icmp_gt (tgt := 211) kX11_tries rfl (by decide) (fun c118 => ?_) (fun c118 => ?_)
                        · refine fz_iincN (ls' := [(6, fz_i (x25 + 1)), (8, fz_i z116), (7, fz_i (h 55 (x25.toNat))), (0, fz_r 53), (1, fz_i pe), (2, fz_i t), (3, fz_i hr), (4, fz_i 0), (5, fz_i su)]) kX11_tries rfl (by decide) rfl (by omega) rfl ?_
                          refine fz_goto (tgt := 79) kX11_tries rfl (by decide) ?_
                          refine fz_sub (fz_pk_sub (ls' := [(6, fz_i (x25 + 1)), (0, fz_r 53), (1, fz_i pe), (2, fz_i t), (3, fz_i hr), (4, fz_i 0), (5, fz_i su)]) [0, 3, 4, 5, 6, 7, 8] rfl) ?_
                          exact ih31 (x25 + 1) H26 hI27 hf28 (by omega) (by omega)
                        · refine fz_aload_n kX11_tries rfl rfl ?_
                          refine fz_iload_n kX11_tries rfl rfl ?_
                          refine fz_iload kX11_tries rfl rfl ?_
                          refine fz_iload kX11_tries rfl rfl ?_
                          refine fz_callV (d' := 4) (M' := mX11_isArrested) (As := [fz_i pe, fz_i (h 55 (x25.toNat)), fz_i z116]) (st := []) kX11_tries rfl rfl vX11_isArrested rfl rfl rfl rfl (Nat.le_of_ble_eq_true rfl) (Nat.le_of_ble_eq_true rfl) (by decide) (sX11_isArrested H26 hI27 pe (h 55 (x25.toNat)) z116 (by omega)) (fun H119 r120 q121 o122 => ?_)
                          obtain ⟨hI123, hf124, y125, rfl, p126⟩ := q121
                          clear o122
                          have hf127 := fz_fr_tr hf28 hf124 (show fz_su [(74, 99999), (75, 99999)] [(53, 54), (53, 55), (74, 99999), (75, 99999), (89, 99999), (90, 99999)] = true from rfl)
                          refine fz_if_eq (tgt := 177) kX11_tries rfl (by decide) (fun c128 => ?_) (fun c128 => ?_)
                          · refine fz_aload_n kX11_tries rfl rfl ?_
                            refine fz_getR (t := 90) kX11_tries rfl rfl ?_
                            refine fz_iload kX11_tries rfl rfl ?_
                            refine fz_iload kX11_tries rfl rfl ?_
                            refine fz_iast (n := 4) kX11_tries rfl rfl (by omega) (by omega) ?_
                            refine fz_nmu (S := [(53, 54), (53, 55), (74, 99999), (75, 99999), (89, 99999), (90, 99999)]) (h0 := h) (fz_Iv_up hI123 (by decide) (show 0 ≤ (h 55 (x25.toNat)) by omega) (show (h 55 (x25.toNat)) ≤ 7 by omega)) (fz_fr_up hf127 rfl) (fun H129 hI130 hf131 e132 => ?_)
                            clear e132
                            refine fz_aload_n kX11_tries rfl rfl ?_
                            refine fz_iload_n kX11_tries rfl rfl ?_
                            refine fz_iload kX11_tries rfl rfl ?_
                            refine fz_iload kX11_tries rfl rfl ?_
                            refine fz_iload kX11_tries rfl rfl ?_
                            refine fz_iconst ⟨by decide, by decide⟩ kX11_tries rfl ?_
                            refine fz_iaddN kX11_tries rfl ⟨by decide, by decide⟩ ?_
                            refine fz_eqi (y := 1) rfl ?_
                            refine fz_iload kX11_tries rfl rfl ?_
                            refine fz_aload_n kX11_tries rfl rfl ?_
                            refine fz_iload_n kX11_tries rfl rfl ?_
                            refine fz_iload kX11_tries rfl rfl ?_
                            refine fz_iload kX11_tries rfl rfl ?_
                            refine fz_callV (d' := 4) (M' := mX11_receivedIn) (As := [fz_i pe, fz_i (h 55 (x25.toNat)), fz_i z116]) (st := [fz_i su, fz_i 1, fz_i z116, fz_i (h 55 (x25.toNat)), fz_i pe, fz_r 53]) kX11_tries rfl rfl vX11_receivedIn rfl rfl rfl rfl (Nat.le_of_ble_eq_true rfl) (Nat.le_of_ble_eq_true rfl) (by decide) (sX11_receivedIn H129 hI130 pe (h 55 (x25.toNat)) z116 (by omega)) (fun H133 r134 q135 o136 => ?_)
                            obtain ⟨hI137, hf138, y140, rfl, f139⟩ := q135
                            clear o136
                            have hf141 := fz_fr_tr hf131 hf138 (show fz_su [(74, 99999), (75, 99999)] [(53, 54), (53, 55), (74, 99999), (75, 99999), (89, 99999), (90, 99999)] = true from rfl)
                            refine fz_iadd kX11_tries rfl ?_
                            refine fz_nmw (fun z142 e143 => ?_)
                            refine fz_callV (d' := 7) (M' := mX11_tries) (As := [fz_i pe, fz_i (h 55 (x25.toNat)), fz_i z116, fz_i 1, fz_i z142]) (st := []) kX11_tries rfl rfl vX11_tries rfl rfl rfl rfl (Nat.le_of_ble_eq_true rfl) (Nat.le_of_ble_eq_true rfl) (by decide) (sX11_tries_1 H133 hI137 pe (h 55 (x25.toNat)) z116 z142 (by omega)) (fun H144 r145 q146 o147 => ?_)
                            obtain ⟨hI148, hf149, rfl⟩ := q146
                            clear o147
                            have hf150 := fz_fr_tr hf141 hf149 (show fz_su [(53, 54), (53, 55), (74, 99999), (75, 99999), (89, 99999), (90, 99999)] [(53, 54), (53, 55), (74, 99999), (75, 99999), (89, 99999), (90, 99999)] = true from rfl)
                            refine fz_iincN (ls' := [(6, fz_i (x25 + 1)), (8, fz_i z116), (7, fz_i (h 55 (x25.toNat))), (0, fz_r 53), (1, fz_i pe), (2, fz_i t), (3, fz_i hr), (4, fz_i 0), (5, fz_i su)]) kX11_tries rfl (by decide) rfl (by omega) rfl ?_
                            refine fz_goto (tgt := 79) kX11_tries rfl (by decide) ?_
                            refine fz_sub (fz_pk_sub (ls' := [(6, fz_i (x25 + 1)), (0, fz_r 53), (1, fz_i pe), (2, fz_i t), (3, fz_i hr), (4, fz_i 0), (5, fz_i su)]) [0, 3, 4, 5, 6, 7, 8] rfl) ?_
                            exact ih31 (x25 + 1) H144 hI148 hf150 (by omega) (by omega)
                          · refine fz_goto (tgt := 211) kX11_tries rfl (by decide) ?_
                            refine fz_iincN (ls' := [(6, fz_i (x25 + 1)), (8, fz_i z116), (7, fz_i (h 55 (x25.toNat))), (0, fz_r 53), (1, fz_i pe), (2, fz_i t), (3, fz_i hr), (4, fz_i 0), (5, fz_i su)]) kX11_tries rfl (by decide) rfl (by omega) rfl ?_
                            refine fz_goto (tgt := 79) kX11_tries rfl (by decide) ?_
                            refine fz_sub (fz_pk_sub (ls' := [(6, fz_i (x25 + 1)), (0, fz_r 53), (1, fz_i pe), (2, fz_i t), (3, fz_i hr), (4, fz_i 0), (5, fz_i su)]) [0, 3, 4, 5, 6, 7, 8] rfl) ?_
                            exact ih31 (x25 + 1) H119 hI123 hf127 (by omega) (by omega)
                      · refine fz_aload_n kX11_tries rfl rfl ?_
                        refine fz_getR (t := 56) kX11_tries rfl rfl ?_
                        refine fz_iload kX11_tries rfl rfl ?_
                        refine fz_ialdV (n := 12) (v := h 56 (x25.toNat)) kX11_tries rfl rfl (by omega) (by omega) (hf28 56 _ rfl) ?_
                        refine fz_goto (tgt := 141) kX11_tries rfl (by decide) ?_
                        refine fz_istore (ls' := [(7, fz_i (h 56 (x25.toNat))), (6, fz_i x25), (0, fz_r 53), (1, fz_i pe), (2, fz_i t), (3, fz_i hr), (4, fz_i 0), (5, fz_i su)]) kX11_tries rfl (by decide) rfl ?_
                        refine fz_iload_n kX11_tries rfl rfl ?_
                        refine fz_aload_n kX11_tries rfl rfl ?_
                        refine fz_getR (t := 57) kX11_tries rfl rfl ?_
                        refine fz_iload kX11_tries rfl rfl ?_
                        refine fz_ialdV (n := 12) (v := h 57 (x25.toNat)) kX11_tries rfl rfl (by omega) (by omega) (hf28 57 _ rfl) ?_
                        have b151 : 0 ≤ h 57 (x25.toNat) ∧ h 57 (x25.toNat) ≤ 24 := hI.1 57 _
                        refine fz_iadd kX11_tries rfl ?_
                        refine fz_nmw (fun z152 e153 => ?_)
                        refine fz_istore (ls' := [(8, fz_i z152), (7, fz_i (h 56 (x25.toNat))), (6, fz_i x25), (0, fz_r 53), (1, fz_i pe), (2, fz_i t), (3, fz_i hr), (4, fz_i 0), (5, fz_i su)]) kX11_tries rfl (by decide) rfl ?_
                        refine fz_iload kX11_tries rfl rfl ?_
                        refine fz_sipush ⟨by decide, by decide⟩ kX11_tries rfl ?_
                        refine fz_icmp_gt (tgt := 211) kX11_tries rfl (by decide) (fun c154 => ?_) (fun c154 => ?_)
                        · refine fz_iincN (ls' := [(6, fz_i (x25 + 1)), (8, fz_i z152), (7, fz_i (h 56 (x25.toNat))), (0, fz_r 53), (1, fz_i pe), (2, fz_i t), (3, fz_i hr), (4, fz_i 0), (5, fz_i su)]) kX11_tries rfl (by decide) rfl (by omega) rfl ?_
                          refine fz_goto (tgt := 79) kX11_tries rfl (by decide) ?_
                          refine fz_sub (fz_pk_sub (ls' := [(6, fz_i (x25 + 1)), (0, fz_r 53), (1, fz_i pe), (2, fz_i t), (3, fz_i hr), (4, fz_i 0), (5, fz_i su)]) [0, 3, 4, 5, 6, 7, 8] rfl) ?_
                          exact ih31 (x25 + 1) H26 hI27 hf28 (by omega) (by omega)
                        · refine fz_aload_n kX11_tries rfl rfl ?_
                          refine fz_iload_n kX11_tries rfl rfl ?_
                          refine fz_iload kX11_tries rfl rfl ?_
                          refine fz_iload kX11_tries rfl rfl ?_
                          refine fz_callV (d' := 4) (M' := mX11_isArrested) (As := [fz_i pe, fz_i (h 56 (x25.toNat)), fz_i z152]) (st := []) kX11_tries rfl rfl vX11_isArrested rfl rfl rfl rfl (Nat.le_of_ble_eq_true rfl) (Nat.le_of_ble_eq_true rfl) (by decide) (sX11_isArrested H26 hI27 pe (h 56 (x25.toNat)) z152 (by omega)) (fun H155 r156 q157 o158 => ?_)
                          obtain ⟨hI159, hf160, y161, rfl, p162⟩ := q157
                          clear o158
                          have hf163 := fz_fr_tr hf28 hf160 (show fz_su [(74, 99999), (75, 99999)] [(53, 54), (53, 55), (74, 99999), (75, 99999), (89, 99999), (90, 99999)] = true from rfl)
                          refine fz_if_eq (tgt := 177) kX11_tries rfl (by decide) (fun c164 => ?_) (fun c164 => ?_)
                          · refine fz_aload_n kX11_tries rfl rfl ?_
                            refine fz_getR (t := 90) kX11_tries rfl rfl ?_
                            refine fz_iload kX11_tries rfl rfl ?_
                            refine fz_iload kX11_tries rfl rfl ?_
                            refine fz_iast (n := 4) kX11_tries rfl rfl (by omega) (by omega) ?_
                            refine fz_nmu (S := [(53, 54), (53, 55), (74, 99999), (75, 99999), (89, 99999), (90, 99999)]) (h0 := h) (fz_Iv_up hI159 (by decide) (show 0 ≤ (h 56 (x25.toNat)) by omega) (show (h 56 (x25.toNat)) ≤ 7 by omega)) (fz_fr_up hf163 rfl) (fun H165 hI166 hf167 e168 => ?_)
                            clear e168
                            refine fz_aload_n kX11_tries rfl rfl ?_
                            refine fz_iload_n kX11_tries rfl rfl ?_
                            refine fz_iload kX11_tries rfl rfl ?_
                            refine fz_iload kX11_tries rfl rfl ?_
                            refine fz_iload kX11_tries rfl rfl ?_
                            refine fz_iconst ⟨by decide, by decide⟩ kX11_tries rfl ?_
                            refine fz_iaddN kX11_tries rfl ⟨by decide, by decide⟩ ?_
                            refine fz_eqi (y := 1) rfl ?_
                            refine fz_iload kX11_tries rfl rfl ?_
                            refine fz_aload_n kX11_tries rfl rfl ?_
                            refine fz_iload_n kX11_tries rfl rfl ?_
                            refine fz_iload kX11_tries rfl rfl ?_
                            refine fz_iload kX11_tries rfl rfl ?_
                            refine fz_callV (d' := 4) (M' := mX11_receivedIn) (As := [fz_i pe, fz_i (h 56 (x25.toNat)), fz_i z152]) (st := [fz_i su, fz_i 1, fz_i z152, fz_i (h 56 (x25.toNat)), fz_i pe, fz_r 53]) kX11_tries rfl rfl vX11_receivedIn rfl rfl rfl rfl (Nat.le_of_ble_eq_true rfl) (Nat.le_of_ble_eq_true rfl) (by decide) (sX11_receivedIn H165 hI166 pe (h 56 (x25.toNat)) z152 (by omega)) (fun H169 r170 q171 o172 => ?_)
                            obtain ⟨hI173, hf174, y176, rfl, f175⟩ := q171
                            clear o172
                            have hf177 := fz_fr_tr hf167 hf174 (show fz_su [(74, 99999), (75, 99999)] [(53, 54), (53, 55), (74, 99999), (75, 99999), (89, 99999), (90, 99999)] = true from rfl)
                            refine fz_iadd kX11_tries rfl ?_
                            refine fz_nmw (fun z178 e179 => ?_)
                            refine fz_callV (d' := 7) (M' := mX11_tries) (As := [fz_i pe, fz_i (h 56 (x25.toNat)), fz_i z152, fz_i 1, fz_i z178]) (st := []) kX11_tries rfl rfl vX11_tries rfl rfl rfl rfl (Nat.le_of_ble_eq_true rfl) (Nat.le_of_ble_eq_true rfl) (by decide) (sX11_tries_1 H169 hI173 pe (h 56 (x25.toNat)) z152 z178 (by omega)) (fun H180 r181 q182 o183 => ?_)
                            obtain ⟨hI184, hf185, rfl⟩ := q182
                            clear o183
                            have hf186 := fz_fr_tr hf177 hf185 (show fz_su [(53, 54), (53, 55), (74, 99999), (75, 99999), (89, 99999), (90, 99999)] [(53, 54), (53, 55), (74, 99999), (75, 99999), (89, 99999), (90, 99999)] = true from rfl)
                            refine fz_iincN (ls' := [(6, fz_i (x25 + 1)), (8, fz_i z152), (7, fz_i (h 56 (x25.toNat))), (0, fz_r 53), (1, fz_i pe), (2, fz_i t), (3, fz_i hr), (4, fz_i 0), (5, fz_i su)]) kX11_tries rfl (by decide) rfl (by omega) rfl ?_
                            refine fz_goto (tgt := 79) kX11_tries rfl (by decide) ?_
                            refine fz_sub (fz_pk_sub (ls' := [(6, fz_i (x25 + 1)), (0, fz_r 53), (1, fz_i pe), (2, fz_i t), (3, fz_i hr), (4, fz_i 0), (5, fz_i su)]) [0, 3, 4, 5, 6, 7, 8] rfl) ?_
                            exact ih31 (x25 + 1) H180 hI184 hf186 (by omega) (by omega)
                          · refine fz_goto (tgt := 211) kX11_tries rfl (by decide) ?_
                            refine fz_iincN (ls' := [(6, fz_i (x25 + 1)), (8, fz_i z152), (7, fz_i (h 56 (x25.toNat))), (0, fz_r 53), (1, fz_i pe), (2, fz_i t), (3, fz_i hr), (4, fz_i 0), (5, fz_i su)]) kX11_tries rfl (by decide) rfl (by omega) rfl ?_
                            refine fz_goto (tgt := 79) kX11_tries rfl (by decide) ?_
                            refine fz_sub (fz_pk_sub (ls' := [(6, fz_i (x25 + 1)), (0, fz_r 53), (1, fz_i pe), (2, fz_i t), (3, fz_i hr), (4, fz_i 0), (5, fz_i su)]) [0, 3, 4, 5, 6, 7, 8] rfl) ?_
                            exact ih31 (x25 + 1) H155 hI159 hf163 (by omega) (by omega)
                    · refine fz_goto (tgt := 211) kX11_tries rfl (by decide) ?_
                      refine fz_iincN (ls' := [(6, fz_i (x25 + 1)), (0, fz_r 53), (1, fz_i pe), (2, fz_i t), (3, fz_i hr), (4, fz_i 0), (5, fz_i su)]) kX11_tries rfl (by decide) rfl (by omega) rfl ?_
                      refine fz_goto (tgt := 79) kX11_tries rfl (by decide) ?_
                      exact ih31 (x25 + 1) H26 hI27 hf28 (by omega) (by omega)
            exact lp30 _ 0 H15 hI16 hf17 (by omega) (Nat.lt_succ_self _)
          · exfalso; omega
        · exfalso; omega
    exact lp19 _ 0 H8 hI9 hf10 (by omega) (Nat.lt_succ_self _)
  · refine fz_iload kX11_tries rfl rfl ?_
    refine fz_aload_n kX11_tries rfl rfl ?_
    refine fz_getV (v := h 53 54) kX11_tries rfl rfl rfl ?_
    refine fz_icmp_ne (tgt := 69) kX11_tries rfl (by decide) (fun c187 => ?_) (fun c187 => ?_)
    · refine fz_iload kX11_tries rfl rfl ?_
      refine fz_iconst ⟨by decide, by decide⟩ kX11_tries rfl ?_
      refine fz_icmp_ne (tgt := 76) kX11_tries rfl (by decide) (fun c188 => ?_) (fun c188 => ?_)
      · refine fz_iconst ⟨by decide, by decide⟩ kX11_tries rfl ?_
        refine fz_istore (ls' := [(6, fz_i 0), (0, fz_r 53), (1, fz_i pe), (2, fz_i t), (3, fz_i hr), (4, fz_i 0), (5, fz_i su)]) kX11_tries rfl (by decide) rfl ?_
        have lp194 : ∀ (n193 : Nat) (x189 : Int) (H190 : fz_H), fz_Iv H190 → fz_fr [(53, 54), (53, 55), (74, 99999), (75, 99999), (89, 99999), (90, 99999)] h H190 → (0 ≤ x189 ∧ x189 ≤ 2147483647) → ((h 53 2) - x189).toNat < n193 → fz_R 8 mX11_tries 79 [(6, fz_i x189), (0, fz_r 53), (1, fz_i pe), (2, fz_i t), (3, fz_i hr), (4, fz_i 0), (5, fz_i su)] [] H190 (qX11_tries_0 h pe t hr su) := by
          intro n193
          induction n193 with
          | zero => intro x189 H190 hI191 hf192 hv197 hm196; exact absurd hm196 (by omega)
          | succ n193 ih195 =>
            intro x189 H190 hI191 hf192 hv197 hm196
            refine fz_iload kX11_tries rfl rfl ?_
            refine fz_aload_n kX11_tries rfl rfl ?_
            refine fz_getV (v := h 53 2) kX11_tries rfl rfl (hf192 53 2 rfl) ?_
            have b198 : 0 ≤ h 53 2 ∧ h 53 2 ≤ 12 := hI.1 53 _
            refine fz_icmp_ge (tgt := 217) kX11_tries rfl (by decide) (fun c199 => ?_) (fun c199 => ?_)
            · exact fz_vret kX11_tries rfl rfl ⟨hI191, hf192, rfl⟩
            · refine fz_aload_n kX11_tries rfl rfl ?_
              refine fz_getR (t := 55) kX11_tries rfl rfl ?_
              refine fz_iload kX11_tries rfl rfl ?_
              refine fz_ialdV (n := 12) (v := h 55 (x189.toNat)) kX11_tries rfl rfl (by omega) (by omega) (hf192 55 _ rfl) ?_
              have b200 : 0 ≤ h 55 (x189.toNat) ∧ h 55 (x189.toNat) ≤ 7 := hI.1 55 _
              refine fz_iload_n kX11_tries rfl rfl ?_
              refine fz_icmp_eq (tgt := 113) kX11_tries rfl (by decide) (fun c201 => ?_) (fun c201 => ?_)
              · refine fz_aload_n kX11_tries rfl rfl ?_
                refine fz_getR (t := 55) kX11_tries rfl rfl ?_
                refine fz_iload kX11_tries rfl rfl ?_
                refine fz_ialdV (n := 12) (v := h 55 (x189.toNat)) kX11_tries rfl rfl (by omega) (by omega) (hf192 55 _ rfl) ?_
                refine fz_iload_n kX11_tries rfl rfl ?_
                refine fz_icmp_ne (tgt := 134) kX11_tries rfl (by decide) (fun c202 => ?_) (fun c202 => ?_)
                · refine fz_aload_n kX11_tries rfl rfl ?_
                  refine fz_getR (t := 55) kX11_tries rfl rfl ?_
                  refine fz_iload kX11_tries rfl rfl ?_
                  refine fz_ialdV (n := 12) (v := h 55 (x189.toNat)) kX11_tries rfl rfl (by omega) (by omega) (hf192 55 _ rfl) ?_
                  refine fz_istore (ls' := [(7, fz_i (h 55 (x189.toNat))), (6, fz_i x189), (0, fz_r 53), (1, fz_i pe), (2, fz_i t), (3, fz_i hr), (4, fz_i 0), (5, fz_i su)]) kX11_tries rfl (by decide) rfl ?_
                  refine fz_iload_n kX11_tries rfl rfl ?_
                  refine fz_aload_n kX11_tries rfl rfl ?_
                  refine fz_getR (t := 57) kX11_tries rfl rfl ?_
                  refine fz_iload kX11_tries rfl rfl ?_
                  refine fz_ialdV (n := 12) (v := h 57 (x189.toNat)) kX11_tries rfl rfl (by omega) (by omega) (hf192 57 _ rfl) ?_
                  have b203 : 0 ≤ h 57 (x189.toNat) ∧ h 57 (x189.toNat) ≤ 24 := hI.1 57 _
                  refine fz_iadd kX11_tries rfl ?_
                  refine fz_nmw (fun z204 e205 => ?_)
                  refine fz_istore (ls' := [(8, fz_i z204), (7, fz_i (h 55 (x189.toNat))), (6, fz_i x189), (0, fz_r 53), (1, fz_i pe), (2, fz_i t), (3, fz_i hr), (4, fz_i 0), (5, fz_i su)]) kX11_tries rfl (by decide) rfl ?_
                  refine fz_iload kX11_tries rfl rfl ?_
                  refine fz_sipush ⟨by decide, by decide⟩ kX11_tries rfl ?_
                  refine fz_icmp_gt (tgt := 211) kX11_tries rfl (by decide) (fun c206 => ?_) (fun c206 => ?_)
                  · refine fz_iincN (ls' := [(6, fz_i (x189 + 1)), (8, fz_i z204), (7, fz_i (h 55 (x189.toNat))), (0, fz_r 53), (1, fz_i pe), (2, fz_i t), (3, fz_i hr), (4, fz_i 0), (5, fz_i su)]) kX11_tries rfl (by decide) rfl (by omega) rfl ?_
                    refine fz_goto (tgt := 79) kX11_tries rfl (by decide) ?_
                    refine fz_sub (fz_pk_sub (ls' := [(6, fz_i (x189 + 1)), (0, fz_r 53), (1, fz_i pe), (2, fz_i t), (3, fz_i hr), (4, fz_i 0), (5, fz_i su)]) [0, 3, 4, 5, 6, 7, 8] rfl) ?_
                    exact ih195 (x189 + 1) H190 hI191 hf192 (by omega) (by omega)
                  · refine fz_aload_n kX11_tries rfl rfl ?_
                    refine fz_iload_n kX11_tries rfl rfl ?_
                    refine fz_iload kX11_tries rfl rfl ?_
                    refine fz_iload kX11_tries rfl rfl ?_
                    refine fz_callV (d' := 4) (M' := mX11_isArrested) (As := [fz_i pe, fz_i (h 55 (x189.toNat)), fz_i z204]) (st := []) kX11_tries rfl rfl vX11_isArrested rfl rfl rfl rfl (Nat.le_of_ble_eq_true rfl) (Nat.le_of_ble_eq_true rfl) (by decide) (sX11_isArrested H190 hI191 pe (h 55 (x189.toNat)) z204 (by omega)) (fun H207 r208 q209 o210 => ?_)
                    obtain ⟨hI211, hf212, y213, rfl, p214⟩ := q209
                    clear o210
                    have hf215 := fz_fr_tr hf192 hf212 (show fz_su [(74, 99999), (75, 99999)] [(53, 54), (53, 55), (74, 99999), (75, 99999), (89, 99999), (90, 99999)] = true from rfl)
                    refine fz_if_eq (tgt := 177) kX11_tries rfl (by decide) (fun c216 => ?_) (fun c216 => ?_)
                    · refine fz_aload_n kX11_tries rfl rfl ?_
                      refine fz_getR (t := 90) kX11_tries rfl rfl ?_
                      refine fz_iload kX11_tries rfl rfl ?_
                      refine fz_iload kX11_tries rfl rfl ?_
                      refine fz_iast (n := 4) kX11_tries rfl rfl (by omega) (by omega) ?_
                      refine fz_nmu (S := [(53, 54), (53, 55), (74, 99999), (75, 99999), (89, 99999), (90, 99999)]) (h0 := h) (fz_Iv_up hI211 (by decide) (show 0 ≤ (h 55 (x189.toNat)) by omega) (show (h 55 (x189.toNat)) ≤ 7 by omega)) (fz_fr_up hf215 rfl) (fun H217 hI218 hf219 e220 => ?_)
                      clear e220
                      refine fz_aload_n kX11_tries rfl rfl ?_
                      refine fz_iload_n kX11_tries rfl rfl ?_
                      refine fz_iload kX11_tries rfl rfl ?_
                      refine fz_iload kX11_tries rfl rfl ?_
                      refine fz_iload kX11_tries rfl rfl ?_
                      refine fz_iconst ⟨by decide, by decide⟩ kX11_tries rfl ?_
                      refine fz_iaddN kX11_tries rfl ⟨by decide, by decide⟩ ?_
                      refine fz_eqi (y := 1) rfl ?_
                      refine fz_iload kX11_tries rfl rfl ?_
                      refine fz_aload_n kX11_tries rfl rfl ?_
                      refine fz_iload_n kX11_tries rfl rfl ?_
                      refine fz_iload kX11_tries rfl rfl ?_
                      refine fz_iload kX11_tries rfl rfl ?_
                      refine fz_callV (d' := 4) (M' := mX11_receivedIn) (As := [fz_i pe, fz_i (h 55 (x189.toNat)), fz_i z204]) (st := [fz_i su, fz_i 1, fz_i z204, fz_i (h 55 (x189.toNat)), fz_i pe, fz_r 53]) kX11_tries rfl rfl vX11_receivedIn rfl rfl rfl rfl (Nat.le_of_ble_eq_true rfl) (Nat.le_of_ble_eq_true rfl) (by decide) (sX11_receivedIn H217 hI218 pe (h 55 (x189.toNat)) z204 (by omega)) (fun H221 r222 q223 o224 => ?_)
                      obtain ⟨hI225, hf226, y228, rfl, f227⟩ := q223
                      clear o224
                      have hf229 := fz_fr_tr hf219 hf226 (show fz_su [(74, 99999), (75, 99999)] [(53, 54), (53, 55), (74, 99999), (75, 99999), (89, 99999), (90, 99999)] = true from rfl)
                      refine fz_iadd kX11_tries rfl ?_
                      refine fz_nmw (fun z230 e231 => ?_)
                      refine fz_callV (d' := 7) (M' := mX11_tries) (As := [fz_i pe, fz_i (h 55 (x189.toNat)), fz_i z204, fz_i 1, fz_i z230]) (st := []) kX11_tries rfl rfl vX11_tries rfl rfl rfl rfl (Nat.le_of_ble_eq_true rfl) (Nat.le_of_ble_eq_true rfl) (by decide) (sX11_tries_1 H221 hI225 pe (h 55 (x189.toNat)) z204 z230 (by omega)) (fun H232 r233 q234 o235 => ?_)
                      obtain ⟨hI236, hf237, rfl⟩ := q234
                      clear o235
                      have hf238 := fz_fr_tr hf229 hf237 (show fz_su [(53, 54), (53, 55), (74, 99999), (75, 99999), (89, 99999), (90, 99999)] [(53, 54), (53, 55), (74, 99999), (75, 99999), (89, 99999), (90, 99999)] = true from rfl)
                      refine fz_iincN (ls' := [(6, fz_i (x189 + 1)), (8, fz_i z204), (7, fz_i (h 55 (x189.toNat))), (0, fz_r 53), (1, fz_i pe), (2, fz_i t), (3, fz_i hr), (4, fz_i 0), (5, fz_i su)]) kX11_tries rfl (by decide) rfl (by omega) rfl ?_
                      refine fz_goto (tgt := 79) kX11_tries rfl (by decide) ?_
                      refine fz_sub (fz_pk_sub (ls' := [(6, fz_i (x189 + 1)), (0, fz_r 53), (1, fz_i pe), (2, fz_i t), (3, fz_i hr), (4, fz_i 0), (5, fz_i su)]) [0, 3, 4, 5, 6, 7, 8] rfl) ?_
                      exact ih195 (x189 + 1) H232 hI236 hf238 (by omega) (by omega)
                    · refine fz_goto (tgt := 211) kX11_tries rfl (by decide) ?_
                      refine fz_iincN (ls' := [(6, fz_i (x189 + 1)), (8, fz_i z204), (7, fz_i (h 55 (x189.toNat))), (0, fz_r 53), (1, fz_i pe), (2, fz_i t), (3, fz_i hr), (4, fz_i 0), (5, fz_i su)]) kX11_tries rfl (by decide) rfl (by omega) rfl ?_
                      refine fz_goto (tgt := 79) kX11_tries rfl (by decide) ?_
                      refine fz_sub (fz_pk_sub (ls' := [(6, fz_i (x189 + 1)), (0, fz_r 53), (1, fz_i pe), (2, fz_i t), (3, fz_i hr), (4, fz_i 0), (5, fz_i su)]) [0, 3, 4, 5, 6, 7, 8] rfl) ?_
                      exact ih195 (x189 + 1) H207 hI211 hf215 (by omega) (by omega)
                · refine fz_aload_n kX11_tries rfl rfl ?_
                  refine fz_getR (t := 56) kX11_tries rfl rfl ?_
                  refine fz_iload kX11_tries rfl rfl ?_
                  refine fz_ialdV (n := 12) (v := h 56 (x189.toNat)) kX11_tries rfl rfl (by omega) (by omega) (hf192 56 _ rfl) ?_
                  have b239 : 0 ≤ h 56 (x189.toNat) ∧ h 56 (x189.toNat) ≤ 7 := hI.1 56 _
                  refine fz_goto (tgt := 141) kX11_tries rfl (by decide) ?_
                  refine fz_istore (ls' := [(7, fz_i (h 56 (x189.toNat))), (6, fz_i x189), (0, fz_r 53), (1, fz_i pe), (2, fz_i t), (3, fz_i hr), (4, fz_i 0), (5, fz_i su)]) kX11_tries rfl (by decide) rfl ?_
                  refine fz_iload_n kX11_tries rfl rfl ?_
                  refine fz_aload_n kX11_tries rfl rfl ?_
                  refine fz_getR (t := 57) kX11_tries rfl rfl ?_
                  refine fz_iload kX11_tries rfl rfl ?_
                  refine fz_ialdV (n := 12) (v := h 57 (x189.toNat)) kX11_tries rfl rfl (by omega) (by omega) (hf192 57 _ rfl) ?_
                  have b240 : 0 ≤ h 57 (x189.toNat) ∧ h 57 (x189.toNat) ≤ 24 := hI.1 57 _
                  refine fz_iadd kX11_tries rfl ?_
                  refine fz_nmw (fun z241 e242 => ?_)
                  refine fz_istore (ls' := [(8, fz_i z241), (7, fz_i (h 56 (x189.toNat))), (6, fz_i x189), (0, fz_r 53), (1, fz_i pe), (2, fz_i t), (3, fz_i hr), (4, fz_i 0), (5, fz_i su)]) kX11_tries rfl (by decide) rfl ?_
                  refine fz_iload kX11_tries rfl rfl ?_
                  refine fz_sipush ⟨by decide, by decide⟩ kX11_tries rfl ?_
                  refine fz_icmp_gt (tgt := 211) kX11_tries rfl (by decide) (fun c243 => ?_) (fun c243 => ?_)
                  · refine fz_iincN (ls' := [(6, fz_i (x189 + 1)), (8, fz_i z241), (7, fz_i (h 56 (x189.toNat))), (0, fz_r 53), (1, fz_i pe), (2, fz_i t), (3, fz_i hr), (4, fz_i 0), (5, fz_i su)]) kX11_tries rfl (by decide) rfl (by omega) rfl ?_
                    refine fz_goto (tgt := 79) kX11_tries rfl (by decide) ?_
                    refine fz_sub (fz_pk_sub (ls' := [(6, fz_i (x189 + 1)), (0, fz_r 53), (1, fz_i pe), (2, fz_i t), (3, fz_i hr), (4, fz_i 0), (5, fz_i su)]) [0, 3, 4, 5, 6, 7, 8] rfl) ?_
                    exact ih195 (x189 + 1) H190 hI191 hf192 (by omega) (by omega)
                  · refine fz_aload_n kX11_tries rfl rfl ?_
                    refine fz_iload_n kX11_tries rfl rfl ?_
                    refine fz_iload kX11_tries rfl rfl ?_
                    refine fz_iload kX11_tries rfl rfl ?_
                    refine fz_callV (d' := 4) (M' := mX11_isArrested) (As := [fz_i pe, fz_i (h 56 (x189.toNat)), fz_i z241]) (st := []) kX11_tries rfl rfl vX11_isArrested rfl rfl rfl rfl (Nat.le_of_ble_eq_true rfl) (Nat.le_of_ble_eq_true rfl) (by decide) (sX11_isArrested H190 hI191 pe (h 56 (x189.toNat)) z241 (by omega)) (fun H244 r245 q246 o247 => ?_)
                    obtain ⟨hI248, hf249, y250, rfl, p251⟩ := q246
                    clear o247
                    have hf252 := fz_fr_tr hf192 hf249 (show fz_su [(74, 99999), (75, 99999)] [(53, 54), (53, 55), (74, 99999), (75, 99999), (89, 99999), (90, 99999)] = true from rfl)
                    refine fz_if_eq (tgt := 177) kX11_tries rfl (by decide) (fun c253 => ?_) (fun c253 => ?_)
                    · refine fz_aload_n kX11_tries rfl rfl ?_
                      refine fz_getR (t := 90) kX11_tries rfl rfl ?_
                      refine fz_iload kX11_tries rfl rfl ?_
                      refine fz_iload kX11_tries rfl rfl ?_
                      refine fz_iast (n := 4) kX11_tries rfl rfl (by omega) (by omega) ?_
                      refine fz_nmu (S := [(53, 54), (53, 55), (74, 99999), (75, 99999), (89, 99999), (90, 99999)]) (h0 := h) (fz_Iv_up hI248 (by decide) (show 0 ≤ (h 56 (x189.toNat)) by omega) (show (h 56 (x189.toNat)) ≤ 7 by omega)) (fz_fr_up hf252 rfl) (fun H254 hI255 hf256 e257 => ?_)
                      clear e257
                      refine fz_aload_n kX11_tries rfl rfl ?_
                      refine fz_iload_n kX11_tries rfl rfl ?_
                      refine fz_iload kX11_tries rfl rfl ?_
                      refine fz_iload kX11_tries rfl rfl ?_
                      refine fz_iload kX11_tries rfl rfl ?_
                      refine fz_iconst ⟨by decide, by decide⟩ kX11_tries rfl ?_
                      refine fz_iaddN kX11_tries rfl ⟨by decide, by decide⟩ ?_
                      refine fz_eqi (y := 1) rfl ?_
                      refine fz_iload kX11_tries rfl rfl ?_
                      refine fz_aload_n kX11_tries rfl rfl ?_
                      refine fz_iload_n kX11_tries rfl rfl ?_
                      refine fz_iload kX11_tries rfl rfl ?_
                      refine fz_iload kX11_tries rfl rfl ?_
                      refine fz_callV (d' := 4) (M' := mX11_receivedIn) (As := [fz_i pe, fz_i (h 56 (x189.toNat)), fz_i z241]) (st := [fz_i su, fz_i 1, fz_i z241, fz_i (h 56 (x189.toNat)), fz_i pe, fz_r 53]) kX11_tries rfl rfl vX11_receivedIn rfl rfl rfl rfl (Nat.le_of_ble_eq_true rfl) (Nat.le_of_ble_eq_true rfl) (by decide) (sX11_receivedIn H254 hI255 pe (h 56 (x189.toNat)) z241 (by omega)) (fun H258 r259 q260 o261 => ?_)
                      obtain ⟨hI262, hf263, y265, rfl, f264⟩ := q260
                      clear o261
                      have hf266 := fz_fr_tr hf256 hf263 (show fz_su [(74, 99999), (75, 99999)] [(53, 54), (53, 55), (74, 99999), (75, 99999), (89, 99999), (90, 99999)] = true from rfl)
                      refine fz_iadd kX11_tries rfl ?_
                      refine fz_nmw (fun z267 e268 => ?_)
                      refine fz_callV (d' := 7) (M' := mX11_tries) (As := [fz_i pe, fz_i (h 56 (x189.toNat)), fz_i z241, fz_i 1, fz_i z267]) (st := []) kX11_tries rfl rfl vX11_tries rfl rfl rfl rfl (Nat.le_of_ble_eq_true rfl) (Nat.le_of_ble_eq_true rfl) (by decide) (sX11_tries_1 H258 hI262 pe (h 56 (x189.toNat)) z241 z267 (by omega)) (fun H269 r270 q271 o272 => ?_)
                      obtain ⟨hI273, hf274, rfl⟩ := q271
                      clear o272
                      have hf275 := fz_fr_tr hf266 hf274 (show fz_su [(53, 54), (53, 55), (74, 99999), (75, 99999), (89, 99999), (90, 99999)] [(53, 54), (53, 55), (74, 99999), (75, 99999), (89, 99999), (90, 99999)] = true from rfl)
                      refine fz_iincN (ls' := [(6, fz_i (x189 + 1)), (8, fz_i z241), (7, fz_i (h 56 (x189.toNat))), (0, fz_r 53), (1, fz_i pe), (2, fz_i t), (3, fz_i hr), (4, fz_i 0), (5, fz_i su)]) kX11_tries rfl (by decide) rfl (by omega) rfl ?_
                      refine fz_goto (tgt := 79) kX11_tries rfl (by decide) ?_
                      refine fz_sub (fz_pk_sub (ls' := [(6, fz_i (x189 + 1)), (0, fz_r 53), (1, fz_i pe), (2, fz_i t), (3, fz_i hr), (4, fz_i 0), (5, fz_i su)]) [0, 3, 4, 5, 6, 7, 8] rfl) ?_
                      exact ih195 (x189 + 1) H269 hI273 hf275 (by omega) (by omega)
                    · refine fz_goto (tgt := 211) kX11_tries rfl (by decide) ?_
                      refine fz_iincN (ls' := [(6, fz_i (x189 + 1)), (8, fz_i z241), (7, fz_i (h 56 (x189.toNat))), (0, fz_r 53), (1, fz_i pe), (2, fz_i t), (3, fz_i hr), (4, fz_i 0), (5, fz_i su)]) kX11_tries rfl (by decide) rfl (by omega) rfl ?_
                      refine fz_goto (tgt := 79) kX11_tries rfl (by decide) ?_
                      refine fz_sub (fz_pk_sub (ls' := [(6, fz_i (x189 + 1)), (0, fz_r 53), (1, fz_i pe), (2, fz_i t), (3, fz_i hr), (4, fz_i 0), (5, fz_i su)]) [0, 3, 4, 5, 6, 7, 8] rfl) ?_
                      exact ih195 (x189 + 1) H244 hI248 hf252 (by omega) (by omega)
              · refine fz_aload_n kX11_tries rfl rfl ?_
                refine fz_getR (t := 56) kX11_tries rfl rfl ?_
                refine fz_iload kX11_tries rfl rfl ?_
                refine fz_ialdV (n := 12) (v := h 56 (x189.toNat)) kX11_tries rfl rfl (by omega) (by omega) (hf192 56 _ rfl) ?_
                have b276 : 0 ≤ h 56 (x189.toNat) ∧ h 56 (x189.toNat) ≤ 7 := hI.1 56 _
                refine fz_iload_n kX11_tries rfl rfl ?_
                refine fz_icmp_eq (tgt := 113) kX11_tries rfl (by decide) (fun c277 => ?_) (fun c277 => ?_)
                · refine fz_aload_n kX11_tries rfl rfl ?_
                  refine fz_getR (t := 55) kX11_tries rfl rfl ?_
                  refine fz_iload kX11_tries rfl rfl ?_
                  refine fz_ialdV (n := 12) (v := h 55 (x189.toNat)) kX11_tries rfl rfl (by omega) (by omega) (hf192 55 _ rfl) ?_
                  refine fz_iload_n kX11_tries rfl rfl ?_
                  refine fz_icmp_ne (tgt := 134) kX11_tries rfl (by decide) (fun c278 => ?_) (fun c278 => ?_)
                  · refine fz_aload_n kX11_tries rfl rfl ?_
                    refine fz_getR (t := 55) kX11_tries rfl rfl ?_
                    refine fz_iload kX11_tries rfl rfl ?_
                    refine fz_ialdV (n := 12) (v := h 55 (x189.toNat)) kX11_tries rfl rfl (by omega) (by omega) (hf192 55 _ rfl) ?_
                    refine fz_istore (ls' := [(7, fz_i (h 55 (x189.toNat))), (6, fz_i x189), (0, fz_r 53), (1, fz_i pe), (2, fz_i t), (3, fz_i hr), (4, fz_i 0), (5, fz_i su)]) kX11_tries rfl (by decide) rfl ?_
                    refine fz_iload_n kX11_tries rfl rfl ?_
                    refine fz_aload_n kX11_tries rfl rfl ?_
                    refine fz_getR (t := 57) kX11_tries rfl rfl ?_
                    refine fz_iload kX11_tries rfl rfl ?_
                    refine fz_ialdV (n := 12) (v := h 57 (x189.toNat)) kX11_tries rfl rfl (by omega) (by omega) (hf192 57 _ rfl) ?_
                    have b279 : 0 ≤ h 57 (x189.toNat) ∧ h 57 (x189.toNat) ≤ 24 := hI.1 57 _
                    refine fz_iadd kX11_tries rfl ?_
                    refine fz_nmw (fun z280 e281 => ?_)
                    refine fz_istore (ls' := [(8, fz_i z280), (7, fz_i (h 55 (x189.toNat))), (6, fz_i x189), (0, fz_r 53), (1, fz_i pe), (2, fz_i t), (3, fz_i hr), (4, fz_i 0), (5, fz_i su)]) kX11_tries rfl (by decide) rfl ?_
                    refine fz_iload kX11_tries rfl rfl ?_
                    refine fz_sipush ⟨by decide, by decide⟩ kX11_tries rfl ?_
                    refine fz_icmp_gt (tgt := 211) kX11_tries rfl (by decide) (fun c282 => ?_) (fun c282 => ?_)
                    · refine fz_iincN (ls' := [(6, fz_i (x189 + 1)), (8, fz_i z280), (7, fz_i (h 55 (x189.toNat))), (0, fz_r 53), (1, fz_i pe), (2, fz_i t), (3, fz_i hr), (4, fz_i 0), (5, fz_i su)]) kX11_tries rfl (by decide) rfl (by omega) rfl ?_
                      refine fz_goto (tgt := 79) kX11_tries rfl (by decide) ?_
                      refine fz_sub (fz_pk_sub (ls' := [(6, fz_i (x189 + 1)), (0, fz_r 53), (1, fz_i pe), (2, fz_i t), (3, fz_i hr), (4, fz_i 0), (5, fz_i su)]) [0, 3, 4, 5, 6, 7, 8] rfl) ?_
                      exact ih195 (x189 + 1) H190 hI191 hf192 (by omega) (by omega)
                    · refine fz_aload_n kX11_tries rfl rfl ?_
                      refine fz_iload_n kX11_tries rfl rfl ?_
                      refine fz_iload kX11_tries rfl rfl ?_
                      refine fz_iload kX11_tries rfl rfl ?_
                      refine fz_callV (d' := 4) (M' := mX11_isArrested) (As := [fz_i pe, fz_i (h 55 (x189.toNat)), fz_i z280]) (st := []) kX11_tries rfl rfl vX11_isArrested rfl rfl rfl rfl (Nat.le_of_ble_eq_true rfl) (Nat.le_of_ble_eq_true rfl) (by decide) (sX11_isArrested H190 hI191 pe (h 55 (x189.toNat)) z280 (by omega)) (fun H283 r284 q285 o286 => ?_)
                      obtain ⟨hI287, hf288, y289, rfl, p290⟩ := q285
                      clear o286
                      have hf291 := fz_fr_tr hf192 hf288 (show fz_su [(74, 99999), (75, 99999)] [(53, 54), (53, 55), (74, 99999), (75, 99999), (89, 99999), (90, 99999)] = true from rfl)
                      refine fz_if_eq (tgt := 177) kX11_tries rfl (by decide) (fun c292 => ?_) (fun c292 => ?_)
                      · refine fz_aload_n kX11_tries rfl rfl ?_
                        refine fz_getR (t := 90) kX11_tries rfl rfl ?_
                        refine fz_iload kX11_tries rfl rfl ?_
                        refine fz_iload kX11_tries rfl rfl ?_
                        refine fz_iast (n := 4) kX11_tries rfl rfl (by omega) (by omega) ?_
                        refine fz_nmu (S := [(53, 54), (53, 55), (74, 99999), (75, 99999), (89, 99999), (90, 99999)]) (h0 := h) (fz_Iv_up hI287 (by decide) (show 0 ≤ (h 55 (x189.toNat)) by omega) (show (h 55 (x189.toNat)) ≤ 7 by omega)) (fz_fr_up hf291 rfl) (fun H293 hI294 hf295 e296 => ?_)
                        clear e296
                        refine fz_aload_n kX11_tries rfl rfl ?_
                        refine fz_iload_n kX11_tries rfl rfl ?_
                        refine fz_iload kX11_tries rfl rfl ?_
                        refine fz_iload kX11_tries rfl rfl ?_
                        refine fz_iload kX11_tries rfl rfl ?_
                        refine fz_iconst ⟨by decide, by decide⟩ kX11_tries rfl ?_
                        refine fz_iaddN kX11_tries rfl ⟨by decide, by decide⟩ ?_
                        refine fz_eqi (y := 1) rfl ?_
                        refine fz_iload kX11_tries rfl rfl ?_
                        refine fz_aload_n kX11_tries rfl rfl ?_
                        refine fz_iload_n kX11_tries rfl rfl ?_
                        refine fz_iload kX11_tries rfl rfl ?_
                        refine fz_iload kX11_tries rfl rfl ?_
                        refine fz_callV (d' := 4) (M' := mX11_receivedIn) (As := [fz_i pe, fz_i (h 55 (x189.toNat)), fz_i z280]) (st := [fz_i su, fz_i 1, fz_i z280, fz_i (h 55 (x189.toNat)), fz_i pe, fz_r 53]) kX11_tries rfl rfl vX11_receivedIn rfl rfl rfl rfl (Nat.le_of_ble_eq_true rfl) (Nat.le_of_ble_eq_true rfl) (by decide) (sX11_receivedIn H293 hI294 pe (h 55 (x189.toNat)) z280 (by omega)) (fun H297 r298 q299 o300 => ?_)
                        obtain ⟨hI301, hf302, y304, rfl, f303⟩ := q299
                        clear o300
                        have hf305 := fz_fr_tr hf295 hf302 (show fz_su [(74, 99999), (75, 99999)] [(53, 54), (53, 55), (74, 99999), (75, 99999), (89, 99999), (90, 99999)] = true from rfl)
                        refine fz_iadd kX11_tries rfl ?_
                        refine fz_nmw (fun z306 e307 => ?_)
                        refine fz_callV (d' := 7) (M' := mX11_tries) (As := [fz_i pe, fz_i (h 55 (x189.toNat)), fz_i z280, fz_i 1, fz_i z306]) (st := []) kX11_tries rfl rfl vX11_tries rfl rfl rfl rfl (Nat.le_of_ble_eq_true rfl) (Nat.le_of_ble_eq_true rfl) (by decide) (sX11_tries_1 H297 hI301 pe (h 55 (x189.toNat)) z280 z306 (by omega)) (fun H308 r309 q310 o311 => ?_)
                        obtain ⟨hI312, hf313, rfl⟩ := q310
                        clear o311
                        have hf314 := fz_fr_tr hf305 hf313 (show fz_su [(53, 54), (53, 55), (74, 99999), (75, 99999), (89, 99999), (90, 99999)] [(53, 54), (53, 55), (74, 99999), (75, 99999), (89, 99999), (90, 99999)] = true from rfl)
                        refine fz_iincN (ls' := [(6, fz_i (x189 + 1)), (8, fz_i z280), (7, fz_i (h 55 (x189.toNat))), (0, fz_r 53), (1, fz_i pe), (2, fz_i t), (3, fz_i hr), (4, fz_i 0), (5, fz_i su)]) kX11_tries rfl (by decide) rfl (by omega) rfl ?_
                        refine fz_goto (tgt := 79) kX11_tries rfl (by decide) ?_
                        refine fz_sub (fz_pk_sub (ls' := [(6, fz_i (x189 + 1)), (0, fz_r 53), (1, fz_i pe), (2, fz_i t), (3, fz_i hr), (4, fz_i 0), (5, fz_i su)]) [0, 3, 4, 5, 6, 7, 8] rfl) ?_
                        exact ih195 (x189 + 1) H308 hI312 hf314 (by omega) (by omega)
                      · refine fz_goto (tgt := 211) kX11_tries rfl (by decide) ?_
                        refine fz_iincN (ls' := [(6, fz_i (x189 + 1)), (8, fz_i z280), (7, fz_i (h 55 (x189.toNat))), (0, fz_r 53), (1, fz_i pe), (2, fz_i t), (3, fz_i hr), (4, fz_i 0), (5, fz_i su)]) kX11_tries rfl (by decide) rfl (by omega) rfl ?_
                        refine fz_goto (tgt := 79) kX11_tries rfl (by decide) ?_
                        refine fz_sub (fz_pk_sub (ls' := [(6, fz_i (x189 + 1)), (0, fz_r 53), (1, fz_i pe), (2, fz_i t), (3, fz_i hr), (4, fz_i 0), (5, fz_i su)]) [0, 3, 4, 5, 6, 7, 8] rfl) ?_
                        exact ih195 (x189 + 1) H283 hI287 hf291 (by omega) (by omega)
                  · refine fz_aload_n kX11_tries rfl rfl ?_
                    refine fz_getR (t := 56) kX11_tries rfl rfl ?_
                    refine fz_iload kX11_tries rfl rfl ?_
                    refine fz_ialdV (n := 12) (v := h 56 (x189.toNat)) kX11_tries rfl rfl (by omega) (by omega) (hf192 56 _ rfl) ?_
                    refine fz_goto (tgt := 141) kX11_tries rfl (by decide) ?_
                    refine fz_istore (ls' := [(7, fz_i (h 56 (x189.toNat))), (6, fz_i x189), (0, fz_r 53), (1, fz_i pe), (2, fz_i t), (3, fz_i hr), (4, fz_i 0), (5, fz_i su)]) kX11_tries rfl (by decide) rfl ?_
                    refine fz_iload_n kX11_tries rfl rfl ?_
                    refine fz_aload_n kX11_tries rfl rfl ?_
                    refine fz_getR (t := 57) kX11_tries rfl rfl ?_
                    refine fz_iload kX11_tries rfl rfl ?_
                    refine fz_ialdV (n := 12) (v := h 57 (x189.toNat)) kX11_tries rfl rfl (by omega) (by omega) (hf192 57 _ rfl) ?_
                    have b315 : 0 ≤ h 57 (x189.toNat) ∧ h 57 (x189.toNat) ≤ 24 := hI.1 57 _
                    refine fz_iadd kX11_tries rfl ?_
                    refine fz_nmw (fun z316 e317 => ?_)
                    refine fz_istore (ls' := [(8, fz_i z316), (7, fz_i (h 56 (x189.toNat))), (6, fz_i x189), (0, fz_r 53), (1, fz_i pe), (2, fz_i t), (3, fz_i hr), (4, fz_i 0), (5, fz_i su)]) kX11_tries rfl (by decide) rfl ?_
                    refine fz_iload kX11_tries rfl rfl ?_
                    refine fz_sipush ⟨by decide, by decide⟩ kX11_tries rfl ?_
                    refine fz_icmp_gt (tgt := 211) kX11_tries rfl (by decide) (fun c318 => ?_) (fun c318 => ?_)
                    · refine fz_iincN (ls' := [(6, fz_i (x189 + 1)), (8, fz_i z316), (7, fz_i (h 56 (x189.toNat))), (0, fz_r 53), (1, fz_i pe), (2, fz_i t), (3, fz_i hr), (4, fz_i 0), (5, fz_i su)]) kX11_tries rfl (by decide) rfl (by omega) rfl ?_
                      refine fz_goto (tgt := 79) kX11_tries rfl (by decide) ?_
                      refine fz_sub (fz_pk_sub (ls' := [(6, fz_i (x189 + 1)), (0, fz_r 53), (1, fz_i pe), (2, fz_i t), (3, fz_i hr), (4, fz_i 0), (5, fz_i su)]) [0, 3, 4, 5, 6, 7, 8] rfl) ?_
                      exact ih195 (x189 + 1) H190 hI191 hf192 (by omega) (by omega)
                    · refine fz_aload_n kX11_tries rfl rfl ?_
                      refine fz_iload_n kX11_tries rfl rfl ?_
                      refine fz_iload kX11_tries rfl rfl ?_
                      refine fz_iload kX11_tries rfl rfl ?_
                      refine fz_callV (d' := 4) (M' := mX11_isArrested) (As := [fz_i pe, fz_i (h 56 (x189.toNat)), fz_i z316]) (st := []) kX11_tries rfl rfl vX11_isArrested rfl rfl rfl rfl (Nat.le_of_ble_eq_true rfl) (Nat.le_of_ble_eq_true rfl) (by decide) (sX11_isArrested H190 hI191 pe (h 56 (x189.toNat)) z316 (by omega)) (fun H319 r320 q321 o322 => ?_)
                      obtain ⟨hI323, hf324, y325, rfl, p326⟩ := q321
                      clear o322
                      have hf327 := fz_fr_tr hf192 hf324 (show fz_su [(74, 99999), (75, 99999)] [(53, 54), (53, 55), (74, 99999), (75, 99999), (89, 99999), (90, 99999)] = true from rfl)
                      refine fz_if_eq (tgt := 177) kX11_tries rfl (by decide) (fun c328 => ?_) (fun c328 => ?_)
                      · refine fz_aload_n kX11_tries rfl rfl ?_
                        refine fz_getR (t := 90) kX11_tries rfl rfl ?_
                        refine fz_iload kX11_tries rfl rfl ?_
                        refine fz_iload kX11_tries rfl rfl ?_
                        refine fz_iast (n := 4) kX11_tries rfl rfl (by omega) (by omega) ?_
                        refine fz_nmu (S := [(53, 54), (53, 55), (74, 99999), (75, 99999), (89, 99999), (90, 99999)]) (h0 := h) (fz_Iv_up hI323 (by decide) (show 0 ≤ (h 56 (x189.toNat)) by omega) (show (h 56 (x189.toNat)) ≤ 7 by omega)) (fz_fr_up hf327 rfl) (fun H329 hI330 hf331 e332 => ?_)
                        clear e332
                        refine fz_aload_n kX11_tries rfl rfl ?_
                        refine fz_iload_n kX11_tries rfl rfl ?_
                        refine fz_iload kX11_tries rfl rfl ?_
                        refine fz_iload kX11_tries rfl rfl ?_
                        refine fz_iload kX11_tries rfl rfl ?_
                        refine fz_iconst ⟨by decide, by decide⟩ kX11_tries rfl ?_
                        refine fz_iaddN kX11_tries rfl ⟨by decide, by decide⟩ ?_
                        refine fz_eqi (y := 1) rfl ?_
                        refine fz_iload kX11_tries rfl rfl ?_
                        refine fz_aload_n kX11_tries rfl rfl ?_
                        refine fz_iload_n kX11_tries rfl rfl ?_
                        refine fz_iload kX11_tries rfl rfl ?_
                        refine fz_iload kX11_tries rfl rfl ?_
                        refine fz_callV (d' := 4) (M' := mX11_receivedIn) (As := [fz_i pe, fz_i (h 56 (x189.toNat)), fz_i z316]) (st := [fz_i su, fz_i 1, fz_i z316, fz_i (h 56 (x189.toNat)), fz_i pe, fz_r 53]) kX11_tries rfl rfl vX11_receivedIn rfl rfl rfl rfl (Nat.le_of_ble_eq_true rfl) (Nat.le_of_ble_eq_true rfl) (by decide) (sX11_receivedIn H329 hI330 pe (h 56 (x189.toNat)) z316 (by omega)) (fun H333 r334 q335 o336 => ?_)
                        obtain ⟨hI337, hf338, y340, rfl, f339⟩ := q335
                        clear o336
                        have hf341 := fz_fr_tr hf331 hf338 (show fz_su [(74, 99999), (75, 99999)] [(53, 54), (53, 55), (74, 99999), (75, 99999), (89, 99999), (90, 99999)] = true from rfl)
                        refine fz_iadd kX11_tries rfl ?_
                        refine fz_nmw (fun z342 e343 => ?_)
                        refine fz_callV (d' := 7) (M' := mX11_tries) (As := [fz_i pe, fz_i (h 56 (x189.toNat)), fz_i z316, fz_i 1, fz_i z342]) (st := []) kX11_tries rfl rfl vX11_tries rfl rfl rfl rfl (Nat.le_of_ble_eq_true rfl) (Nat.le_of_ble_eq_true rfl) (by decide) (sX11_tries_1 H333 hI337 pe (h 56 (x189.toNat)) z316 z342 (by omega)) (fun H344 r345 q346 o347 => ?_)
                        obtain ⟨hI348, hf349, rfl⟩ := q346
                        clear o347
                        have hf350 := fz_fr_tr hf341 hf349 (show fz_su [(53, 54), (53, 55), (74, 99999), (75, 99999), (89, 99999), (90, 99999)] [(53, 54), (53, 55), (74, 99999), (75, 99999), (89, 99999), (90, 99999)] = true from rfl)
                        refine fz_iincN (ls' := [(6, fz_i (x189 + 1)), (8, fz_i z316), (7, fz_i (h 56 (x189.toNat))), (0, fz_r 53), (1, fz_i pe), (2, fz_i t), (3, fz_i hr), (4, fz_i 0), (5, fz_i su)]) kX11_tries rfl (by decide) rfl (by omega) rfl ?_
                        refine fz_goto (tgt := 79) kX11_tries rfl (by decide) ?_
                        refine fz_sub (fz_pk_sub (ls' := [(6, fz_i (x189 + 1)), (0, fz_r 53), (1, fz_i pe), (2, fz_i t), (3, fz_i hr), (4, fz_i 0), (5, fz_i su)]) [0, 3, 4, 5, 6, 7, 8] rfl) ?_
                        exact ih195 (x189 + 1) H344 hI348 hf350 (by omega) (by omega)
                      · refine fz_goto (tgt := 211) kX11_tries rfl (by decide) ?_
                        refine fz_iincN (ls' := [(6, fz_i (x189 + 1)), (8, fz_i z316), (7, fz_i (h 56 (x189.toNat))), (0, fz_r 53), (1, fz_i pe), (2, fz_i t), (3, fz_i hr), (4, fz_i 0), (5, fz_i su)]) kX11_tries rfl (by decide) rfl (by omega) rfl ?_
                        refine fz_goto (tgt := 79) kX11_tries rfl (by decide) ?_
                        refine fz_sub (fz_pk_sub (ls' := [(6, fz_i (x189 + 1)), (0, fz_r 53), (1, fz_i pe), (2, fz_i t), (3, fz_i hr), (4, fz_i 0), (5, fz_i su)]) [0, 3, 4, 5, 6, 7, 8] rfl) ?_
                        exact ih195 (x189 + 1) H319 hI323 hf327 (by omega) (by omega)
                · refine fz_goto (tgt := 211) kX11_tries rfl (by decide) ?_
                  refine fz_iincN (ls' := [(6, fz_i (x189 + 1)), (0, fz_r 53), (1, fz_i pe), (2, fz_i t), (3, fz_i hr), (4, fz_i 0), (5, fz_i su)]) kX11_tries rfl (by decide) rfl (by omega) rfl ?_
                  refine fz_goto (tgt := 79) kX11_tries rfl (by decide) ?_
                  exact ih195 (x189 + 1) H190 hI191 hf192 (by omega) (by omega)
        exact lp194 _ 0 h hI hf (by omega) (Nat.lt_succ_self _)
      · exfalso; omega
    · refine fz_aload_n kX11_tries rfl rfl ?_
      refine fz_iload kX11_tries rfl rfl ?_
      refine fz_callV (d' := 0) (M' := mX11_isAhead) (As := [fz_i 0]) (st := []) kX11_tries rfl rfl vX11_isAhead rfl rfl rfl rfl (Nat.le_of_ble_eq_true rfl) (Nat.le_of_ble_eq_true rfl) (by decide) (sX11_isAhead h hI 0 (by omega)) (fun H351 r352 q353 o354 => ?_)
      obtain ⟨e355, y356, rfl, p357⟩ := q353
      subst H351
      clear o354
      refine fz_if_eq (tgt := 69) kX11_tries rfl (by decide) (fun c358 => ?_) (fun c358 => ?_)
      · refine fz_iload kX11_tries rfl rfl ?_
        refine fz_iconst ⟨by decide, by decide⟩ kX11_tries rfl ?_
        refine fz_icmp_ne (tgt := 76) kX11_tries rfl (by decide) (fun c359 => ?_) (fun c359 => ?_)
        · refine fz_iconst ⟨by decide, by decide⟩ kX11_tries rfl ?_
          refine fz_istore (ls' := [(6, fz_i 0), (0, fz_r 53), (1, fz_i pe), (2, fz_i t), (3, fz_i hr), (4, fz_i 0), (5, fz_i su)]) kX11_tries rfl (by decide) rfl ?_
          have lp365 : ∀ (n364 : Nat) (x360 : Int) (H361 : fz_H), fz_Iv H361 → fz_fr [(53, 54), (53, 55), (74, 99999), (75, 99999), (89, 99999), (90, 99999)] h H361 → (0 ≤ x360 ∧ x360 ≤ 2147483647) → ((h 53 2) - x360).toNat < n364 → fz_R 8 mX11_tries 79 [(6, fz_i x360), (0, fz_r 53), (1, fz_i pe), (2, fz_i t), (3, fz_i hr), (4, fz_i 0), (5, fz_i su)] [] H361 (qX11_tries_0 h pe t hr su) := by
            intro n364
            induction n364 with
            | zero => intro x360 H361 hI362 hf363 hv368 hm367; exact absurd hm367 (by omega)
            | succ n364 ih366 =>
              intro x360 H361 hI362 hf363 hv368 hm367
              refine fz_iload kX11_tries rfl rfl ?_
              refine fz_aload_n kX11_tries rfl rfl ?_
              refine fz_getV (v := h 53 2) kX11_tries rfl rfl (hf363 53 2 rfl) ?_
              have b369 : 0 ≤ h 53 2 ∧ h 53 2 ≤ 12 := hI.1 53 _
              refine fz_icmp_ge (tgt := 217) kX11_tries rfl (by decide) (fun c370 => ?_) (fun c370 => ?_)
              · exact fz_vret kX11_tries rfl rfl ⟨hI362, hf363, rfl⟩
              · refine fz_aload_n kX11_tries rfl rfl ?_
                refine fz_getR (t := 55) kX11_tries rfl rfl ?_
                refine fz_iload kX11_tries rfl rfl ?_
                refine fz_ialdV (n := 12) (v := h 55 (x360.toNat)) kX11_tries rfl rfl (by omega) (by omega) (hf363 55 _ rfl) ?_
                have b371 : 0 ≤ h 55 (x360.toNat) ∧ h 55 (x360.toNat) ≤ 7 := hI.1 55 _
                refine fz_iload_n kX11_tries rfl rfl ?_
                refine fz_icmp_eq (tgt := 113) kX11_tries rfl (by decide) (fun c372 => ?_) (fun c372 => ?_)
                · refine fz_aload_n kX11_tries rfl rfl ?_
                  refine fz_getR (t := 55) kX11_tries rfl rfl ?_
                  refine fz_iload kX11_tries rfl rfl ?_
                  refine fz_ialdV (n := 12) (v := h 55 (x360.toNat)) kX11_tries rfl rfl (by omega) (by omega) (hf363 55 _ rfl) ?_
                  refine fz_iload_n kX11_tries rfl rfl ?_
                  refine fz_icmp_ne (tgt := 134) kX11_tries rfl (by decide) (fun c373 => ?_) (fun c373 => ?_)
                  · refine fz_aload_n kX11_tries rfl rfl ?_
                    refine fz_getR (t := 55) kX11_tries rfl rfl ?_
                    refine fz_iload kX11_tries rfl rfl ?_
                    refine fz_ialdV (n := 12) (v := h 55 (x360.toNat)) kX11_tries rfl rfl (by omega) (by omega) (hf363 55 _ rfl) ?_
                    refine fz_istore (ls' := [(7, fz_i (h 55 (x360.toNat))), (6, fz_i x360), (0, fz_r 53), (1, fz_i pe), (2, fz_i t), (3, fz_i hr), (4, fz_i 0), (5, fz_i su)]) kX11_tries rfl (by decide) rfl ?_
                    refine fz_iload_n kX11_tries rfl rfl ?_
                    refine fz_aload_n kX11_tries rfl rfl ?_
                    refine fz_getR (t := 57) kX11_tries rfl rfl ?_
                    refine fz_iload kX11_tries rfl rfl ?_
                    refine fz_ialdV (n := 12) (v := h 57 (x360.toNat)) kX11_tries rfl rfl (by omega) (by omega) (hf363 57 _ rfl) ?_
                    have b374 : 0 ≤ h 57 (x360.toNat) ∧ h 57 (x360.toNat) ≤ 24 := hI.1 57 _
                    refine fz_iadd kX11_tries rfl ?_
                    refine fz_nmw (fun z375 e376 => ?_)
                    refine fz_istore (ls' := [(8, fz_i z375), (7, fz_i (h 55 (x360.toNat))), (6, fz_i x360), (0, fz_r 53), (1, fz_i pe), (2, fz_i t), (3, fz_i hr), (4, fz_i 0), (5, fz_i su)]) kX11_tries rfl (by decide) rfl ?_
                    refine fz_iload kX11_tries rfl rfl ?_
                    refine fz_sipush ⟨by decide, by decide⟩ kX11_tries rfl ?_
                    refine fz_icmp_gt (tgt := 211) kX11_tries rfl (by decide) (fun c377 => ?_) (fun c377 => ?_)
                    · refine fz_iincN (ls' := [(6, fz_i (x360 + 1)), (8, fz_i z375), (7, fz_i (h 55 (x360.toNat))), (0, fz_r 53), (1, fz_i pe), (2, fz_i t), (3, fz_i hr), (4, fz_i 0), (5, fz_i su)]) kX11_tries rfl (by decide) rfl (by omega) rfl ?_
                      refine fz_goto (tgt := 79) kX11_tries rfl (by decide) ?_
                      refine fz_sub (fz_pk_sub (ls' := [(6, fz_i (x360 + 1)), (0, fz_r 53), (1, fz_i pe), (2, fz_i t), (3, fz_i hr), (4, fz_i 0), (5, fz_i su)]) [0, 3, 4, 5, 6, 7, 8] rfl) ?_
                      exact ih366 (x360 + 1) H361 hI362 hf363 (by omega) (by omega)
                    · refine fz_aload_n kX11_tries rfl rfl ?_
                      refine fz_iload_n kX11_tries rfl rfl ?_
                      refine fz_iload kX11_tries rfl rfl ?_
                      refine fz_iload kX11_tries rfl rfl ?_
                      refine fz_callV (d' := 4) (M' := mX11_isArrested) (As := [fz_i pe, fz_i (h 55 (x360.toNat)), fz_i z375]) (st := []) kX11_tries rfl rfl vX11_isArrested rfl rfl rfl rfl (Nat.le_of_ble_eq_true rfl) (Nat.le_of_ble_eq_true rfl) (by decide) (sX11_isArrested H361 hI362 pe (h 55 (x360.toNat)) z375 (by omega)) (fun H378 r379 q380 o381 => ?_)
                      obtain ⟨hI382, hf383, y384, rfl, p385⟩ := q380
                      clear o381
                      have hf386 := fz_fr_tr hf363 hf383 (show fz_su [(74, 99999), (75, 99999)] [(53, 54), (53, 55), (74, 99999), (75, 99999), (89, 99999), (90, 99999)] = true from rfl)
                      refine fz_if_eq (tgt := 177) kX11_tries rfl (by decide) (fun c387 => ?_) (fun c387 => ?_)
                      · refine fz_aload_n kX11_tries rfl rfl ?_
                        refine fz_getR (t := 90) kX11_tries rfl rfl ?_
                        refine fz_iload kX11_tries rfl rfl ?_
                        refine fz_iload kX11_tries rfl rfl ?_
                        refine fz_iast (n := 4) kX11_tries rfl rfl (by omega) (by omega) ?_
                        refine fz_nmu (S := [(53, 54), (53, 55), (74, 99999), (75, 99999), (89, 99999), (90, 99999)]) (h0 := h) (fz_Iv_up hI382 (by decide) (show 0 ≤ (h 55 (x360.toNat)) by omega) (show (h 55 (x360.toNat)) ≤ 7 by omega)) (fz_fr_up hf386 rfl) (fun H388 hI389 hf390 e391 => ?_)
                        clear e391
                        refine fz_aload_n kX11_tries rfl rfl ?_
                        refine fz_iload_n kX11_tries rfl rfl ?_
                        refine fz_iload kX11_tries rfl rfl ?_
                        refine fz_iload kX11_tries rfl rfl ?_
                        refine fz_iload kX11_tries rfl rfl ?_
                        refine fz_iconst ⟨by decide, by decide⟩ kX11_tries rfl ?_
                        refine fz_iaddN kX11_tries rfl ⟨by decide, by decide⟩ ?_
                        refine fz_eqi (y := 1) rfl ?_
                        refine fz_iload kX11_tries rfl rfl ?_
                        refine fz_aload_n kX11_tries rfl rfl ?_
                        refine fz_iload_n kX11_tries rfl rfl ?_
                        refine fz_iload kX11_tries rfl rfl ?_
                        refine fz_iload kX11_tries rfl rfl ?_
                        refine fz_callV (d' := 4) (M' := mX11_receivedIn) (As := [fz_i pe, fz_i (h 55 (x360.toNat)), fz_i z375]) (st := [fz_i su, fz_i 1, fz_i z375, fz_i (h 55 (x360.toNat)), fz_i pe, fz_r 53]) kX11_tries rfl rfl vX11_receivedIn rfl rfl rfl rfl (Nat.le_of_ble_eq_true rfl) (Nat.le_of_ble_eq_true rfl) (by decide) (sX11_receivedIn H388 hI389 pe (h 55 (x360.toNat)) z375 (by omega)) (fun H392 r393 q394 o395 => ?_)
                        obtain ⟨hI396, hf397, y399, rfl, f398⟩ := q394
                        clear o395
                        have hf400 := fz_fr_tr hf390 hf397 (show fz_su [(74, 99999), (75, 99999)] [(53, 54), (53, 55), (74, 99999), (75, 99999), (89, 99999), (90, 99999)] = true from rfl)
                        refine fz_iadd kX11_tries rfl ?_
                        refine fz_nmw (fun z401 e402 => ?_)
                        refine fz_callV (d' := 7) (M' := mX11_tries) (As := [fz_i pe, fz_i (h 55 (x360.toNat)), fz_i z375, fz_i 1, fz_i z401]) (st := []) kX11_tries rfl rfl vX11_tries rfl rfl rfl rfl (Nat.le_of_ble_eq_true rfl) (Nat.le_of_ble_eq_true rfl) (by decide) (sX11_tries_1 H392 hI396 pe (h 55 (x360.toNat)) z375 z401 (by omega)) (fun H403 r404 q405 o406 => ?_)
                        obtain ⟨hI407, hf408, rfl⟩ := q405
                        clear o406
                        have hf409 := fz_fr_tr hf400 hf408 (show fz_su [(53, 54), (53, 55), (74, 99999), (75, 99999), (89, 99999), (90, 99999)] [(53, 54), (53, 55), (74, 99999), (75, 99999), (89, 99999), (90, 99999)] = true from rfl)
                        refine fz_iincN (ls' := [(6, fz_i (x360 + 1)), (8, fz_i z375), (7, fz_i (h 55 (x360.toNat))), (0, fz_r 53), (1, fz_i pe), (2, fz_i t), (3, fz_i hr), (4, fz_i 0), (5, fz_i su)]) kX11_tries rfl (by decide) rfl (by omega) rfl ?_
                        refine fz_goto (tgt := 79) kX11_tries rfl (by decide) ?_
                        refine fz_sub (fz_pk_sub (ls' := [(6, fz_i (x360 + 1)), (0, fz_r 53), (1, fz_i pe), (2, fz_i t), (3, fz_i hr), (4, fz_i 0), (5, fz_i su)]) [0, 3, 4, 5, 6, 7, 8] rfl) ?_
                        exact ih366 (x360 + 1) H403 hI407 hf409 (by omega) (by omega)
                      · refine fz_goto (tgt := 211) kX11_tries rfl (by decide) ?_
                        refine fz_iincN (ls' := [(6, fz_i (x360 + 1)), (8, fz_i z375), (7, fz_i (h 55 (x360.toNat))), (0, fz_r 53), (1, fz_i pe), (2, fz_i t), (3, fz_i hr), (4, fz_i 0), (5, fz_i su)]) kX11_tries rfl (by decide) rfl (by omega) rfl ?_
                        refine fz_goto (tgt := 79) kX11_tries rfl (by decide) ?_
                        refine fz_sub (fz_pk_sub (ls' := [(6, fz_i (x360 + 1)), (0, fz_r 53), (1, fz_i pe), (2, fz_i t), (3, fz_i hr), (4, fz_i 0), (5, fz_i su)]) [0, 3, 4, 5, 6, 7, 8] rfl) ?_
                        exact ih366 (x360 + 1) H378 hI382 hf386 (by omega) (by omega)
                  · refine fz_aload_n kX11_tries rfl rfl ?_
                    refine fz_getR (t := 56) kX11_tries rfl rfl ?_
                    refine fz_iload kX11_tries rfl rfl ?_
                    refine fz_ialdV (n := 12) (v := h 56 (x360.toNat)) kX11_tries rfl rfl (by omega) (by omega) (hf363 56 _ rfl) ?_
                    have b410 : 0 ≤ h 56 (x360.toNat) ∧ h 56 (x360.toNat) ≤ 7 := hI.1 56 _
                    refine fz_goto (tgt := 141) kX11_tries rfl (by decide) ?_
                    refine fz_istore (ls' := [(7, fz_i (h 56 (x360.toNat))), (6, fz_i x360), (0, fz_r 53), (1, fz_i pe), (2, fz_i t), (3, fz_i hr), (4, fz_i 0), (5, fz_i su)]) kX11_tries rfl (by decide) rfl ?_
                    refine fz_iload_n kX11_tries rfl rfl ?_
                    refine fz_aload_n kX11_tries rfl rfl ?_
                    refine fz_getR (t := 57) kX11_tries rfl rfl ?_
                    refine fz_iload kX11_tries rfl rfl ?_
                    refine fz_ialdV (n := 12) (v := h 57 (x360.toNat)) kX11_tries rfl rfl (by omega) (by omega) (hf363 57 _ rfl) ?_
                    have b411 : 0 ≤ h 57 (x360.toNat) ∧ h 57 (x360.toNat) ≤ 24 := hI.1 57 _
                    refine fz_iadd kX11_tries rfl ?_
                    refine fz_nmw (fun z412 e413 => ?_)
                    refine fz_istore (ls' := [(8, fz_i z412), (7, fz_i (h 56 (x360.toNat))), (6, fz_i x360), (0, fz_r 53), (1, fz_i pe), (2, fz_i t), (3, fz_i hr), (4, fz_i 0), (5, fz_i su)]) kX11_tries rfl (by decide) rfl ?_
                    refine fz_iload kX11_tries rfl rfl ?_
                    refine fz_sipush ⟨by decide, by decide⟩ kX11_tries rfl ?_
                    refine fz_icmp_gt (tgt := 211) kX11_tries rfl (by decide) (fun c414 => ?_) (fun c414 => ?_)
                    · refine fz_iincN (ls' := [(6, fz_i (x360 + 1)), (8, fz_i z412), (7, fz_i (h 56 (x360.toNat))), (0, fz_r 53), (1, fz_i pe), (2, fz_i t), (3, fz_i hr), (4, fz_i 0), (5, fz_i su)]) kX11_tries rfl (by decide) rfl (by omega) rfl ?_
                      refine fz_goto (tgt := 79) kX11_tries rfl (by decide) ?_
                      refine fz_sub (fz_pk_sub (ls' := [(6, fz_i (x360 + 1)), (0, fz_r 53), (1, fz_i pe), (2, fz_i t), (3, fz_i hr), (4, fz_i 0), (5, fz_i su)]) [0, 3, 4, 5, 6, 7, 8] rfl) ?_
                      exact ih366 (x360 + 1) H361 hI362 hf363 (by omega) (by omega)
                    · refine fz_aload_n kX11_tries rfl rfl ?_
                      refine fz_iload_n kX11_tries rfl rfl ?_
                      refine fz_iload kX11_tries rfl rfl ?_
                      refine fz_iload kX11_tries rfl rfl ?_
                      refine fz_callV (d' := 4) (M' := mX11_isArrested) (As := [fz_i pe, fz_i (h 56 (x360.toNat)), fz_i z412]) (st := []) kX11_tries rfl rfl vX11_isArrested rfl rfl rfl rfl (Nat.le_of_ble_eq_true rfl) (Nat.le_of_ble_eq_true rfl) (by decide) (sX11_isArrested H361 hI362 pe (h 56 (x360.toNat)) z412 (by omega)) (fun H415 r416 q417 o418 => ?_)
                      obtain ⟨hI419, hf420, y421, rfl, p422⟩ := q417
                      clear o418
                      have hf423 := fz_fr_tr hf363 hf420 (show fz_su [(74, 99999), (75, 99999)] [(53, 54), (53, 55), (74, 99999), (75, 99999), (89, 99999), (90, 99999)] = true from rfl)
                      refine fz_if_eq (tgt := 177) kX11_tries rfl (by decide) (fun c424 => ?_) (fun c424 => ?_)
                      · refine fz_aload_n kX11_tries rfl rfl ?_
                        refine fz_getR (t := 90) kX11_tries rfl rfl ?_
                        refine fz_iload kX11_tries rfl rfl ?_
                        refine fz_iload kX11_tries rfl rfl ?_
                        refine fz_iast (n := 4) kX11_tries rfl rfl (by omega) (by omega) ?_
                        refine fz_nmu (S := [(53, 54), (53, 55), (74, 99999), (75, 99999), (89, 99999), (90, 99999)]) (h0 := h) (fz_Iv_up hI419 (by decide) (show 0 ≤ (h 56 (x360.toNat)) by omega) (show (h 56 (x360.toNat)) ≤ 7 by omega)) (fz_fr_up hf423 rfl) (fun H425 hI426 hf427 e428 => ?_)
                        clear e428
                        refine fz_aload_n kX11_tries rfl rfl ?_
                        refine fz_iload_n kX11_tries rfl rfl ?_
                        refine fz_iload kX11_tries rfl rfl ?_
                        refine fz_iload kX11_tries rfl rfl ?_
                        refine fz_iload kX11_tries rfl rfl ?_
                        refine fz_iconst ⟨by decide, by decide⟩ kX11_tries rfl ?_
                        refine fz_iaddN kX11_tries rfl ⟨by decide, by decide⟩ ?_
                        refine fz_eqi (y := 1) rfl ?_
                        refine fz_iload kX11_tries rfl rfl ?_
                        refine fz_aload_n kX11_tries rfl rfl ?_
                        refine fz_iload_n kX11_tries rfl rfl ?_
                        refine fz_iload kX11_tries rfl rfl ?_
                        refine fz_iload kX11_tries rfl rfl ?_
                        refine fz_callV (d' := 4) (M' := mX11_receivedIn) (As := [fz_i pe, fz_i (h 56 (x360.toNat)), fz_i z412]) (st := [fz_i su, fz_i 1, fz_i z412, fz_i (h 56 (x360.toNat)), fz_i pe, fz_r 53]) kX11_tries rfl rfl vX11_receivedIn rfl rfl rfl rfl (Nat.le_of_ble_eq_true rfl) (Nat.le_of_ble_eq_true rfl) (by decide) (sX11_receivedIn H425 hI426 pe (h 56 (x360.toNat)) z412 (by omega)) (fun H429 r430 q431 o432 => ?_)
                        obtain ⟨hI433, hf434, y436, rfl, f435⟩ := q431
                        clear o432
                        have hf437 := fz_fr_tr hf427 hf434 (show fz_su [(74, 99999), (75, 99999)] [(53, 54), (53, 55), (74, 99999), (75, 99999), (89, 99999), (90, 99999)] = true from rfl)
                        refine fz_iadd kX11_tries rfl ?_
                        refine fz_nmw (fun z438 e439 => ?_)
                        refine fz_callV (d' := 7) (M' := mX11_tries) (As := [fz_i pe, fz_i (h 56 (x360.toNat)), fz_i z412, fz_i 1, fz_i z438]) (st := []) kX11_tries rfl rfl vX11_tries rfl rfl rfl rfl (Nat.le_of_ble_eq_true rfl) (Nat.le_of_ble_eq_true rfl) (by decide) (sX11_tries_1 H429 hI433 pe (h 56 (x360.toNat)) z412 z438 (by omega)) (fun H440 r441 q442 o443 => ?_)
                        obtain ⟨hI444, hf445, rfl⟩ := q442
                        clear o443
                        have hf446 := fz_fr_tr hf437 hf445 (show fz_su [(53, 54), (53, 55), (74, 99999), (75, 99999), (89, 99999), (90, 99999)] [(53, 54), (53, 55), (74, 99999), (75, 99999), (89, 99999), (90, 99999)] = true from rfl)
                        refine fz_iincN (ls' := [(6, fz_i (x360 + 1)), (8, fz_i z412), (7, fz_i (h 56 (x360.toNat))), (0, fz_r 53), (1, fz_i pe), (2, fz_i t), (3, fz_i hr), (4, fz_i 0), (5, fz_i su)]) kX11_tries rfl (by decide) rfl (by omega) rfl ?_
                        refine fz_goto (tgt := 79) kX11_tries rfl (by decide) ?_
                        refine fz_sub (fz_pk_sub (ls' := [(6, fz_i (x360 + 1)), (0, fz_r 53), (1, fz_i pe), (2, fz_i t), (3, fz_i hr), (4, fz_i 0), (5, fz_i su)]) [0, 3, 4, 5, 6, 7, 8] rfl) ?_
                        exact ih366 (x360 + 1) H440 hI444 hf446 (by omega) (by omega)
                      · refine fz_goto (tgt := 211) kX11_tries rfl (by decide) ?_
                        refine fz_iincN (ls' := [(6, fz_i (x360 + 1)), (8, fz_i z412), (7, fz_i (h 56 (x360.toNat))), (0, fz_r 53), (1, fz_i pe), (2, fz_i t), (3, fz_i hr), (4, fz_i 0), (5, fz_i su)]) kX11_tries rfl (by decide) rfl (by omega) rfl ?_
                        refine fz_goto (tgt := 79) kX11_tries rfl (by decide) ?_
                        refine fz_sub (fz_pk_sub (ls' := [(6, fz_i (x360 + 1)), (0, fz_r 53), (1, fz_i pe), (2, fz_i t), (3, fz_i hr), (4, fz_i 0), (5, fz_i su)]) [0, 3, 4, 5, 6, 7, 8] rfl) ?_
                        exact ih366 (x360 + 1) H415 hI419 hf423 (by omega) (by omega)
                · refine fz_aload_n kX11_tries rfl rfl ?_
                  refine fz_getR (t := 56) kX11_tries rfl rfl ?_
                  refine fz_iload kX11_tries rfl rfl ?_
                  refine fz_ialdV (n := 12) (v := h 56 (x360.toNat)) kX11_tries rfl rfl (by omega) (by omega) (hf363 56 _ rfl) ?_
                  have b447 : 0 ≤ h 56 (x360.toNat) ∧ h 56 (x360.toNat) ≤ 7 := hI.1 56 _
                  refine fz_iload_n kX11_tries rfl rfl ?_
                  refine fz_icmp_eq (tgt := 113) kX11_tries rfl (by decide) (fun c448 => ?_) (fun c448 => ?_)
                  · refine fz_aload_n kX11_tries rfl rfl ?_
                    refine fz_getR (t := 55) kX11_tries rfl rfl ?_
                    refine fz_iload kX11_tries rfl rfl ?_
                    refine fz_ialdV (n := 12) (v := h 55 (x360.toNat)) kX11_tries rfl rfl (by omega) (by omega) (hf363 55 _ rfl) ?_
                    refine fz_iload_n kX11_tries rfl rfl ?_
                    refine fz_icmp_ne (tgt := 134) kX11_tries rfl (by decide) (fun c449 => ?_) (fun c449 => ?_)
                    · refine fz_aload_n kX11_tries rfl rfl ?_
                      refine fz_getR (t := 55) kX11_tries rfl rfl ?_
                      refine fz_iload kX11_tries rfl rfl ?_
                      refine fz_ialdV (n := 12) (v := h 55 (x360.toNat)) kX11_tries rfl rfl (by omega) (by omega) (hf363 55 _ rfl) ?_
                      refine fz_istore (ls' := [(7, fz_i (h 55 (x360.toNat))), (6, fz_i x360), (0, fz_r 53), (1, fz_i pe), (2, fz_i t), (3, fz_i hr), (4, fz_i 0), (5, fz_i su)]) kX11_tries rfl (by decide) rfl ?_
                      refine fz_iload_n kX11_tries rfl rfl ?_
                      refine fz_aload_n kX11_tries rfl rfl ?_
                      refine fz_getR (t := 57) kX11_tries rfl rfl ?_
                      refine fz_iload kX11_tries rfl rfl ?_
                      refine fz_ialdV (n := 12) (v := h 57 (x360.toNat)) kX11_tries rfl rfl (by omega) (by omega) (hf363 57 _ rfl) ?_
                      have b450 : 0 ≤ h 57 (x360.toNat) ∧ h 57 (x360.toNat) ≤ 24 := hI.1 57 _
                      refine fz_iadd kX11_tries rfl ?_
                      refine fz_nmw (fun z451 e452 => ?_)
                      refine fz_istore (ls' := [(8, fz_i z451), (7, fz_i (h 55 (x360.toNat))), (6, fz_i x360), (0, fz_r 53), (1, fz_i pe), (2, fz_i t), (3, fz_i hr), (4, fz_i 0), (5, fz_i su)]) kX11_tries rfl (by decide) rfl ?_
                      refine fz_iload kX11_tries rfl rfl ?_
                      refine fz_sipush ⟨by decide, by decide⟩ kX11_tries rfl ?_
                      refine fz_icmp_gt (tgt := 211) kX11_tries rfl (by decide) (fun c453 => ?_) (fun c453 => ?_)
                      · refine fz_iincN (ls' := [(6, fz_i (x360 + 1)), (8, fz_i z451), (7, fz_i (h 55 (x360.toNat))), (0, fz_r 53), (1, fz_i pe), (2, fz_i t), (3, fz_i hr), (4, fz_i 0), (5, fz_i su)]) kX11_tries rfl (by decide) rfl (by omega) rfl ?_
                        refine fz_goto (tgt := 79) kX11_tries rfl (by decide) ?_
                        refine fz_sub (fz_pk_sub (ls' := [(6, fz_i (x360 + 1)), (0, fz_r 53), (1, fz_i pe), (2, fz_i t), (3, fz_i hr), (4, fz_i 0), (5, fz_i su)]) [0, 3, 4, 5, 6, 7, 8] rfl) ?_
                        exact ih366 (x360 + 1) H361 hI362 hf363 (by omega) (by omega)
                      · refine fz_aload_n kX11_tries rfl rfl ?_
                        refine fz_iload_n kX11_tries rfl rfl ?_
                        refine fz_iload kX11_tries rfl rfl ?_
                        refine fz_iload kX11_tries rfl rfl ?_
                        refine fz_callV (d' := 4) (M' := mX11_isArrested) (As := [fz_i pe, fz_i (h 55 (x360.toNat)), fz_i z451]) (st := []) kX11_tries rfl rfl vX11_isArrested rfl rfl rfl rfl (Nat.le_of_ble_eq_true rfl) (Nat.le_of_ble_eq_true rfl) (by decide) (sX11_isArrested H361 hI362 pe (h 55 (x360.toNat)) z451 (by omega)) (fun H454 r455 q456 o457 => ?_)
                        obtain ⟨hI458, hf459, y460, rfl, p461⟩ := q456
                        clear o457
                        have hf462 := fz_fr_tr hf363 hf459 (show fz_su [(74, 99999), (75, 99999)] [(53, 54), (53, 55), (74, 99999), (75, 99999), (89, 99999), (90, 99999)] = true from rfl)
                        refine fz_if_eq (tgt := 177) kX11_tries rfl (by decide) (fun c463 => ?_) (fun c463 => ?_)
                        · refine fz_aload_n kX11_tries rfl rfl ?_
                          refine fz_getR (t := 90) kX11_tries rfl rfl ?_
                          refine fz_iload kX11_tries rfl rfl ?_
                          refine fz_iload kX11_tries rfl rfl ?_
                          refine fz_iast (n := 4) kX11_tries rfl rfl (by omega) (by omega) ?_
                          refine fz_nmu (S := [(53, 54), (53, 55), (74, 99999), (75, 99999), (89, 99999), (90, 99999)]) (h0 := h) (fz_Iv_up hI458 (by decide) (show 0 ≤ (h 55 (x360.toNat)) by omega) (show (h 55 (x360.toNat)) ≤ 7 by omega)) (fz_fr_up hf462 rfl) (fun H464 hI465 hf466 e467 => ?_)
                          clear e467
                          refine fz_aload_n kX11_tries rfl rfl ?_
                          refine fz_iload_n kX11_tries rfl rfl ?_
                          refine fz_iload kX11_tries rfl rfl ?_
                          refine fz_iload kX11_tries rfl rfl ?_
                          refine fz_iload kX11_tries rfl rfl ?_
                          refine fz_iconst ⟨by decide, by decide⟩ kX11_tries rfl ?_
                          refine fz_iaddN kX11_tries rfl ⟨by decide, by decide⟩ ?_
                          refine fz_eqi (y := 1) rfl ?_
                          refine fz_iload kX11_tries rfl rfl ?_
                          refine fz_aload_n kX11_tries rfl rfl ?_
                          refine fz_iload_n kX11_tries rfl rfl ?_
                          refine fz_iload kX11_tries rfl rfl ?_
                          refine fz_iload kX11_tries rfl rfl ?_
                          refine fz_callV (d' := 4) (M' := mX11_receivedIn) (As := [fz_i pe, fz_i (h 55 (x360.toNat)), fz_i z451]) (st := [fz_i su, fz_i 1, fz_i z451, fz_i (h 55 (x360.toNat)), fz_i pe, fz_r 53]) kX11_tries rfl rfl vX11_receivedIn rfl rfl rfl rfl (Nat.le_of_ble_eq_true rfl) (Nat.le_of_ble_eq_true rfl) (by decide) (sX11_receivedIn H464 hI465 pe (h 55 (x360.toNat)) z451 (by omega)) (fun H468 r469 q470 o471 => ?_)
                          obtain ⟨hI472, hf473, y475, rfl, f474⟩ := q470
                          clear o471
                          have hf476 := fz_fr_tr hf466 hf473 (show fz_su [(74, 99999), (75, 99999)] [(53, 54), (53, 55), (74, 99999), (75, 99999), (89, 99999), (90, 99999)] = true from rfl)
                          refine fz_iadd kX11_tries rfl ?_
                          refine fz_nmw (fun z477 e478 => ?_)
                          refine fz_callV (d' := 7) (M' := mX11_tries) (As := [fz_i pe, fz_i (h 55 (x360.toNat)), fz_i z451, fz_i 1, fz_i z477]) (st := []) kX11_tries rfl rfl vX11_tries rfl rfl rfl rfl (Nat.le_of_ble_eq_true rfl) (Nat.le_of_ble_eq_true rfl) (by decide) (sX11_tries_1 H468 hI472 pe (h 55 (x360.toNat)) z451 z477 (by omega)) (fun H479 r480 q481 o482 => ?_)
                          obtain ⟨hI483, hf484, rfl⟩ := q481
                          clear o482
                          have hf485 := fz_fr_tr hf476 hf484 (show fz_su [(53, 54), (53, 55), (74, 99999), (75, 99999), (89, 99999), (90, 99999)] [(53, 54), (53, 55), (74, 99999), (75, 99999), (89, 99999), (90, 99999)] = true from rfl)
                          refine fz_iincN (ls' := [(6, fz_i (x360 + 1)), (8, fz_i z451), (7, fz_i (h 55 (x360.toNat))), (0, fz_r 53), (1, fz_i pe), (2, fz_i t), (3, fz_i hr), (4, fz_i 0), (5, fz_i su)]) kX11_tries rfl (by decide) rfl (by omega) rfl ?_
                          refine fz_goto (tgt := 79) kX11_tries rfl (by decide) ?_
                          refine fz_sub (fz_pk_sub (ls' := [(6, fz_i (x360 + 1)), (0, fz_r 53), (1, fz_i pe), (2, fz_i t), (3, fz_i hr), (4, fz_i 0), (5, fz_i su)]) [0, 3, 4, 5, 6, 7, 8] rfl) ?_
                          exact ih366 (x360 + 1) H479 hI483 hf485 (by omega) (by omega)
                        · refine fz_goto (tgt := 211) kX11_tries rfl (by decide) ?_
                          refine fz_iincN (ls' := [(6, fz_i (x360 + 1)), (8, fz_i z451), (7, fz_i (h 55 (x360.toNat))), (0, fz_r 53), (1, fz_i pe), (2, fz_i t), (3, fz_i hr), (4, fz_i 0), (5, fz_i su)]) kX11_tries rfl (by decide) rfl (by omega) rfl ?_
                          refine fz_goto (tgt := 79) kX11_tries rfl (by decide) ?_
                          refine fz_sub (fz_pk_sub (ls' := [(6, fz_i (x360 + 1)), (0, fz_r 53), (1, fz_i pe), (2, fz_i t), (3, fz_i hr), (4, fz_i 0), (5, fz_i su)]) [0, 3, 4, 5, 6, 7, 8] rfl) ?_
                          exact ih366 (x360 + 1) H454 hI458 hf462 (by omega) (by omega)
                    · refine fz_aload_n kX11_tries rfl rfl ?_
                      refine fz_getR (t := 56) kX11_tries rfl rfl ?_
                      refine fz_iload kX11_tries rfl rfl ?_
                      refine fz_ialdV (n := 12) (v := h 56 (x360.toNat)) kX11_tries rfl rfl (by omega) (by omega) (hf363 56 _ rfl) ?_
                      refine fz_goto (tgt := 141) kX11_tries rfl (by decide) ?_
                      refine fz_istore (ls' := [(7, fz_i (h 56 (x360.toNat))), (6, fz_i x360), (0, fz_r 53), (1, fz_i pe), (2, fz_i t), (3, fz_i hr), (4, fz_i 0), (5, fz_i su)]) kX11_tries rfl (by decide) rfl ?_
                      refine fz_iload_n kX11_tries rfl rfl ?_
                      refine fz_aload_n kX11_tries rfl rfl ?_
                      refine fz_getR (t := 57) kX11_tries rfl rfl ?_
                      refine fz_iload kX11_tries rfl rfl ?_
                      refine fz_ialdV (n := 12) (v := h 57 (x360.toNat)) kX11_tries rfl rfl (by omega) (by omega) (hf363 57 _ rfl) ?_
                      have b486 : 0 ≤ h 57 (x360.toNat) ∧ h 57 (x360.toNat) ≤ 24 := hI.1 57 _
                      refine fz_iadd kX11_tries rfl ?_
                      refine fz_nmw (fun z487 e488 => ?_)
                      refine fz_istore (ls' := [(8, fz_i z487), (7, fz_i (h 56 (x360.toNat))), (6, fz_i x360), (0, fz_r 53), (1, fz_i pe), (2, fz_i t), (3, fz_i hr), (4, fz_i 0), (5, fz_i su)]) kX11_tries rfl (by decide) rfl ?_
                      refine fz_iload kX11_tries rfl rfl ?_
                      refine fz_sipush ⟨by decide, by decide⟩ kX11_tries rfl ?_
                      refine fz_icmp_gt (tgt := 211) kX11_tries rfl (by decide) (fun c489 => ?_) (fun c489 => ?_)
                      · refine fz_iincN (ls' := [(6, fz_i (x360 + 1)), (8, fz_i z487), (7, fz_i (h 56 (x360.toNat))), (0, fz_r 53), (1, fz_i pe), (2, fz_i t), (3, fz_i hr), (4, fz_i 0), (5, fz_i su)]) kX11_tries rfl (by decide) rfl (by omega) rfl ?_
                        refine fz_goto (tgt := 79) kX11_tries rfl (by decide) ?_
                        refine fz_sub (fz_pk_sub (ls' := [(6, fz_i (x360 + 1)), (0, fz_r 53), (1, fz_i pe), (2, fz_i t), (3, fz_i hr), (4, fz_i 0), (5, fz_i su)]) [0, 3, 4, 5, 6, 7, 8] rfl) ?_
                        exact ih366 (x360 + 1) H361 hI362 hf363 (by omega) (by omega)
                      · refine fz_aload_n kX11_tries rfl rfl ?_
                        refine fz_iload_n kX11_tries rfl rfl ?_
                        refine fz_iload kX11_tries rfl rfl ?_
                        refine fz_iload kX11_tries rfl rfl ?_
                        refine fz_callV (d' := 4) (M' := mX11_isArrested) (As := [fz_i pe, fz_i (h 56 (x360.toNat)), fz_i z487]) (st := []) kX11_tries rfl rfl vX11_isArrested rfl rfl rfl rfl (Nat.le_of_ble_eq_true rfl) (Nat.le_of_ble_eq_true rfl) (by decide) (sX11_isArrested H361 hI362 pe (h 56 (x360.toNat)) z487 (by omega)) (fun H490 r491 q492 o493 => ?_)
                        obtain ⟨hI494, hf495, y496, rfl, p497⟩ := q492
                        clear o493
                        have hf498 := fz_fr_tr hf363 hf495 (show fz_su [(74, 99999), (75, 99999)] [(53, 54), (53, 55), (74, 99999), (75, 99999), (89, 99999), (90, 99999)] = true from rfl)
                        refine fz_if_eq (tgt := 177) kX11_tries rfl (by decide) (fun c499 => ?_) (fun c499 => ?_)
                        · refine fz_aload_n kX11_tries rfl rfl ?_
                          refine fz_getR (t := 90) kX11_tries rfl rfl ?_
                          refine fz_iload kX11_tries rfl rfl ?_
                          refine fz_iload kX11_tries rfl rfl ?_
                          refine fz_iast (n := 4) kX11_tries rfl rfl (by omega) (by omega) ?_
                          refine fz_nmu (S := [(53, 54), (53, 55), (74, 99999), (75, 99999), (89, 99999), (90, 99999)]) (h0 := h) (fz_Iv_up hI494 (by decide) (show 0 ≤ (h 56 (x360.toNat)) by omega) (show (h 56 (x360.toNat)) ≤ 7 by omega)) (fz_fr_up hf498 rfl) (fun H500 hI501 hf502 e503 => ?_)
                          clear e503
                          refine fz_aload_n kX11_tries rfl rfl ?_
                          refine fz_iload_n kX11_tries rfl rfl ?_
                          refine fz_iload kX11_tries rfl rfl ?_
                          refine fz_iload kX11_tries rfl rfl ?_
                          refine fz_iload kX11_tries rfl rfl ?_
                          refine fz_iconst ⟨by decide, by decide⟩ kX11_tries rfl ?_
                          refine fz_iaddN kX11_tries rfl ⟨by decide, by decide⟩ ?_
                          refine fz_eqi (y := 1) rfl ?_
                          refine fz_iload kX11_tries rfl rfl ?_
                          refine fz_aload_n kX11_tries rfl rfl ?_
                          refine fz_iload_n kX11_tries rfl rfl ?_
                          refine fz_iload kX11_tries rfl rfl ?_
                          refine fz_iload kX11_tries rfl rfl ?_
                          refine fz_callV (d' := 4) (M' := mX11_receivedIn) (As := [fz_i pe, fz_i (h 56 (x360.toNat)), fz_i z487]) (st := [fz_i su, fz_i 1, fz_i z487, fz_i (h 56 (x360.toNat)), fz_i pe, fz_r 53]) kX11_tries rfl rfl vX11_receivedIn rfl rfl rfl rfl (Nat.le_of_ble_eq_true rfl) (Nat.le_of_ble_eq_true rfl) (by decide) (sX11_receivedIn H500 hI501 pe (h 56 (x360.toNat)) z487 (by omega)) (fun H504 r505 q506 o507 => ?_)
                          obtain ⟨hI508, hf509, y511, rfl, f510⟩ := q506
                          clear o507
                          have hf512 := fz_fr_tr hf502 hf509 (show fz_su [(74, 99999), (75, 99999)] [(53, 54), (53, 55), (74, 99999), (75, 99999), (89, 99999), (90, 99999)] = true from rfl)
                          refine fz_iadd kX11_tries rfl ?_
                          refine fz_nmw (fun z513 e514 => ?_)
                          refine fz_callV (d' := 7) (M' := mX11_tries) (As := [fz_i pe, fz_i (h 56 (x360.toNat)), fz_i z487, fz_i 1, fz_i z513]) (st := []) kX11_tries rfl rfl vX11_tries rfl rfl rfl rfl (Nat.le_of_ble_eq_true rfl) (Nat.le_of_ble_eq_true rfl) (by decide) (sX11_tries_1 H504 hI508 pe (h 56 (x360.toNat)) z487 z513 (by omega)) (fun H515 r516 q517 o518 => ?_)
                          obtain ⟨hI519, hf520, rfl⟩ := q517
                          clear o518
                          have hf521 := fz_fr_tr hf512 hf520 (show fz_su [(53, 54), (53, 55), (74, 99999), (75, 99999), (89, 99999), (90, 99999)] [(53, 54), (53, 55), (74, 99999), (75, 99999), (89, 99999), (90, 99999)] = true from rfl)
                          refine fz_iincN (ls' := [(6, fz_i (x360 + 1)), (8, fz_i z487), (7, fz_i (h 56 (x360.toNat))), (0, fz_r 53), (1, fz_i pe), (2, fz_i t), (3, fz_i hr), (4, fz_i 0), (5, fz_i su)]) kX11_tries rfl (by decide) rfl (by omega) rfl ?_
                          refine fz_goto (tgt := 79) kX11_tries rfl (by decide) ?_
                          refine fz_sub (fz_pk_sub (ls' := [(6, fz_i (x360 + 1)), (0, fz_r 53), (1, fz_i pe), (2, fz_i t), (3, fz_i hr), (4, fz_i 0), (5, fz_i su)]) [0, 3, 4, 5, 6, 7, 8] rfl) ?_
                          exact ih366 (x360 + 1) H515 hI519 hf521 (by omega) (by omega)
                        · refine fz_goto (tgt := 211) kX11_tries rfl (by decide) ?_
                          refine fz_iincN (ls' := [(6, fz_i (x360 + 1)), (8, fz_i z487), (7, fz_i (h 56 (x360.toNat))), (0, fz_r 53), (1, fz_i pe), (2, fz_i t), (3, fz_i hr), (4, fz_i 0), (5, fz_i su)]) kX11_tries rfl (by decide) rfl (by omega) rfl ?_
                          refine fz_goto (tgt := 79) kX11_tries rfl (by decide) ?_
                          refine fz_sub (fz_pk_sub (ls' := [(6, fz_i (x360 + 1)), (0, fz_r 53), (1, fz_i pe), (2, fz_i t), (3, fz_i hr), (4, fz_i 0), (5, fz_i su)]) [0, 3, 4, 5, 6, 7, 8] rfl) ?_
                          exact ih366 (x360 + 1) H490 hI494 hf498 (by omega) (by omega)
                  · refine fz_goto (tgt := 211) kX11_tries rfl (by decide) ?_
                    refine fz_iincN (ls' := [(6, fz_i (x360 + 1)), (0, fz_r 53), (1, fz_i pe), (2, fz_i t), (3, fz_i hr), (4, fz_i 0), (5, fz_i su)]) kX11_tries rfl (by decide) rfl (by omega) rfl ?_
                    refine fz_goto (tgt := 79) kX11_tries rfl (by decide) ?_
                    exact ih366 (x360 + 1) H361 hI362 hf363 (by omega) (by omega)
          exact lp365 _ 0 h hI hf (by omega) (Nat.lt_succ_self _)
        · exfalso; omega
      · refine fz_aload_n kX11_tries rfl rfl ?_
        refine fz_iload kX11_tries rfl rfl ?_
        refine fz_putI kX11_tries rfl rfl rfl ?_
        refine fz_nmu (S := [(53, 54), (53, 55), (74, 99999), (75, 99999), (89, 99999), (90, 99999)]) (h0 := h) (fz_Iv_up hI (by decide) (show (-2147483648) ≤ su by omega) (show su ≤ 2147483647 by omega)) (fz_fr_up hf rfl) (fun H522 hI523 hf524 e525 => ?_)
        have k526 : H522 53 54 = su := by rw [e525]; exact fz_up_e
        clear e525
        refine fz_aload_n kX11_tries rfl rfl ?_
        refine fz_iload kX11_tries rfl rfl ?_
        refine fz_putI kX11_tries rfl rfl rfl ?_
        refine fz_nmu (S := [(53, 54), (53, 55), (74, 99999), (75, 99999), (89, 99999), (90, 99999)]) (h0 := h) (fz_Iv_up hI523 (by decide) (show 0 ≤ 0 by omega) (show 0 ≤ 4 by omega)) (fz_fr_up hf524 rfl) (fun H527 hI528 hf529 e530 => ?_)
        have k531 : H527 53 54 = su := by rw [e530]; exact (fz_up_s (by decide)).trans k526
        have k532 : H527 53 55 = 0 := by rw [e530]; exact fz_up_e
        clear e530
        refine fz_iconst ⟨by decide, by decide⟩ kX11_tries rfl ?_
        refine fz_istore (ls' := [(6, fz_i 0), (0, fz_r 53), (1, fz_i pe), (2, fz_i t), (3, fz_i hr), (4, fz_i 0), (5, fz_i su)]) kX11_tries rfl (by decide) rfl ?_
        have lp538 : ∀ (n537 : Nat) (x533 : Int) (H534 : fz_H), fz_Iv H534 → fz_fr [(53, 54), (53, 55), (74, 99999), (75, 99999), (89, 99999), (90, 99999)] h H534 → (0 ≤ x533 ∧ x533 ≤ 2147483647) → (0 - x533).toNat < n537 → fz_R 8 mX11_tries 42 [(6, fz_i x533), (0, fz_r 53), (1, fz_i pe), (2, fz_i t), (3, fz_i hr), (4, fz_i 0), (5, fz_i su)] [] H534 (qX11_tries_0 h pe t hr su) := by
          intro n537
          induction n537 with
          | zero => intro x533 H534 hI535 hf536 hv541 hm540; exact absurd hm540 (by omega)
          | succ n537 ih539 =>
            intro x533 H534 hI535 hf536 hv541 hm540
            refine fz_iload kX11_tries rfl rfl ?_
            refine fz_iload kX11_tries rfl rfl ?_
            refine fz_icmp_ge (tgt := 69) kX11_tries rfl (by decide) (fun c542 => ?_) (fun c542 => ?_)
            · refine fz_iload kX11_tries rfl rfl ?_
              refine fz_iconst ⟨by decide, by decide⟩ kX11_tries rfl ?_
              refine fz_icmp_ne (tgt := 76) kX11_tries rfl (by decide) (fun c543 => ?_) (fun c543 => ?_)
              · refine fz_iconst ⟨by decide, by decide⟩ kX11_tries rfl ?_
                refine fz_istore (ls' := [(6, fz_i 0), (0, fz_r 53), (1, fz_i pe), (2, fz_i t), (3, fz_i hr), (4, fz_i 0), (5, fz_i su)]) kX11_tries rfl (by decide) rfl ?_
                have lp549 : ∀ (n548 : Nat) (x544 : Int) (H545 : fz_H), fz_Iv H545 → fz_fr [(53, 54), (53, 55), (74, 99999), (75, 99999), (89, 99999), (90, 99999)] h H545 → (0 ≤ x544 ∧ x544 ≤ 2147483647) → ((h 53 2) - x544).toNat < n548 → fz_R 8 mX11_tries 79 [(6, fz_i x544), (0, fz_r 53), (1, fz_i pe), (2, fz_i t), (3, fz_i hr), (4, fz_i 0), (5, fz_i su)] [] H545 (qX11_tries_0 h pe t hr su) := by
                  intro n548
                  induction n548 with
                  | zero => intro x544 H545 hI546 hf547 hv552 hm551; exact absurd hm551 (by omega)
                  | succ n548 ih550 =>
                    intro x544 H545 hI546 hf547 hv552 hm551
                    refine fz_iload kX11_tries rfl rfl ?_
                    refine fz_aload_n kX11_tries rfl rfl ?_
                    refine fz_getV (v := h 53 2) kX11_tries rfl rfl (hf547 53 2 rfl) ?_
                    have b553 : 0 ≤ h 53 2 ∧ h 53 2 ≤ 12 := hI.1 53 _
                    refine fz_icmp_ge (tgt := 217) kX11_tries rfl (by decide) (fun c554 => ?_) (fun c554 => ?_)
                    · exact fz_vret kX11_tries rfl rfl ⟨hI546, hf547, rfl⟩
                    · refine fz_aload_n kX11_tries rfl rfl ?_
                      refine fz_getR (t := 55) kX11_tries rfl rfl ?_
                      refine fz_iload kX11_tries rfl rfl ?_
                      refine fz_ialdV (n := 12) (v := h 55 (x544.toNat)) kX11_tries rfl rfl (by omega) (by omega) (hf547 55 _ rfl) ?_
                      have b555 : 0 ≤ h 55 (x544.toNat) ∧ h 55 (x544.toNat) ≤ 7 := hI.1 55 _
                      refine fz_iload_n kX11_tries rfl rfl ?_
                      refine fz_icmp_eq (tgt := 113) kX11_tries rfl (by decide) (fun c556 => ?_) (fun c556 => ?_)
                      · refine fz_aload_n kX11_tries rfl rfl ?_
                        refine fz_getR (t := 55) kX11_tries rfl rfl ?_
                        refine fz_iload kX11_tries rfl rfl ?_
                        refine fz_ialdV (n := 12) (v := h 55 (x544.toNat)) kX11_tries rfl rfl (by omega) (by omega) (hf547 55 _ rfl) ?_
                        refine fz_iload_n kX11_tries rfl rfl ?_
                        refine fz_icmp_ne (tgt := 134) kX11_tries rfl (by decide) (fun c557 => ?_) (fun c557 => ?_)
                        · refine fz_aload_n kX11_tries rfl rfl ?_
                          refine fz_getR (t := 55) kX11_tries rfl rfl ?_
                          refine fz_iload kX11_tries rfl rfl ?_
                          refine fz_ialdV (n := 12) (v := h 55 (x544.toNat)) kX11_tries rfl rfl (by omega) (by omega) (hf547 55 _ rfl) ?_
                          refine fz_istore (ls' := [(7, fz_i (h 55 (x544.toNat))), (6, fz_i x544), (0, fz_r 53), (1, fz_i pe), (2, fz_i t), (3, fz_i hr), (4, fz_i 0), (5, fz_i su)]) kX11_tries rfl (by decide) rfl ?_
                          refine fz_iload_n kX11_tries rfl rfl ?_
                          refine fz_aload_n kX11_tries rfl rfl ?_
                          refine fz_getR (t := 57) kX11_tries rfl rfl ?_
                          refine fz_iload kX11_tries rfl rfl ?_
                          refine fz_ialdV (n := 12) (v := h 57 (x544.toNat)) kX11_tries rfl rfl (by omega) (by omega) (hf547 57 _ rfl) ?_
                          have b558 : 0 ≤ h 57 (x544.toNat) ∧ h 57 (x544.toNat) ≤ 24 := hI.1 57 _
                          refine fz_iadd kX11_tries rfl ?_
                          refine fz_nmw (fun z559 e560 => ?_)
                          refine fz_istore (ls' := [(8, fz_i z559), (7, fz_i (h 55 (x544.toNat))), (6, fz_i x544), (0, fz_r 53), (1, fz_i pe), (2, fz_i t), (3, fz_i hr), (4, fz_i 0), (5, fz_i su)]) kX11_tries rfl (by decide) rfl ?_
                          refine fz_iload kX11_tries rfl rfl ?_
                          refine fz_sipush ⟨by decide, by decide⟩ kX11_tries rfl ?_
                          refine fz_icmp_gt (tgt := 211) kX11_tries rfl (by decide) (fun c561 => ?_) (fun c561 => ?_)
                          · refine fz_iincN (ls' := [(6, fz_i (x544 + 1)), (8, fz_i z559), (7, fz_i (h 55 (x544.toNat))), (0, fz_r 53), (1, fz_i pe), (2, fz_i t), (3, fz_i hr), (4, fz_i 0), (5, fz_i su)]) kX11_tries rfl (by decide) rfl (by omega) rfl ?_
                            refine fz_goto (tgt := 79) kX11_tries rfl (by decide) ?_
                            refine fz_sub (fz_pk_sub (ls' := [(6, fz_i (x544 + 1)), (0, fz_r 53), (1, fz_i pe), (2, fz_i t), (3, fz_i hr), (4, fz_i 0), (5, fz_i su)]) [0, 3, 4, 5, 6, 7, 8] rfl) ?_
                            exact ih550 (x544 + 1) H545 hI546 hf547 (by omega) (by omega)
                          · refine fz_aload_n kX11_tries rfl rfl ?_
                            refine fz_iload_n kX11_tries rfl rfl ?_
                            refine fz_iload kX11_tries rfl rfl ?_
                            refine fz_iload kX11_tries rfl rfl ?_
                            refine fz_callV (d' := 4) (M' := mX11_isArrested) (As := [fz_i pe, fz_i (h 55 (x544.toNat)), fz_i z559]) (st := []) kX11_tries rfl rfl vX11_isArrested rfl rfl rfl rfl (Nat.le_of_ble_eq_true rfl) (Nat.le_of_ble_eq_true rfl) (by decide) (sX11_isArrested H545 hI546 pe (h 55 (x544.toNat)) z559 (by omega)) (fun H562 r563 q564 o565 => ?_)
                            obtain ⟨hI566, hf567, y568, rfl, p569⟩ := q564
                            clear o565
                            have hf570 := fz_fr_tr hf547 hf567 (show fz_su [(74, 99999), (75, 99999)] [(53, 54), (53, 55), (74, 99999), (75, 99999), (89, 99999), (90, 99999)] = true from rfl)
                            refine fz_if_eq (tgt := 177) kX11_tries rfl (by decide) (fun c571 => ?_) (fun c571 => ?_)
                            · refine fz_aload_n kX11_tries rfl rfl ?_
                              refine fz_getR (t := 90) kX11_tries rfl rfl ?_
                              refine fz_iload kX11_tries rfl rfl ?_
                              refine fz_iload kX11_tries rfl rfl ?_
                              refine fz_iast (n := 4) kX11_tries rfl rfl (by omega) (by omega) ?_
                              refine fz_nmu (S := [(53, 54), (53, 55), (74, 99999), (75, 99999), (89, 99999), (90, 99999)]) (h0 := h) (fz_Iv_up hI566 (by decide) (show 0 ≤ (h 55 (x544.toNat)) by omega) (show (h 55 (x544.toNat)) ≤ 7 by omega)) (fz_fr_up hf570 rfl) (fun H572 hI573 hf574 e575 => ?_)
                              clear e575
                              refine fz_aload_n kX11_tries rfl rfl ?_
                              refine fz_iload_n kX11_tries rfl rfl ?_
                              refine fz_iload kX11_tries rfl rfl ?_
                              refine fz_iload kX11_tries rfl rfl ?_
                              refine fz_iload kX11_tries rfl rfl ?_
                              refine fz_iconst ⟨by decide, by decide⟩ kX11_tries rfl ?_
                              refine fz_iaddN kX11_tries rfl ⟨by decide, by decide⟩ ?_
                              refine fz_eqi (y := 1) rfl ?_
                              refine fz_iload kX11_tries rfl rfl ?_
                              refine fz_aload_n kX11_tries rfl rfl ?_
                              refine fz_iload_n kX11_tries rfl rfl ?_
                              refine fz_iload kX11_tries rfl rfl ?_
                              refine fz_iload kX11_tries rfl rfl ?_
                              refine fz_callV (d' := 4) (M' := mX11_receivedIn) (As := [fz_i pe, fz_i (h 55 (x544.toNat)), fz_i z559]) (st := [fz_i su, fz_i 1, fz_i z559, fz_i (h 55 (x544.toNat)), fz_i pe, fz_r 53]) kX11_tries rfl rfl vX11_receivedIn rfl rfl rfl rfl (Nat.le_of_ble_eq_true rfl) (Nat.le_of_ble_eq_true rfl) (by decide) (sX11_receivedIn H572 hI573 pe (h 55 (x544.toNat)) z559 (by omega)) (fun H576 r577 q578 o579 => ?_)
                              obtain ⟨hI580, hf581, y583, rfl, f582⟩ := q578
                              clear o579
                              have hf584 := fz_fr_tr hf574 hf581 (show fz_su [(74, 99999), (75, 99999)] [(53, 54), (53, 55), (74, 99999), (75, 99999), (89, 99999), (90, 99999)] = true from rfl)
                              refine fz_iadd kX11_tries rfl ?_
                              refine fz_nmw (fun z585 e586 => ?_)
                              refine fz_callV (d' := 7) (M' := mX11_tries) (As := [fz_i pe, fz_i (h 55 (x544.toNat)), fz_i z559, fz_i 1, fz_i z585]) (st := []) kX11_tries rfl rfl vX11_tries rfl rfl rfl rfl (Nat.le_of_ble_eq_true rfl) (Nat.le_of_ble_eq_true rfl) (by decide) (sX11_tries_1 H576 hI580 pe (h 55 (x544.toNat)) z559 z585 (by omega)) (fun H587 r588 q589 o590 => ?_)
                              obtain ⟨hI591, hf592, rfl⟩ := q589
                              clear o590
                              have hf593 := fz_fr_tr hf584 hf592 (show fz_su [(53, 54), (53, 55), (74, 99999), (75, 99999), (89, 99999), (90, 99999)] [(53, 54), (53, 55), (74, 99999), (75, 99999), (89, 99999), (90, 99999)] = true from rfl)
                              refine fz_iincN (ls' := [(6, fz_i (x544 + 1)), (8, fz_i z559), (7, fz_i (h 55 (x544.toNat))), (0, fz_r 53), (1, fz_i pe), (2, fz_i t), (3, fz_i hr), (4, fz_i 0), (5, fz_i su)]) kX11_tries rfl (by decide) rfl (by omega) rfl ?_
                              refine fz_goto (tgt := 79) kX11_tries rfl (by decide) ?_
                              refine fz_sub (fz_pk_sub (ls' := [(6, fz_i (x544 + 1)), (0, fz_r 53), (1, fz_i pe), (2, fz_i t), (3, fz_i hr), (4, fz_i 0), (5, fz_i su)]) [0, 3, 4, 5, 6, 7, 8] rfl) ?_
                              exact ih550 (x544 + 1) H587 hI591 hf593 (by omega) (by omega)
                            · refine fz_goto (tgt := 211) kX11_tries rfl (by decide) ?_
                              refine fz_iincN (ls' := [(6, fz_i (x544 + 1)), (8, fz_i z559), (7, fz_i (h 55 (x544.toNat))), (0, fz_r 53), (1, fz_i pe), (2, fz_i t), (3, fz_i hr), (4, fz_i 0), (5, fz_i su)]) kX11_tries rfl (by decide) rfl (by omega) rfl ?_
                              refine fz_goto (tgt := 79) kX11_tries rfl (by decide) ?_
                              refine fz_sub (fz_pk_sub (ls' := [(6, fz_i (x544 + 1)), (0, fz_r 53), (1, fz_i pe), (2, fz_i t), (3, fz_i hr), (4, fz_i 0), (5, fz_i su)]) [0, 3, 4, 5, 6, 7, 8] rfl) ?_
                              exact ih550 (x544 + 1) H562 hI566 hf570 (by omega) (by omega)
                        · refine fz_aload_n kX11_tries rfl rfl ?_
                          refine fz_getR (t := 56) kX11_tries rfl rfl ?_
                          refine fz_iload kX11_tries rfl rfl ?_
                          refine fz_ialdV (n := 12) (v := h 56 (x544.toNat)) kX11_tries rfl rfl (by omega) (by omega) (hf547 56 _ rfl) ?_
                          have b594 : 0 ≤ h 56 (x544.toNat) ∧ h 56 (x544.toNat) ≤ 7 := hI.1 56 _
                          refine fz_goto (tgt := 141) kX11_tries rfl (by decide) ?_
                          refine fz_istore (ls' := [(7, fz_i (h 56 (x544.toNat))), (6, fz_i x544), (0, fz_r 53), (1, fz_i pe), (2, fz_i t), (3, fz_i hr), (4, fz_i 0), (5, fz_i su)]) kX11_tries rfl (by decide) rfl ?_
                          refine fz_iload_n kX11_tries rfl rfl ?_
                          refine fz_aload_n kX11_tries rfl rfl ?_
                          refine fz_getR (t := 57) kX11_tries rfl rfl ?_
                          refine fz_iload kX11_tries rfl rfl ?_
                          refine fz_ialdV (n := 12) (v := h 57 (x544.toNat)) kX11_tries rfl rfl (by omega) (by omega) (hf547 57 _ rfl) ?_
                          have b595 : 0 ≤ h 57 (x544.toNat) ∧ h 57 (x544.toNat) ≤ 24 := hI.1 57 _
                          refine fz_iadd kX11_tries rfl ?_
                          refine fz_nmw (fun z596 e597 => ?_)
                          refine fz_istore (ls' := [(8, fz_i z596), (7, fz_i (h 56 (x544.toNat))), (6, fz_i x544), (0, fz_r 53), (1, fz_i pe), (2, fz_i t), (3, fz_i hr), (4, fz_i 0), (5, fz_i su)]) kX11_tries rfl (by decide) rfl ?_
                          refine fz_iload kX11_tries rfl rfl ?_
                          refine fz_sipush ⟨by decide, by decide⟩ kX11_tries rfl ?_
                          refine fz_icmp_gt (tgt := 211) kX11_tries rfl (by decide) (fun c598 => ?_) (fun c598 => ?_)
                          · refine fz_iincN (ls' := [(6, fz_i (x544 + 1)), (8, fz_i z596), (7, fz_i (h 56 (x544.toNat))), (0, fz_r 53), (1, fz_i pe), (2, fz_i t), (3, fz_i hr), (4, fz_i 0), (5, fz_i su)]) kX11_tries rfl (by decide) rfl (by omega) rfl ?_
                            refine fz_goto (tgt := 79) kX11_tries rfl (by decide) ?_
                            refine fz_sub (fz_pk_sub (ls' := [(6, fz_i (x544 + 1)), (0, fz_r 53), (1, fz_i pe), (2, fz_i t), (3, fz_i hr), (4, fz_i 0), (5, fz_i su)]) [0, 3, 4, 5, 6, 7, 8] rfl) ?_
                            exact ih550 (x544 + 1) H545 hI546 hf547 (by omega) (by omega)
                          · refine fz_aload_n kX11_tries rfl rfl ?_
                            refine fz_iload_n kX11_tries rfl rfl ?_
                            refine fz_iload kX11_tries rfl rfl ?_
                            refine fz_iload kX11_tries rfl rfl ?_
                            refine fz_callV (d' := 4) (M' := mX11_isArrested) (As := [fz_i pe, fz_i (h 56 (x544.toNat)), fz_i z596]) (st := []) kX11_tries rfl rfl vX11_isArrested rfl rfl rfl rfl (Nat.le_of_ble_eq_true rfl) (Nat.le_of_ble_eq_true rfl) (by decide) (sX11_isArrested H545 hI546 pe (h 56 (x544.toNat)) z596 (by omega)) (fun H599 r600 q601 o602 => ?_)
                            obtain ⟨hI603, hf604, y605, rfl, p606⟩ := q601
                            clear o602
                            have hf607 := fz_fr_tr hf547 hf604 (show fz_su [(74, 99999), (75, 99999)] [(53, 54), (53, 55), (74, 99999), (75, 99999), (89, 99999), (90, 99999)] = true from rfl)
                            refine fz_if_eq (tgt := 177) kX11_tries rfl (by decide) (fun c608 => ?_) (fun c608 => ?_)
                            · refine fz_aload_n kX11_tries rfl rfl ?_
                              refine fz_getR (t := 90) kX11_tries rfl rfl ?_
                              refine fz_iload kX11_tries rfl rfl ?_
                              refine fz_iload kX11_tries rfl rfl ?_
                              refine fz_iast (n := 4) kX11_tries rfl rfl (by omega) (by omega) ?_
                              refine fz_nmu (S := [(53, 54), (53, 55), (74, 99999), (75, 99999), (89, 99999), (90, 99999)]) (h0 := h) (fz_Iv_up hI603 (by decide) (show 0 ≤ (h 56 (x544.toNat)) by omega) (show (h 56 (x544.toNat)) ≤ 7 by omega)) (fz_fr_up hf607 rfl) (fun H609 hI610 hf611 e612 => ?_)
                              clear e612
                              refine fz_aload_n kX11_tries rfl rfl ?_
                              refine fz_iload_n kX11_tries rfl rfl ?_
                              refine fz_iload kX11_tries rfl rfl ?_
                              refine fz_iload kX11_tries rfl rfl ?_
                              refine fz_iload kX11_tries rfl rfl ?_
                              refine fz_iconst ⟨by decide, by decide⟩ kX11_tries rfl ?_
                              refine fz_iaddN kX11_tries rfl ⟨by decide, by decide⟩ ?_
                              refine fz_eqi (y := 1) rfl ?_
                              refine fz_iload kX11_tries rfl rfl ?_
                              refine fz_aload_n kX11_tries rfl rfl ?_
                              refine fz_iload_n kX11_tries rfl rfl ?_
                              refine fz_iload kX11_tries rfl rfl ?_
                              refine fz_iload kX11_tries rfl rfl ?_
                              refine fz_callV (d' := 4) (M' := mX11_receivedIn) (As := [fz_i pe, fz_i (h 56 (x544.toNat)), fz_i z596]) (st := [fz_i su, fz_i 1, fz_i z596, fz_i (h 56 (x544.toNat)), fz_i pe, fz_r 53]) kX11_tries rfl rfl vX11_receivedIn rfl rfl rfl rfl (Nat.le_of_ble_eq_true rfl) (Nat.le_of_ble_eq_true rfl) (by decide) (sX11_receivedIn H609 hI610 pe (h 56 (x544.toNat)) z596 (by omega)) (fun H613 r614 q615 o616 => ?_)
                              obtain ⟨hI617, hf618, y620, rfl, f619⟩ := q615
                              clear o616
                              have hf621 := fz_fr_tr hf611 hf618 (show fz_su [(74, 99999), (75, 99999)] [(53, 54), (53, 55), (74, 99999), (75, 99999), (89, 99999), (90, 99999)] = true from rfl)
                              refine fz_iadd kX11_tries rfl ?_
                              refine fz_nmw (fun z622 e623 => ?_)
                              refine fz_callV (d' := 7) (M' := mX11_tries) (As := [fz_i pe, fz_i (h 56 (x544.toNat)), fz_i z596, fz_i 1, fz_i z622]) (st := []) kX11_tries rfl rfl vX11_tries rfl rfl rfl rfl (Nat.le_of_ble_eq_true rfl) (Nat.le_of_ble_eq_true rfl) (by decide) (sX11_tries_1 H613 hI617 pe (h 56 (x544.toNat)) z596 z622 (by omega)) (fun H624 r625 q626 o627 => ?_)
                              obtain ⟨hI628, hf629, rfl⟩ := q626
                              clear o627
                              have hf630 := fz_fr_tr hf621 hf629 (show fz_su [(53, 54), (53, 55), (74, 99999), (75, 99999), (89, 99999), (90, 99999)] [(53, 54), (53, 55), (74, 99999), (75, 99999), (89, 99999), (90, 99999)] = true from rfl)
                              refine fz_iincN (ls' := [(6, fz_i (x544 + 1)), (8, fz_i z596), (7, fz_i (h 56 (x544.toNat))), (0, fz_r 53), (1, fz_i pe), (2, fz_i t), (3, fz_i hr), (4, fz_i 0), (5, fz_i su)]) kX11_tries rfl (by decide) rfl (by omega) rfl ?_
                              refine fz_goto (tgt := 79) kX11_tries rfl (by decide) ?_
                              refine fz_sub (fz_pk_sub (ls' := [(6, fz_i (x544 + 1)), (0, fz_r 53), (1, fz_i pe), (2, fz_i t), (3, fz_i hr), (4, fz_i 0), (5, fz_i su)]) [0, 3, 4, 5, 6, 7, 8] rfl) ?_
                              exact ih550 (x544 + 1) H624 hI628 hf630 (by omega) (by omega)
                            · refine fz_goto (tgt := 211) kX11_tries rfl (by decide) ?_
                              refine fz_iincN (ls' := [(6, fz_i (x544 + 1)), (8, fz_i z596), (7, fz_i (h 56 (x544.toNat))), (0, fz_r 53), (1, fz_i pe), (2, fz_i t), (3, fz_i hr), (4, fz_i 0), (5, fz_i su)]) kX11_tries rfl (by decide) rfl (by omega) rfl ?_
                              refine fz_goto (tgt := 79) kX11_tries rfl (by decide) ?_
                              refine fz_sub (fz_pk_sub (ls' := [(6, fz_i (x544 + 1)), (0, fz_r 53), (1, fz_i pe), (2, fz_i t), (3, fz_i hr), (4, fz_i 0), (5, fz_i su)]) [0, 3, 4, 5, 6, 7, 8] rfl) ?_
                              exact ih550 (x544 + 1) H599 hI603 hf607 (by omega) (by omega)
                      · refine fz_aload_n kX11_tries rfl rfl ?_
                        refine fz_getR (t := 56) kX11_tries rfl rfl ?_
                        refine fz_iload kX11_tries rfl rfl ?_
                        refine fz_ialdV (n := 12) (v := h 56 (x544.toNat)) kX11_tries rfl rfl (by omega) (by omega) (hf547 56 _ rfl) ?_
                        have b631 : 0 ≤ h 56 (x544.toNat) ∧ h 56 (x544.toNat) ≤ 7 := hI.1 56 _
                        refine fz_iload_n kX11_tries rfl rfl ?_
                        refine fz_icmp_eq (tgt := 113) kX11_tries rfl (by decide) (fun c632 => ?_) (fun c632 => ?_)
                        · refine fz_aload_n kX11_tries rfl rfl ?_
                          refine fz_getR (t := 55) kX11_tries rfl rfl ?_
                          refine fz_iload kX11_tries rfl rfl ?_
                          refine fz_ialdV (n := 12) (v := h 55 (x544.toNat)) kX11_tries rfl rfl (by omega) (by omega) (hf547 55 _ rfl) ?_
                          refine fz_iload_n kX11_tries rfl rfl ?_
                          refine fz_icmp_ne (tgt := 134) kX11_tries rfl (by decide) (fun c633 => ?_) (fun c633 => ?_)
                          · refine fz_aload_n kX11_tries rfl rfl ?_
                            refine fz_getR (t := 55) kX11_tries rfl rfl ?_
                            refine fz_iload kX11_tries rfl rfl ?_
                            refine fz_ialdV (n := 12) (v := h 55 (x544.toNat)) kX11_tries rfl rfl (by omega) (by omega) (hf547 55 _ rfl) ?_
                            refine fz_istore (ls' := [(7, fz_i (h 55 (x544.toNat))), (6, fz_i x544), (0, fz_r 53), (1, fz_i pe), (2, fz_i t), (3, fz_i hr), (4, fz_i 0), (5, fz_i su)]) kX11_tries rfl (by decide) rfl ?_
                            refine fz_iload_n kX11_tries rfl rfl ?_
                            refine fz_aload_n kX11_tries rfl rfl ?_
                            refine fz_getR (t := 57) kX11_tries rfl rfl ?_
                            refine fz_iload kX11_tries rfl rfl ?_
                            refine fz_ialdV (n := 12) (v := h 57 (x544.toNat)) kX11_tries rfl rfl (by omega) (by omega) (hf547 57 _ rfl) ?_
                            have b634 : 0 ≤ h 57 (x544.toNat) ∧ h 57 (x544.toNat) ≤ 24 := hI.1 57 _
                            refine fz_iadd kX11_tries rfl ?_
                            refine fz_nmw (fun z635 e636 => ?_)
                            refine fz_istore (ls' := [(8, fz_i z635), (7, fz_i (h 55 (x544.toNat))), (6, fz_i x544), (0, fz_r 53), (1, fz_i pe), (2, fz_i t), (3, fz_i hr), (4, fz_i 0), (5, fz_i su)]) kX11_tries rfl (by decide) rfl ?_
                            refine fz_iload kX11_tries rfl rfl ?_
                            refine fz_sipush ⟨by decide, by decide⟩ kX11_tries rfl ?_
                            refine fz_icmp_gt (tgt := 211) kX11_tries rfl (by decide) (fun c637 => ?_) (fun c637 => ?_)
                            · refine fz_iincN (ls' := [(6, fz_i (x544 + 1)), (8, fz_i z635), (7, fz_i (h 55 (x544.toNat))), (0, fz_r 53), (1, fz_i pe), (2, fz_i t), (3, fz_i hr), (4, fz_i 0), (5, fz_i su)]) kX11_tries rfl (by decide) rfl (by omega) rfl ?_
                              refine fz_goto (tgt := 79) kX11_tries rfl (by decide) ?_
                              refine fz_sub (fz_pk_sub (ls' := [(6, fz_i (x544 + 1)), (0, fz_r 53), (1, fz_i pe), (2, fz_i t), (3, fz_i hr), (4, fz_i 0), (5, fz_i su)]) [0, 3, 4, 5, 6, 7, 8] rfl) ?_
                              exact ih550 (x544 + 1) H545 hI546 hf547 (by omega) (by omega)
                            · refine fz_aload_n kX11_tries rfl rfl ?_
                              refine fz_iload_n kX11_tries rfl rfl ?_
                              refine fz_iload kX11_tries rfl rfl ?_
                              refine fz_iload kX11_tries rfl rfl ?_
                              refine fz_callV (d' := 4) (M' := mX11_isArrested) (As := [fz_i pe, fz_i (h 55 (x544.toNat)), fz_i z635]) (st := []) kX11_tries rfl rfl vX11_isArrested rfl rfl rfl rfl (Nat.le_of_ble_eq_true rfl) (Nat.le_of_ble_eq_true rfl) (by decide) (sX11_isArrested H545 hI546 pe (h 55 (x544.toNat)) z635 (by omega)) (fun H638 r639 q640 o641 => ?_)
                              obtain ⟨hI642, hf643, y644, rfl, p645⟩ := q640
                              clear o641
                              have hf646 := fz_fr_tr hf547 hf643 (show fz_su [(74, 99999), (75, 99999)] [(53, 54), (53, 55), (74, 99999), (75, 99999), (89, 99999), (90, 99999)] = true from rfl)
                              refine fz_if_eq (tgt := 177) kX11_tries rfl (by decide) (fun c647 => ?_) (fun c647 => ?_)
                              · refine fz_aload_n kX11_tries rfl rfl ?_
                                refine fz_getR (t := 90) kX11_tries rfl rfl ?_
                                refine fz_iload kX11_tries rfl rfl ?_
                                refine fz_iload kX11_tries rfl rfl ?_
                                refine fz_iast (n := 4) kX11_tries rfl rfl (by omega) (by omega) ?_
                                refine fz_nmu (S := [(53, 54), (53, 55), (74, 99999), (75, 99999), (89, 99999), (90, 99999)]) (h0 := h) (fz_Iv_up hI642 (by decide) (show 0 ≤ (h 55 (x544.toNat)) by omega) (show (h 55 (x544.toNat)) ≤ 7 by omega)) (fz_fr_up hf646 rfl) (fun H648 hI649 hf650 e651 => ?_)
                                clear e651
                                refine fz_aload_n kX11_tries rfl rfl ?_
                                refine fz_iload_n kX11_tries rfl rfl ?_
                                refine fz_iload kX11_tries rfl rfl ?_
                                refine fz_iload kX11_tries rfl rfl ?_
                                refine fz_iload kX11_tries rfl rfl ?_
                                refine fz_iconst ⟨by decide, by decide⟩ kX11_tries rfl ?_
                                refine fz_iaddN kX11_tries rfl ⟨by decide, by decide⟩ ?_
                                refine fz_eqi (y := 1) rfl ?_
                                refine fz_iload kX11_tries rfl rfl ?_
                                refine fz_aload_n kX11_tries rfl rfl ?_
                                refine fz_iload_n kX11_tries rfl rfl ?_
                                refine fz_iload kX11_tries rfl rfl ?_
                                refine fz_iload kX11_tries rfl rfl ?_
                                refine fz_callV (d' := 4) (M' := mX11_receivedIn) (As := [fz_i pe, fz_i (h 55 (x544.toNat)), fz_i z635]) (st := [fz_i su, fz_i 1, fz_i z635, fz_i (h 55 (x544.toNat)), fz_i pe, fz_r 53]) kX11_tries rfl rfl vX11_receivedIn rfl rfl rfl rfl (Nat.le_of_ble_eq_true rfl) (Nat.le_of_ble_eq_true rfl) (by decide) (sX11_receivedIn H648 hI649 pe (h 55 (x544.toNat)) z635 (by omega)) (fun H652 r653 q654 o655 => ?_)
                                obtain ⟨hI656, hf657, y659, rfl, f658⟩ := q654
                                clear o655
                                have hf660 := fz_fr_tr hf650 hf657 (show fz_su [(74, 99999), (75, 99999)] [(53, 54), (53, 55), (74, 99999), (75, 99999), (89, 99999), (90, 99999)] = true from rfl)
                                refine fz_iadd kX11_tries rfl ?_
                                refine fz_nmw (fun z661 e662 => ?_)
                                refine fz_callV (d' := 7) (M' := mX11_tries) (As := [fz_i pe, fz_i (h 55 (x544.toNat)), fz_i z635, fz_i 1, fz_i z661]) (st := []) kX11_tries rfl rfl vX11_tries rfl rfl rfl rfl (Nat.le_of_ble_eq_true rfl) (Nat.le_of_ble_eq_true rfl) (by decide) (sX11_tries_1 H652 hI656 pe (h 55 (x544.toNat)) z635 z661 (by omega)) (fun H663 r664 q665 o666 => ?_)
                                obtain ⟨hI667, hf668, rfl⟩ := q665
                                clear o666
                                have hf669 := fz_fr_tr hf660 hf668 (show fz_su [(53, 54), (53, 55), (74, 99999), (75, 99999), (89, 99999), (90, 99999)] [(53, 54), (53, 55), (74, 99999), (75, 99999), (89, 99999), (90, 99999)] = true from rfl)
                                refine fz_iincN (ls' := [(6, fz_i (x544 + 1)), (8, fz_i z635), (7, fz_i (h 55 (x544.toNat))), (0, fz_r 53), (1, fz_i pe), (2, fz_i t), (3, fz_i hr), (4, fz_i 0), (5, fz_i su)]) kX11_tries rfl (by decide) rfl (by omega) rfl ?_
                                refine fz_goto (tgt := 79) kX11_tries rfl (by decide) ?_
                                refine fz_sub (fz_pk_sub (ls' := [(6, fz_i (x544 + 1)), (0, fz_r 53), (1, fz_i pe), (2, fz_i t), (3, fz_i hr), (4, fz_i 0), (5, fz_i su)]) [0, 3, 4, 5, 6, 7, 8] rfl) ?_
                                exact ih550 (x544 + 1) H663 hI667 hf669 (by omega) (by omega)
                              · refine fz_goto (tgt := 211) kX11_tries rfl (by decide) ?_
                                refine fz_iincN (ls' := [(6, fz_i (x544 + 1)), (8, fz_i z635), (7, fz_i (h 55 (x544.toNat))), (0, fz_r 53), (1, fz_i pe), (2, fz_i t), (3, fz_i hr), (4, fz_i 0), (5, fz_i su)]) kX11_tries rfl (by decide) rfl (by omega) rfl ?_
                                refine fz_goto (tgt := 79) kX11_tries rfl (by decide) ?_
                                refine fz_sub (fz_pk_sub (ls' := [(6, fz_i (x544 + 1)), (0, fz_r 53), (1, fz_i pe), (2, fz_i t), (3, fz_i hr), (4, fz_i 0), (5, fz_i su)]) [0, 3, 4, 5, 6, 7, 8] rfl) ?_
                                exact ih550 (x544 + 1) H638 hI642 hf646 (by omega) (by omega)
                          · refine fz_aload_n kX11_tries rfl rfl ?_
                            refine fz_getR (t := 56) kX11_tries rfl rfl ?_
                            refine fz_iload kX11_tries rfl rfl ?_
                            refine fz_ialdV (n := 12) (v := h 56 (x544.toNat)) kX11_tries rfl rfl (by omega) (by omega) (hf547 56 _ rfl) ?_
                            refine fz_goto (tgt := 141) kX11_tries rfl (by decide) ?_
                            refine fz_istore (ls' := [(7, fz_i (h 56 (x544.toNat))), (6, fz_i x544), (0, fz_r 53), (1, fz_i pe), (2, fz_i t), (3, fz_i hr), (4, fz_i 0), (5, fz_i su)]) kX11_tries rfl (by decide) rfl ?_
                            refine fz_iload_n kX11_tries rfl rfl ?_
                            refine fz_aload_n kX11_tries rfl rfl ?_
                            refine fz_getR (t := 57) kX11_tries rfl rfl ?_
                            refine fz_iload kX11_tries rfl rfl ?_
                            refine fz_ialdV (n := 12) (v := h 57 (x544.toNat)) kX11_tries rfl rfl (by omega) (by omega) (hf547 57 _ rfl) ?_
                            have b670 : 0 ≤ h 57 (x544.toNat) ∧ h 57 (x544.toNat) ≤ 24 := hI.1 57 _
                            refine fz_iadd kX11_tries rfl ?_
                            refine fz_nmw (fun z671 e672 => ?_)
                            refine fz_istore (ls' := [(8, fz_i z671), (7, fz_i (h 56 (x544.toNat))), (6, fz_i x544), (0, fz_r 53), (1, fz_i pe), (2, fz_i t), (3, fz_i hr), (4, fz_i 0), (5, fz_i su)]) kX11_tries rfl (by decide) rfl ?_
                            refine fz_iload kX11_tries rfl rfl ?_
                            refine fz_sipush ⟨by decide, by decide⟩ kX11_tries rfl ?_
                            refine fz_icmp_gt (tgt := 211) kX11_tries rfl (by decide) (fun c673 => ?_) (fun c673 => ?_)
                            · refine fz_iincN (ls' := [(6, fz_i (x544 + 1)), (8, fz_i z671), (7, fz_i (h 56 (x544.toNat))), (0, fz_r 53), (1, fz_i pe), (2, fz_i t), (3, fz_i hr), (4, fz_i 0), (5, fz_i su)]) kX11_tries rfl (by decide) rfl (by omega) rfl ?_
                              refine fz_goto (tgt := 79) kX11_tries rfl (by decide) ?_
                              refine fz_sub (fz_pk_sub (ls' := [(6, fz_i (x544 + 1)), (0, fz_r 53), (1, fz_i pe), (2, fz_i t), (3, fz_i hr), (4, fz_i 0), (5, fz_i su)]) [0, 3, 4, 5, 6, 7, 8] rfl) ?_
                              exact ih550 (x544 + 1) H545 hI546 hf547 (by omega) (by omega)
                            · refine fz_aload_n kX11_tries rfl rfl ?_
                              refine fz_iload_n kX11_tries rfl rfl ?_
                              refine fz_iload kX11_tries rfl rfl ?_
                              refine fz_iload kX11_tries rfl rfl ?_
                              refine fz_callV (d' := 4) (M' := mX11_isArrested) (As := [fz_i pe, fz_i (h 56 (x544.toNat)), fz_i z671]) (st := []) kX11_tries rfl rfl vX11_isArrested rfl rfl rfl rfl (Nat.le_of_ble_eq_true rfl) (Nat.le_of_ble_eq_true rfl) (by decide) (sX11_isArrested H545 hI546 pe (h 56 (x544.toNat)) z671 (by omega)) (fun H674 r675 q676 o677 => ?_)
                              obtain ⟨hI678, hf679, y680, rfl, p681⟩ := q676
                              clear o677
                              have hf682 := fz_fr_tr hf547 hf679 (show fz_su [(74, 99999), (75, 99999)] [(53, 54), (53, 55), (74, 99999), (75, 99999), (89, 99999), (90, 99999)] = true from rfl)
                              refine fz_if_eq (tgt := 177) kX11_tries rfl (by decide) (fun c683 => ?_) (fun c683 => ?_)
                              · refine fz_aload_n kX11_tries rfl rfl ?_
                                refine fz_getR (t := 90) kX11_tries rfl rfl ?_
                                refine fz_iload kX11_tries rfl rfl ?_
                                refine fz_iload kX11_tries rfl rfl ?_
                                refine fz_iast (n := 4) kX11_tries rfl rfl (by omega) (by omega) ?_
                                refine fz_nmu (S := [(53, 54), (53, 55), (74, 99999), (75, 99999), (89, 99999), (90, 99999)]) (h0 := h) (fz_Iv_up hI678 (by decide) (show 0 ≤ (h 56 (x544.toNat)) by omega) (show (h 56 (x544.toNat)) ≤ 7 by omega)) (fz_fr_up hf682 rfl) (fun H684 hI685 hf686 e687 => ?_)
                                clear e687
                                refine fz_aload_n kX11_tries rfl rfl ?_
                                refine fz_iload_n kX11_tries rfl rfl ?_
                                refine fz_iload kX11_tries rfl rfl ?_
                                refine fz_iload kX11_tries rfl rfl ?_
                                refine fz_iload kX11_tries rfl rfl ?_
                                refine fz_iconst ⟨by decide, by decide⟩ kX11_tries rfl ?_
                                refine fz_iaddN kX11_tries rfl ⟨by decide, by decide⟩ ?_
                                refine fz_eqi (y := 1) rfl ?_
                                refine fz_iload kX11_tries rfl rfl ?_
                                refine fz_aload_n kX11_tries rfl rfl ?_
                                refine fz_iload_n kX11_tries rfl rfl ?_
                                refine fz_iload kX11_tries rfl rfl ?_
                                refine fz_iload kX11_tries rfl rfl ?_
                                refine fz_callV (d' := 4) (M' := mX11_receivedIn) (As := [fz_i pe, fz_i (h 56 (x544.toNat)), fz_i z671]) (st := [fz_i su, fz_i 1, fz_i z671, fz_i (h 56 (x544.toNat)), fz_i pe, fz_r 53]) kX11_tries rfl rfl vX11_receivedIn rfl rfl rfl rfl (Nat.le_of_ble_eq_true rfl) (Nat.le_of_ble_eq_true rfl) (by decide) (sX11_receivedIn H684 hI685 pe (h 56 (x544.toNat)) z671 (by omega)) (fun H688 r689 q690 o691 => ?_)
                                obtain ⟨hI692, hf693, y695, rfl, f694⟩ := q690
                                clear o691
                                have hf696 := fz_fr_tr hf686 hf693 (show fz_su [(74, 99999), (75, 99999)] [(53, 54), (53, 55), (74, 99999), (75, 99999), (89, 99999), (90, 99999)] = true from rfl)
                                refine fz_iadd kX11_tries rfl ?_
                                refine fz_nmw (fun z697 e698 => ?_)
                                refine fz_callV (d' := 7) (M' := mX11_tries) (As := [fz_i pe, fz_i (h 56 (x544.toNat)), fz_i z671, fz_i 1, fz_i z697]) (st := []) kX11_tries rfl rfl vX11_tries rfl rfl rfl rfl (Nat.le_of_ble_eq_true rfl) (Nat.le_of_ble_eq_true rfl) (by decide) (sX11_tries_1 H688 hI692 pe (h 56 (x544.toNat)) z671 z697 (by omega)) (fun H699 r700 q701 o702 => ?_)
                                obtain ⟨hI703, hf704, rfl⟩ := q701
                                clear o702
                                have hf705 := fz_fr_tr hf696 hf704 (show fz_su [(53, 54), (53, 55), (74, 99999), (75, 99999), (89, 99999), (90, 99999)] [(53, 54), (53, 55), (74, 99999), (75, 99999), (89, 99999), (90, 99999)] = true from rfl)
                                refine fz_iincN (ls' := [(6, fz_i (x544 + 1)), (8, fz_i z671), (7, fz_i (h 56 (x544.toNat))), (0, fz_r 53), (1, fz_i pe), (2, fz_i t), (3, fz_i hr), (4, fz_i 0), (5, fz_i su)]) kX11_tries rfl (by decide) rfl (by omega) rfl ?_
                                refine fz_goto (tgt := 79) kX11_tries rfl (by decide) ?_
                                refine fz_sub (fz_pk_sub (ls' := [(6, fz_i (x544 + 1)), (0, fz_r 53), (1, fz_i pe), (2, fz_i t), (3, fz_i hr), (4, fz_i 0), (5, fz_i su)]) [0, 3, 4, 5, 6, 7, 8] rfl) ?_
                                exact ih550 (x544 + 1) H699 hI703 hf705 (by omega) (by omega)
                              · refine fz_goto (tgt := 211) kX11_tries rfl (by decide) ?_
                                refine fz_iincN (ls' := [(6, fz_i (x544 + 1)), (8, fz_i z671), (7, fz_i (h 56 (x544.toNat))), (0, fz_r 53), (1, fz_i pe), (2, fz_i t), (3, fz_i hr), (4, fz_i 0), (5, fz_i su)]) kX11_tries rfl (by decide) rfl (by omega) rfl ?_
                                refine fz_goto (tgt := 79) kX11_tries rfl (by decide) ?_
                                refine fz_sub (fz_pk_sub (ls' := [(6, fz_i (x544 + 1)), (0, fz_r 53), (1, fz_i pe), (2, fz_i t), (3, fz_i hr), (4, fz_i 0), (5, fz_i su)]) [0, 3, 4, 5, 6, 7, 8] rfl) ?_
                                exact ih550 (x544 + 1) H674 hI678 hf682 (by omega) (by omega)
                        · refine fz_goto (tgt := 211) kX11_tries rfl (by decide) ?_
                          refine fz_iincN (ls' := [(6, fz_i (x544 + 1)), (0, fz_r 53), (1, fz_i pe), (2, fz_i t), (3, fz_i hr), (4, fz_i 0), (5, fz_i su)]) kX11_tries rfl (by decide) rfl (by omega) rfl ?_
                          refine fz_goto (tgt := 79) kX11_tries rfl (by decide) ?_
                          exact ih550 (x544 + 1) H545 hI546 hf547 (by omega) (by omega)
                exact lp549 _ 0 H534 hI535 hf536 (by omega) (Nat.lt_succ_self _)
              · exfalso; omega
            · exfalso; omega
        exact lp538 _ 0 H527 hI528 hf529 (by omega) (Nat.lt_succ_self _)

abbrev qX11_route (h : fz_H) (on th k : Int) : fz_H → Option fz_V → Prop := fun h' r0 => fz_Iv h' ∧ fz_fr [(53, 54), (53, 55), (74, 99999), (75, 99999), (86, 99999), (87, 99999), (88, 99999), (89, 99999), (90, 99999)] h h' ∧ ∃ r : Int, r0 = some (fz_i r) ∧ ((-2147483648) ≤ r ∧ r ≤ 2147483647)
set_option maxHeartbeats 1000000 in
set_option maxRecDepth 100000 in
theorem sX11_route (h : fz_H) (hI : fz_Iv h) (on th k : Int) : fz_R 9 mX11_route 0 [(0, fz_r 53), (1, fz_i on), (2, fz_i th), (3, fz_i k)] [] h (qX11_route h on th k) := by
  refine fz_knowl (fun hk => ?_)
  have hr_on : -2147483648 ≤ on ∧ on < 2147483648 := hk _ (List.Mem.tail _ (List.Mem.head _))
  have hr_th : -2147483648 ≤ th ∧ th < 2147483648 := hk _ (List.Mem.tail _ (List.Mem.tail _ (List.Mem.head _)))
  have hr_k : -2147483648 ≤ k ∧ k < 2147483648 := hk _ (List.Mem.tail _ (List.Mem.tail _ (List.Mem.tail _ (List.Mem.head _))))
  clear hk
  have hf : fz_fr [(53, 54), (53, 55), (74, 99999), (75, 99999), (86, 99999), (87, 99999), (88, 99999), (89, 99999), (90, 99999)] h h := fz_fr_rf
  refine fz_iload_n kX11_route rfl rfl ?_
  refine fz_callS (d' := 1) (M' := mX11_isPerson) (As := [fz_i on]) (st := []) kX11_route rfl rfl vX11_isPerson rfl rfl (Nat.le_of_ble_eq_true rfl) (Nat.le_of_ble_eq_true rfl) (by decide) (sX11_isPerson h hI on ) (fun H1 r2 q3 o4 => ?_)
  obtain ⟨e5, y6, rfl, p7⟩ := q3
  subst H1
  clear o4
  rcases p7 with ⟨rfl, c8⟩ | ⟨rfl, c8⟩
  · refine fz_if_eq (tgt := 20) kX11_route rfl (by decide) (fun c9 => ?_) (fun c9 => ?_)
    · exfalso; omega
    · refine fz_aload_n kX11_route rfl rfl ?_
      refine fz_iload_n kX11_route rfl rfl ?_
      have b10 : 0 ≤ h 53 0 ∧ h 53 0 ≤ 8 := hI.1 53 _
      refine fz_callV (d' := 2) (M' := mX11_isWhen) (As := [fz_i th]) (st := []) kX11_route rfl rfl vX11_isWhen rfl rfl rfl rfl (Nat.le_of_ble_eq_true rfl) (Nat.le_of_ble_eq_true rfl) (by decide) (sX11_isWhen h hI th ) (fun H11 r12 q13 o14 => ?_)
      obtain ⟨e15, y16, rfl, p17⟩ := q13
      subst H11
      clear o14
      rcases p17 with ⟨rfl, c18⟩ | ⟨rfl, c18⟩
      · refine fz_if_eq (tgt := 20) kX11_route rfl (by decide) (fun c19 => ?_) (fun c19 => ?_)
        · exfalso; omega
        · refine fz_iload_n kX11_route rfl rfl ?_
          refine fz_iconst ⟨by decide, by decide⟩ kX11_route rfl ?_
          refine fz_icmp_ge (tgt := 23) kX11_route rfl (by decide) (fun c20 => ?_) (fun c20 => ?_)
          · refine fz_aload_n kX11_route rfl rfl ?_
            refine fz_callV (d' := 3) (M' := mX11_allHear) (As := []) (st := []) kX11_route rfl rfl vX11_allHear rfl rfl rfl rfl (Nat.le_of_ble_eq_true rfl) (Nat.le_of_ble_eq_true rfl) (by decide) (sX11_allHear h hI  ) (fun H21 r22 q23 o24 => ?_)
            obtain ⟨hI25, hf26, rfl⟩ := q23
            clear o24
            have hf27 := fz_fr_tr hf hf26 (show fz_su [(86, 99999), (87, 99999), (88, 99999)] [(53, 54), (53, 55), (74, 99999), (75, 99999), (86, 99999), (87, 99999), (88, 99999), (89, 99999), (90, 99999)] = true from rfl)
            refine fz_aload_n kX11_route rfl rfl ?_
            refine fz_iconst ⟨by decide, by decide⟩ kX11_route rfl ?_
            refine fz_putI kX11_route rfl rfl rfl ?_
            refine fz_nmu (S := [(53, 54), (53, 55), (74, 99999), (75, 99999), (86, 99999), (87, 99999), (88, 99999), (89, 99999), (90, 99999)]) (h0 := h) (fz_Iv_up hI25 (by decide) (show (-2147483648) ≤ 0 by omega) (show 0 ≤ 2147483647 by omega)) (fz_fr_up hf27 rfl) (fun H28 hI29 hf30 e31 => ?_)
            have k32 : H28 53 54 = 0 := by rw [e31]; exact fz_up_e
            clear e31
            refine fz_aload_n kX11_route rfl rfl ?_
            refine fz_iconst ⟨by decide, by decide⟩ kX11_route rfl ?_
            refine fz_putI kX11_route rfl rfl rfl ?_
            refine fz_nmu (S := [(53, 54), (53, 55), (74, 99999), (75, 99999), (86, 99999), (87, 99999), (88, 99999), (89, 99999), (90, 99999)]) (h0 := h) (fz_Iv_up hI29 (by decide) (show 0 ≤ 0 by omega) (show 0 ≤ 4 by omega)) (fz_fr_up hf30 rfl) (fun H33 hI34 hf35 e36 => ?_)
            have k37 : H33 53 54 = 0 := by rw [e36]; exact (fz_up_s (by decide)).trans k32
            have k38 : H33 53 55 = 0 := by rw [e36]; exact fz_up_e
            clear e36
            refine fz_aload_n kX11_route rfl rfl ?_
            refine fz_iload_n kX11_route rfl rfl ?_
            refine fz_iload_n kX11_route rfl rfl ?_
            refine fz_sipush ⟨by decide, by decide⟩ kX11_route rfl ?_
            refine fz_idivN kX11_route rfl (by omega) (by omega) (by omega) ?_
            refine fz_iload_n kX11_route rfl rfl ?_
            refine fz_sipush ⟨by decide, by decide⟩ kX11_route rfl ?_
            refine fz_iremN kX11_route rfl (by omega) (by omega) (by omega) ?_
            refine fz_iconst ⟨by decide, by decide⟩ kX11_route rfl ?_
            refine fz_iconst ⟨by decide, by decide⟩ kX11_route rfl ?_
            refine fz_callV (d' := 8) (M' := mX11_tries) (As := [fz_i on, fz_i (th / 1000), fz_i (th % 1000), fz_i 0, fz_i 0]) (st := []) kX11_route rfl rfl vX11_tries rfl rfl rfl rfl (Nat.le_of_ble_eq_true rfl) (Nat.le_of_ble_eq_true rfl) (by decide) (sX11_tries_0 H33 hI34 on (th / 1000) (th % 1000) 0 (by omega)) (fun H39 r40 q41 o42 => ?_)
            obtain ⟨hI43, hf44, rfl⟩ := q41
            clear o42
            have hf45 := fz_fr_tr hf35 hf44 (show fz_su [(53, 54), (53, 55), (74, 99999), (75, 99999), (89, 99999), (90, 99999)] [(53, 54), (53, 55), (74, 99999), (75, 99999), (86, 99999), (87, 99999), (88, 99999), (89, 99999), (90, 99999)] = true from rfl)
            refine fz_iload_n kX11_route rfl rfl ?_
            refine fz_iconst ⟨by decide, by decide⟩ kX11_route rfl ?_
            refine fz_icmp_ne (tgt := 66) kX11_route rfl (by decide) (fun c46 => ?_) (fun c46 => ?_)
            · refine fz_iload_n kX11_route rfl rfl ?_
              refine fz_aload_n kX11_route rfl rfl ?_
              obtain ⟨v47, e48⟩ : ∃ z, H39 53 (55) = z := ⟨_, rfl⟩
              refine fz_getV (v := v47) kX11_route rfl rfl e48 ?_
              have b49 : 0 ≤ v47 ∧ v47 ≤ 4 := by rw [← e48]; exact hI43.1 53 _
              refine fz_icmp_ge (tgt := 83) kX11_route rfl (by decide) (fun c50 => ?_) (fun c50 => ?_)
              · refine fz_bipush ⟨by decide, by decide⟩ kX11_route rfl ?_
                exact fz_iret kX11_route rfl rfl (fun _ => ⟨hI43, hf45, _, rfl, (by omega)⟩)
              · refine fz_aload_n kX11_route rfl rfl ?_
                refine fz_getR (t := 89) kX11_route rfl rfl ?_
                refine fz_iload_n kX11_route rfl rfl ?_
                obtain ⟨v51, e52⟩ : ∃ z, H39 89 (k.toNat) = z := ⟨_, rfl⟩
                refine fz_ialdV (n := 4) (v := v51) kX11_route rfl rfl (by omega) (by omega) e52 ?_
                have b53 : 0 ≤ v51 ∧ v51 ≤ 7 := by rw [← e52]; exact hI43.1 89 _
                refine fz_goto (tgt := 85) kX11_route rfl (by decide) ?_
                exact fz_iret kX11_route rfl rfl (fun _ => ⟨hI43, hf45, _, rfl, (by omega)⟩)
            · refine fz_aload_n kX11_route rfl rfl ?_
              obtain ⟨v54, e55⟩ : ∃ z, H39 53 (54) = z := ⟨_, rfl⟩
              refine fz_getV (v := v54) kX11_route rfl rfl e55 ?_
              have b56 : (-2147483648) ≤ v54 ∧ v54 ≤ 2147483647 := by rw [← e55]; exact hI43.1 53 _
              refine fz_goto (tgt := 85) kX11_route rfl (by decide) ?_
              exact fz_iret kX11_route rfl rfl (fun _ => ⟨hI43, hf45, _, rfl, (by omega)⟩)
          · refine fz_ldc (x := (-2000000000)) kX11_route rfl rfl rfl ?_
            exact fz_iret kX11_route rfl rfl (fun _ => ⟨hI, hf, _, rfl, (by omega)⟩)
      · refine fz_if_eq (tgt := 20) kX11_route rfl (by decide) (fun c57 => ?_) (fun c57 => ?_)
        · refine fz_ldc (x := (-2000000000)) kX11_route rfl rfl rfl ?_
          exact fz_iret kX11_route rfl rfl (fun _ => ⟨hI, hf, _, rfl, (by omega)⟩)
        · exfalso; omega
  · refine fz_if_eq (tgt := 20) kX11_route rfl (by decide) (fun c58 => ?_) (fun c58 => ?_)
    · refine fz_ldc (x := (-2000000000)) kX11_route rfl rfl rfl ?_
      exact fz_iret kX11_route rfl rfl (fun _ => ⟨hI, hf, _, rfl, (by omega)⟩)
    · exfalso; omega
