/-! ===== what the methods keep ===== -/
abbrev qX0_dropOldest (h : fz_H) : fz_H → Option fz_V → Prop := fun h' r0 => fz_Iv h' ∧ fz_fr [(35, 4), (36, 99999), (37, 99999), (38, 99999), (39, 99999)] h h' ∧ fz_Xc h' ∧ r0 = none ∧ h' 35 4 = 39 ∧ fz_doC h h'
set_option maxHeartbeats 1000000 in
set_option maxRecDepth 100000 in
theorem sX0_dropOldest (h : fz_H) (hI : fz_Iv h) (hX : fz_Xc h) : fz_R 1 mX0_dropOldest 0 [(0, fz_r 35)] [] h (qX0_dropOldest h) := by
  have hf : fz_fr [(35, 4), (36, 99999), (37, 99999), (38, 99999), (39, 99999)] h h := fz_fr_rf
  refine fz_aload_n kX0_dropOldest rfl rfl ?_
  refine fz_getR (t := 36) kX0_dropOldest rfl rfl ?_
  refine fz_iconst ⟨by decide, by decide⟩ kX0_dropOldest rfl ?_
  refine fz_aload_n kX0_dropOldest rfl rfl ?_
  refine fz_getR (t := 36) kX0_dropOldest rfl rfl ?_
  refine fz_iconst ⟨by decide, by decide⟩ kX0_dropOldest rfl ?_
  refine fz_bipush ⟨by decide, by decide⟩ kX0_dropOldest rfl ?_
  refine fz_copyi (n1 := 40) (n2 := 40) kX0_dropOldest rfl rfl rfl rfl (by omega) (by omega) (by omega) (by omega) (by omega) (by decide) (Nat.le_of_ble_eq_true rfl) ?_
  refine fz_nmu (S := [(35, 4), (36, 99999), (37, 99999), (38, 99999), (39, 99999)]) (h0 := h) (fz_Iv_cp hI (by decide) (fun k l _ _ _ => hI.1 36 k)) (fz_fr_cp hf (fun _ => rfl)) (fun H1 hI2 hf3 e4 => ?_)
  have hX5 : fz_Xc H1 := by rw [e4]; exact fz_Xc_cp (by decide) (by decide) (by decide) hX
  refine fz_aload_n kX0_dropOldest rfl rfl ?_
  refine fz_getR (t := 37) kX0_dropOldest rfl rfl ?_
  refine fz_iconst ⟨by decide, by decide⟩ kX0_dropOldest rfl ?_
  refine fz_aload_n kX0_dropOldest rfl rfl ?_
  refine fz_getR (t := 37) kX0_dropOldest rfl rfl ?_
  refine fz_iconst ⟨by decide, by decide⟩ kX0_dropOldest rfl ?_
  refine fz_bipush ⟨by decide, by decide⟩ kX0_dropOldest rfl ?_
  refine fz_copyi (n1 := 40) (n2 := 40) kX0_dropOldest rfl rfl rfl rfl (by omega) (by omega) (by omega) (by omega) (by omega) (by decide) (Nat.le_of_ble_eq_true rfl) ?_
  refine fz_nmu (S := [(35, 4), (36, 99999), (37, 99999), (38, 99999), (39, 99999)]) (h0 := h) (fz_Iv_cp hI2 (by decide) (fun k l _ _ _ => hI2.1 37 k)) (fz_fr_cp hf3 (fun _ => rfl)) (fun H6 hI7 hf8 e9 => ?_)
  refine fz_aload_n kX0_dropOldest rfl rfl ?_
  refine fz_getR (t := 38) kX0_dropOldest rfl rfl ?_
  refine fz_iconst ⟨by decide, by decide⟩ kX0_dropOldest rfl ?_
  refine fz_aload_n kX0_dropOldest rfl rfl ?_
  refine fz_getR (t := 38) kX0_dropOldest rfl rfl ?_
  refine fz_iconst ⟨by decide, by decide⟩ kX0_dropOldest rfl ?_
  refine fz_bipush ⟨by decide, by decide⟩ kX0_dropOldest rfl ?_
  refine fz_copyi (n1 := 40) (n2 := 40) kX0_dropOldest rfl rfl rfl rfl (by omega) (by omega) (by omega) (by omega) (by omega) (by decide) (Nat.le_of_ble_eq_true rfl) ?_
  refine fz_nmu (S := [(35, 4), (36, 99999), (37, 99999), (38, 99999), (39, 99999)]) (h0 := h) (fz_Iv_cp hI7 (by decide) (fun k l _ _ _ => hI7.1 38 k)) (fz_fr_cp hf8 (fun _ => rfl)) (fun H10 hI11 hf12 e13 => ?_)
  refine fz_aload_n kX0_dropOldest rfl rfl ?_
  refine fz_getR (t := 39) kX0_dropOldest rfl rfl ?_
  refine fz_iconst ⟨by decide, by decide⟩ kX0_dropOldest rfl ?_
  refine fz_aload_n kX0_dropOldest rfl rfl ?_
  refine fz_getR (t := 39) kX0_dropOldest rfl rfl ?_
  refine fz_iconst ⟨by decide, by decide⟩ kX0_dropOldest rfl ?_
  refine fz_bipush ⟨by decide, by decide⟩ kX0_dropOldest rfl ?_
  refine fz_copyi (n1 := 40) (n2 := 40) kX0_dropOldest rfl rfl rfl rfl (by omega) (by omega) (by omega) (by omega) (by omega) (by decide) (Nat.le_of_ble_eq_true rfl) ?_
  refine fz_nmu (S := [(35, 4), (36, 99999), (37, 99999), (38, 99999), (39, 99999)]) (h0 := h) (fz_Iv_cp hI11 (by decide) (fun k l _ _ _ => hI11.1 39 k)) (fz_fr_cp hf12 (fun _ => rfl)) (fun H14 hI15 hf16 e17 => ?_)
  refine fz_aload_n kX0_dropOldest rfl rfl ?_
  refine fz_bipush ⟨by decide, by decide⟩ kX0_dropOldest rfl ?_
  refine fz_putI kX0_dropOldest rfl rfl rfl ?_
  refine fz_nmu (S := [(35, 4), (36, 99999), (37, 99999), (38, 99999), (39, 99999)]) (h0 := h) (fz_Iv_up hI15 (by decide) (show (0 : Int) ≤ 39 by decide) (show (39 : Int) ≤ 40 by decide)) (fz_fr_up hf16 rfl) (fun H18 hI19 hf20 e21 => ?_)
  have k22 : H18 35 4 = 39 := by rw [e21]; exact fz_up_e
  exact fz_vret kX0_dropOldest rfl rfl ⟨hI19, hf20, (by rw [e21, e17, e13, e9, e4]; exact fz_Xc_dr hX (fun j => by by_cases hj : j < 39 <;> simp [fz_up, fz_cp, hj, Nat.add_comm]) (fun j => by by_cases hj : j < 39 <;> simp [fz_up, fz_cp, hj, Nat.add_comm]) (fun j => by by_cases hj : j < 39 <;> simp [fz_up, fz_cp, hj, Nat.add_comm])), rfl, (by omega), (by exact fz_doC_in e4 e9 e13 e17 e21)⟩

abbrev qX0_add (h : fz_H) (nu wh fr to : Int) : fz_H → Option fz_V → Prop := fun h' r0 => fz_Iv h' ∧ fz_fr [(35, 4), (35, 5), (36, 99999), (37, 99999), (38, 99999), (39, 99999)] h h' ∧ fz_Xc h' ∧ r0 = none ∧ fz_cgC h h' nu wh fr to
set_option maxHeartbeats 1000000 in
set_option maxRecDepth 100000 in
theorem sX0_add (h : fz_H) (hI : fz_Iv h) (nu wh fr to : Int) (hX : fz_Xc h) (hp0 : 0 ≤ wh ∧ wh ≤ 8) (hp1 : -9 ≤ fr ∧ fr ≤ 999) (hp2 : -9 ≤ to ∧ to ≤ 999) (hp3 : fz_oc wh fr) (hp4 : fz_oc wh to) : fz_R 2 mX0_add 0 [(0, fz_r 35), (1, fz_i nu), (2, fz_i wh), (3, fz_i fr), (4, fz_i to)] [] h (qX0_add h nu wh fr to) := by
  refine fz_knowl (fun hk => ?_)
  have hr_nu : -2147483648 ≤ nu ∧ nu < 2147483648 := hk _ (List.Mem.tail _ (List.Mem.head _))
  have hr_wh : -2147483648 ≤ wh ∧ wh < 2147483648 := hk _ (List.Mem.tail _ (List.Mem.tail _ (List.Mem.head _)))
  have hr_fr : -2147483648 ≤ fr ∧ fr < 2147483648 := hk _ (List.Mem.tail _ (List.Mem.tail _ (List.Mem.tail _ (List.Mem.head _))))
  have hr_to : -2147483648 ≤ to ∧ to < 2147483648 := hk _ (List.Mem.tail _ (List.Mem.tail _ (List.Mem.tail _ (List.Mem.tail _ (List.Mem.head _)))))
  clear hk
  have hf : fz_fr [(35, 4), (35, 5), (36, 99999), (37, 99999), (38, 99999), (39, 99999)] h h := fz_fr_rf
  refine fz_aload_n kX0_add rfl rfl ?_
  refine fz_getV (v := h 35 4) kX0_add rfl rfl rfl ?_
  have b1 : 0 ≤ h 35 4 ∧ h 35 4 ≤ 40 := hI.1 35 _
  refine fz_bipush ⟨by decide, by decide⟩ kX0_add rfl ?_
  refine fz_icmp_lt (tgt := 13) kX0_add rfl (by decide) (fun c2 => ?_) (fun c2 => ?_)
  · refine fz_aload_n kX0_add rfl rfl ?_
    refine fz_getR (t := 36) kX0_add rfl rfl ?_
    refine fz_aload_n kX0_add rfl rfl ?_
    refine fz_getV (v := h 35 4) kX0_add rfl rfl rfl ?_
    refine fz_iload_n kX0_add rfl rfl ?_
    refine fz_iast (n := 40) kX0_add rfl rfl (by omega) (by omega) ?_
    refine fz_nmu (S := [(35, 4), (35, 5), (36, 99999), (37, 99999), (38, 99999), (39, 99999)]) (h0 := h) (fz_Iv_up hI (by decide) (show ((-2147483648) : Int) ≤ nu by omega) (show (nu : Int) ≤ 2147483647 by omega)) (fz_fr_up hf rfl) (fun H3 hI4 hf5 e6 => ?_)
    have k7 : H3 35 4 = (h 35 4) := by rw [e6]; exact (fz_up_o (by decide)).trans rfl
    have hX8 : fz_Xc H3 := by rw [e6]; exact fz_Xc_up (by decide) (by decide) (by decide) hX
    refine fz_aload_n kX0_add rfl rfl ?_
    refine fz_getR (t := 37) kX0_add rfl rfl ?_
    refine fz_aload_n kX0_add rfl rfl ?_
    refine fz_getV (v := (h 35 4)) kX0_add rfl rfl k7 ?_
    refine fz_iload_n kX0_add rfl rfl ?_
    refine fz_iast (n := 40) kX0_add rfl rfl (by omega) (by omega) ?_
    refine fz_nmu (S := [(35, 4), (35, 5), (36, 99999), (37, 99999), (38, 99999), (39, 99999)]) (h0 := h) (fz_Iv_up hI4 (by decide) (show (0 : Int) ≤ wh by omega) (show (wh : Int) ≤ 8 by omega)) (fz_fr_up hf5 rfl) (fun H9 hI10 hf11 e12 => ?_)
    have k13 : H9 35 4 = (h 35 4) := by rw [e12]; exact (fz_up_o (by decide)).trans k7
    refine fz_aload_n kX0_add rfl rfl ?_
    refine fz_getR (t := 38) kX0_add rfl rfl ?_
    refine fz_aload_n kX0_add rfl rfl ?_
    refine fz_getV (v := (h 35 4)) kX0_add rfl rfl k13 ?_
    refine fz_iload_n kX0_add rfl rfl ?_
    refine fz_iast (n := 40) kX0_add rfl rfl (by omega) (by omega) ?_
    refine fz_nmu (S := [(35, 4), (35, 5), (36, 99999), (37, 99999), (38, 99999), (39, 99999)]) (h0 := h) (fz_Iv_up hI10 (by decide) (show ((-9) : Int) ≤ fr by omega) (show (fr : Int) ≤ 999 by omega)) (fz_fr_up hf11 rfl) (fun H14 hI15 hf16 e17 => ?_)
    have k18 : H14 35 4 = (h 35 4) := by rw [e17]; exact (fz_up_o (by decide)).trans k13
    refine fz_aload_n kX0_add rfl rfl ?_
    refine fz_getR (t := 39) kX0_add rfl rfl ?_
    refine fz_aload_n kX0_add rfl rfl ?_
    refine fz_getV (v := (h 35 4)) kX0_add rfl rfl k18 ?_
    refine fz_iload kX0_add rfl rfl ?_
    refine fz_iast (n := 40) kX0_add rfl rfl (by omega) (by omega) ?_
    refine fz_nmu (S := [(35, 4), (35, 5), (36, 99999), (37, 99999), (38, 99999), (39, 99999)]) (h0 := h) (fz_Iv_up hI15 (by decide) (show ((-9) : Int) ≤ to by omega) (show (to : Int) ≤ 999 by omega)) (fz_fr_up hf16 rfl) (fun H19 hI20 hf21 e22 => ?_)
    have k23 : H19 35 4 = (h 35 4) := by rw [e22]; exact (fz_up_o (by decide)).trans k18
    refine fz_aload_n kX0_add rfl rfl ?_
    refine fz_dup rfl kX0_add rfl ?_
    refine fz_getV (v := (h 35 4)) kX0_add rfl rfl k23 ?_
    refine fz_iconst ⟨by decide, by decide⟩ kX0_add rfl ?_
    refine fz_iaddN kX0_add rfl (by omega) ?_
    refine fz_putI kX0_add rfl rfl rfl ?_
    refine fz_nmu (S := [(35, 4), (35, 5), (36, 99999), (37, 99999), (38, 99999), (39, 99999)]) (h0 := h) (fz_Iv_up hI20 (by decide) (show (0 : Int) ≤ ((h 35 4) + 1) by omega) (show (((h 35 4) + 1) : Int) ≤ 40 by omega)) (fz_fr_up hf21 rfl) (fun H24 hI25 hf26 e27 => ?_)
    have k28 : H24 35 4 = ((h 35 4) + 1) := by rw [e27]; exact fz_up_e
    refine fz_aload_n kX0_add rfl rfl ?_
    refine fz_aload_n kX0_add rfl rfl ?_
    refine fz_getV (v := ((h 35 4) + 1)) kX0_add rfl rfl k28 ?_
    refine fz_putI kX0_add rfl rfl rfl ?_
    refine fz_nmu (S := [(35, 4), (35, 5), (36, 99999), (37, 99999), (38, 99999), (39, 99999)]) (h0 := h) (fz_Iv_up hI25 (by decide) (show (0 : Int) ≤ ((h 35 4) + 1) by omega) (show (((h 35 4) + 1) : Int) ≤ 40 by omega)) (fz_fr_up hf26 rfl) (fun H29 hI30 hf31 e32 => ?_)
    have k33 : H29 35 4 = ((h 35 4) + 1) := by rw [e32]; exact (fz_up_s (by decide)).trans k28
    have k34 : H29 35 5 = ((h 35 4) + 1) := by rw [e32]; exact fz_up_e
    exact fz_vret kX0_add rfl rfl ⟨hI30, hf31, (by rw [e32, e27, e22, e17, e12, e6]; exact fz_Xc_wr (d := (h 35 4).toNat) (w := wh) (x := fr) (y := to) hX (by funext j; simp [fz_up]) (by funext j; simp [fz_up]) (by funext j; simp [fz_up]) hp3 hp4), rfl, (by first | exact Or.inr ⟨by omega, _, lost, fz_cgC_in e6 e12 e17 e22 e27 e32 (by omega) (by omega) (by omega)⟩ | exact Or.inl ⟨by omega, fz_cgC_in e6 e12 e17 e22 e27 e32 (by omega) (by omega) (by omega)⟩)⟩
  · refine fz_aload_n kX0_add rfl rfl ?_
    refine fz_callV (d' := 1) (M' := mX0_dropOldest) (As := []) (st := []) kX0_add rfl rfl vX0_dropOldest rfl rfl rfl rfl (Nat.le_of_ble_eq_true rfl) (Nat.le_of_ble_eq_true rfl) (by decide) (sX0_dropOldest h hI  (hX)) (fun H36 r37 q38 o39 => ?_)
    obtain ⟨hI40, hf41, hX42, rfl, f43, f44⟩ := q38
    clear o39
    have hf45 := fz_fr_tr hf hf41 (show fz_su [(35, 4), (36, 99999), (37, 99999), (38, 99999), (39, 99999)] [(35, 4), (35, 5), (36, 99999), (37, 99999), (38, 99999), (39, 99999)] = true from rfl)
    refine fz_aload_n kX0_add rfl rfl ?_
    refine fz_getR (t := 36) kX0_add rfl rfl ?_
    refine fz_aload_n kX0_add rfl rfl ?_
    refine fz_getV (v := 39) kX0_add rfl rfl f43 ?_
    refine fz_iload_n kX0_add rfl rfl ?_
    refine fz_iast (n := 40) kX0_add rfl rfl (by omega) (by omega) ?_
    refine fz_nmu (S := [(35, 4), (35, 5), (36, 99999), (37, 99999), (38, 99999), (39, 99999)]) (h0 := h) (fz_Iv_up hI40 (by decide) (show ((-2147483648) : Int) ≤ nu by omega) (show (nu : Int) ≤ 2147483647 by omega)) (fz_fr_up hf45 rfl) (fun H46 hI47 hf48 e49 => ?_)
    have k50 : H46 35 4 = 39 := by rw [e49]; exact (fz_up_o (by decide)).trans f43
    have hX51 : fz_Xc H46 := by rw [e49]; exact fz_Xc_up (by decide) (by decide) (by decide) hX42
    refine fz_aload_n kX0_add rfl rfl ?_
    refine fz_getR (t := 37) kX0_add rfl rfl ?_
    refine fz_aload_n kX0_add rfl rfl ?_
    refine fz_getV (v := 39) kX0_add rfl rfl k50 ?_
    refine fz_iload_n kX0_add rfl rfl ?_
    refine fz_iast (n := 40) kX0_add rfl rfl (by omega) (by omega) ?_
    refine fz_nmu (S := [(35, 4), (35, 5), (36, 99999), (37, 99999), (38, 99999), (39, 99999)]) (h0 := h) (fz_Iv_up hI47 (by decide) (show (0 : Int) ≤ wh by omega) (show (wh : Int) ≤ 8 by omega)) (fz_fr_up hf48 rfl) (fun H52 hI53 hf54 e55 => ?_)
    have k56 : H52 35 4 = 39 := by rw [e55]; exact (fz_up_o (by decide)).trans k50
    refine fz_aload_n kX0_add rfl rfl ?_
    refine fz_getR (t := 38) kX0_add rfl rfl ?_
    refine fz_aload_n kX0_add rfl rfl ?_
    refine fz_getV (v := 39) kX0_add rfl rfl k56 ?_
    refine fz_iload_n kX0_add rfl rfl ?_
    refine fz_iast (n := 40) kX0_add rfl rfl (by omega) (by omega) ?_
    refine fz_nmu (S := [(35, 4), (35, 5), (36, 99999), (37, 99999), (38, 99999), (39, 99999)]) (h0 := h) (fz_Iv_up hI53 (by decide) (show ((-9) : Int) ≤ fr by omega) (show (fr : Int) ≤ 999 by omega)) (fz_fr_up hf54 rfl) (fun H57 hI58 hf59 e60 => ?_)
    have k61 : H57 35 4 = 39 := by rw [e60]; exact (fz_up_o (by decide)).trans k56
    refine fz_aload_n kX0_add rfl rfl ?_
    refine fz_getR (t := 39) kX0_add rfl rfl ?_
    refine fz_aload_n kX0_add rfl rfl ?_
    refine fz_getV (v := 39) kX0_add rfl rfl k61 ?_
    refine fz_iload kX0_add rfl rfl ?_
    refine fz_iast (n := 40) kX0_add rfl rfl (by omega) (by omega) ?_
    refine fz_nmu (S := [(35, 4), (35, 5), (36, 99999), (37, 99999), (38, 99999), (39, 99999)]) (h0 := h) (fz_Iv_up hI58 (by decide) (show ((-9) : Int) ≤ to by omega) (show (to : Int) ≤ 999 by omega)) (fz_fr_up hf59 rfl) (fun H62 hI63 hf64 e65 => ?_)
    have k66 : H62 35 4 = 39 := by rw [e65]; exact (fz_up_o (by decide)).trans k61
    refine fz_aload_n kX0_add rfl rfl ?_
    refine fz_dup rfl kX0_add rfl ?_
    refine fz_getV (v := 39) kX0_add rfl rfl k66 ?_
    refine fz_iconst ⟨by decide, by decide⟩ kX0_add rfl ?_
    refine fz_iaddN kX0_add rfl ⟨by decide, by decide⟩ ?_
    refine fz_eqi (y := 40) rfl ?_
    refine fz_putI kX0_add rfl rfl rfl ?_
    refine fz_nmu (S := [(35, 4), (35, 5), (36, 99999), (37, 99999), (38, 99999), (39, 99999)]) (h0 := h) (fz_Iv_up hI63 (by decide) (show (0 : Int) ≤ 40 by decide) (show (40 : Int) ≤ 40 by decide)) (fz_fr_up hf64 rfl) (fun H67 hI68 hf69 e70 => ?_)
    have k71 : H67 35 4 = 40 := by rw [e70]; exact fz_up_e
    refine fz_aload_n kX0_add rfl rfl ?_
    refine fz_aload_n kX0_add rfl rfl ?_
    refine fz_getV (v := 40) kX0_add rfl rfl k71 ?_
    refine fz_putI kX0_add rfl rfl rfl ?_
    refine fz_nmu (S := [(35, 4), (35, 5), (36, 99999), (37, 99999), (38, 99999), (39, 99999)]) (h0 := h) (fz_Iv_up hI68 (by decide) (show (0 : Int) ≤ 40 by decide) (show (40 : Int) ≤ 40 by decide)) (fz_fr_up hf69 rfl) (fun H72 hI73 hf74 e75 => ?_)
    have k76 : H72 35 4 = 40 := by rw [e75]; exact (fz_up_s (by decide)).trans k71
    have k77 : H72 35 5 = 40 := by rw [e75]; exact fz_up_e
    exact fz_vret kX0_add rfl rfl ⟨hI73, hf74, (by rw [e75, e70, e65, e60, e55, e49]; exact fz_Xc_wr (d := 39) (w := wh) (x := fr) (y := to) hX42 (by funext j; simp [fz_up]) (by funext j; simp [fz_up]) (by funext j; simp [fz_up]) hp3 hp4), rfl, (by first | exact Or.inr ⟨by omega, _, f44, fz_cgC_in e49 e55 e60 e65 e70 e75 (by omega) (by omega) (by omega)⟩ | exact Or.inl ⟨by omega, fz_cgC_in e49 e55 e60 e65 e70 e75 (by omega) (by omega) (by omega)⟩)⟩
