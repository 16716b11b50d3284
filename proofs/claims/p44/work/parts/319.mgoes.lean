/-! ===== what the methods keep ===== -/
abbrev qX11_nears (h : fz_H) (a b l : Int) : fz_H → Option fz_V → Prop := fun h' r0 => fz_Iv h' ∧ fz_fr [(86, 99999), (87, 99999)] h h' ∧ fz_J h' ∧ ∃ r : Int, r0 = some (fz_i r) ∧ (r = 0 ∨ r = 1) ∧ (fz_mu h' + r ≤ fz_mu h)
set_option maxHeartbeats 1000000 in
set_option maxRecDepth 100000 in
theorem sX11_nears (h : fz_H) (hI : fz_Iv h) (a b l : Int) (hJ : fz_J h) (hp0 : 0 ≤ a ∧ a ≤ 7) (hp1 : 0 ≤ b ∧ b ≤ 7) (hp2 : 0 ≤ l ∧ l ≤ 24) : fz_R 0 mX11_nears 0 [(0, fz_r 53), (1, fz_i a), (2, fz_i b), (3, fz_i l)] [] h (qX11_nears h a b l) := by
  refine fz_knowl (fun hk => ?_)
  have hr_a : -2147483648 ≤ a ∧ a < 2147483648 := hk _ (List.Mem.tail _ (List.Mem.head _))
  have hr_b : -2147483648 ≤ b ∧ b < 2147483648 := hk _ (List.Mem.tail _ (List.Mem.tail _ (List.Mem.head _)))
  have hr_l : -2147483648 ≤ l ∧ l < 2147483648 := hk _ (List.Mem.tail _ (List.Mem.tail _ (List.Mem.tail _ (List.Mem.head _))))
  clear hk
  have hf : fz_fr [(86, 99999), (87, 99999)] h h := fz_fr_rf
  refine fz_aload_n kX11_nears rfl rfl ?_
  refine fz_getR (t := 86) kX11_nears rfl rfl ?_
  refine fz_iload_n kX11_nears rfl rfl ?_
  refine fz_ialdV (n := 8) (v := h 86 (a.toNat)) kX11_nears rfl rfl (by omega) (by omega) rfl ?_
  have b1 : (-2147483648) ≤ h 86 (a.toNat) ∧ h 86 (a.toNat) ≤ 2147483647 := hI.1 86 _
  refine fz_bipush ⟨by decide, by decide⟩ kX11_nears rfl ?_
  refine fz_icmp_ne (tgt := 13) kX11_nears rfl (by decide) (fun c2 => ?_) (fun c2 => ?_)
  · refine fz_aload_n kX11_nears rfl rfl ?_
    refine fz_getR (t := 86) kX11_nears rfl rfl ?_
    refine fz_iload_n kX11_nears rfl rfl ?_
    refine fz_ialdV (n := 8) (v := h 86 (a.toNat)) kX11_nears rfl rfl (by omega) (by omega) rfl ?_
    refine fz_iload_n kX11_nears rfl rfl ?_
    have k3 := fz_J_b hJ (x := a) (by omega)
    refine fz_iadd kX11_nears rfl ?_
    have b4 := fz_w_b ((h 86 (a.toNat)) + l)
    have k5 : (fz_w ((h 86 (a.toNat)) + l)) = h 86 a.toNat + l := fz_w_id (by omega) (by omega)
    refine fz_istore (ls' := [(4, fz_i (fz_w ((h 86 (a.toNat)) + l))), (0, fz_r 53), (1, fz_i a), (2, fz_i b), (3, fz_i l)]) kX11_nears rfl (by decide) rfl ?_
    refine fz_aload_n kX11_nears rfl rfl ?_
    refine fz_getR (t := 86) kX11_nears rfl rfl ?_
    refine fz_iload_n kX11_nears rfl rfl ?_
    refine fz_ialdV (n := 8) (v := h 86 (b.toNat)) kX11_nears rfl rfl (by omega) (by omega) rfl ?_
    have b6 : (-2147483648) ≤ h 86 (b.toNat) ∧ h 86 (b.toNat) ≤ 2147483647 := hI.1 86 _
    refine fz_bipush ⟨by decide, by decide⟩ kX11_nears rfl ?_
    refine fz_icmp_eq (tgt := 75) kX11_nears rfl (by decide) (fun c7 => ?_) (fun c7 => ?_)
    · have k8 := fz_J_b hJ (x := b) (by omega)
      refine fz_aload_n kX11_nears rfl rfl ?_
      refine fz_getR (t := 86) kX11_nears rfl rfl ?_
      refine fz_iload_n kX11_nears rfl rfl ?_
      refine fz_iload kX11_nears rfl rfl ?_
      refine fz_iast (n := 8) kX11_nears rfl rfl (by omega) (by omega) ?_
      refine fz_nmu (S := [(86, 99999), (87, 99999)]) (h0 := h) (fz_Iv_up hI (by decide) (show ((-2147483648) : Int) ≤ (fz_w ((h 86 (a.toNat)) + l)) by omega) (show ((fz_w ((h 86 (a.toNat)) + l)) : Int) ≤ 2147483647 by omega)) (fz_fr_up hf rfl) (fun H9 hI10 hf11 e12 => ?_)
      have hJ13 : fz_J H9 := by rw [e12]; exact fz_J_st (a := a.toNat) (l := l) hJ (by omega) (by omega) (by omega) (by omega) (by omega) (by omega)
      refine fz_aload_n kX11_nears rfl rfl ?_
      refine fz_getR (t := 87) kX11_nears rfl rfl ?_
      refine fz_iload_n kX11_nears rfl rfl ?_
      refine fz_aload_n kX11_nears rfl rfl ?_
      refine fz_getR (t := 87) kX11_nears rfl rfl ?_
      refine fz_iload_n kX11_nears rfl rfl ?_
      obtain ⟨v15, e16⟩ : ∃ z, H9 87 (a.toNat) = z := ⟨_, rfl⟩
      refine fz_ialdV (n := 8) (v := v15) kX11_nears rfl rfl (by omega) (by omega) e16 ?_
      have b17 : (-2147483648) ≤ v15 ∧ v15 ≤ 2147483647 := by rw [← e16]; exact hI10.1 87 _
      have k18 : v15 = h 87 a.toNat := by rw [← e16, e12]; exact fz_up_o (by decide)
      refine fz_iconst ⟨by decide, by decide⟩ kX11_nears rfl ?_
      refine fz_iadd kX11_nears rfl ?_
      have b20 := fz_w_b (v15 + 1)
      refine fz_iast (n := 8) kX11_nears rfl rfl (by omega) (by omega) ?_
      refine fz_nmu (S := [(86, 99999), (87, 99999)]) (h0 := h) (fz_Iv_up hI10 (by decide) (show ((-2147483648) : Int) ≤ (fz_w (v15 + 1)) by omega) (show ((fz_w (v15 + 1)) : Int) ≤ 2147483647 by omega)) (fz_fr_up hf11 rfl) (fun H21 hI22 hf23 e24 => ?_)
      have hJ25 : fz_J H21 := fz_J_eq (by rw [e24]; exact fz_up_ne (by decide)) hJ13
      have k26 := fz_mu_st (h := h) (b := b.toNat) (by omega) (by omega) (hI.1 87 _) (by omega) (by rw [k18]; omega) e12 e24
      refine fz_iconst ⟨by decide, by decide⟩ kX11_nears rfl ?_
      exact fz_zret kX11_nears rfl rfl (by omega) ⟨hI22, hf23, hJ25, _, rfl, (by omega), (by omega)⟩
    · refine fz_aload_n kX11_nears rfl rfl ?_
      refine fz_getR (t := 86) kX11_nears rfl rfl ?_
      refine fz_iload_n kX11_nears rfl rfl ?_
      refine fz_ialdV (n := 8) (v := h 86 (b.toNat)) kX11_nears rfl rfl (by omega) (by omega) rfl ?_
      refine fz_iload kX11_nears rfl rfl ?_
      refine fz_icmp_lt (tgt := 73) kX11_nears rfl (by decide) (fun c28 => ?_) (fun c28 => ?_)
      · refine fz_iconst ⟨by decide, by decide⟩ kX11_nears rfl ?_
        exact fz_zret kX11_nears rfl rfl (by omega) ⟨hI, hf, hJ, _, rfl, (by omega), (by omega)⟩
      · refine fz_aload_n kX11_nears rfl rfl ?_
        refine fz_getR (t := 86) kX11_nears rfl rfl ?_
        refine fz_iload_n kX11_nears rfl rfl ?_
        refine fz_ialdV (n := 8) (v := h 86 (b.toNat)) kX11_nears rfl rfl (by omega) (by omega) rfl ?_
        refine fz_iload kX11_nears rfl rfl ?_
        refine fz_icmp_ne (tgt := 75) kX11_nears rfl (by decide) (fun c29 => ?_) (fun c29 => ?_)
        · have k30 := fz_J_b hJ (x := b) (by omega)
          refine fz_aload_n kX11_nears rfl rfl ?_
          refine fz_getR (t := 86) kX11_nears rfl rfl ?_
          refine fz_iload_n kX11_nears rfl rfl ?_
          refine fz_iload kX11_nears rfl rfl ?_
          refine fz_iast (n := 8) kX11_nears rfl rfl (by omega) (by omega) ?_
          refine fz_nmu (S := [(86, 99999), (87, 99999)]) (h0 := h) (fz_Iv_up hI (by decide) (show ((-2147483648) : Int) ≤ (fz_w ((h 86 (a.toNat)) + l)) by omega) (show ((fz_w ((h 86 (a.toNat)) + l)) : Int) ≤ 2147483647 by omega)) (fz_fr_up hf rfl) (fun H31 hI32 hf33 e34 => ?_)
          have hJ35 : fz_J H31 := by rw [e34]; exact fz_J_st (a := a.toNat) (l := l) hJ (by omega) (by omega) (by omega) (by omega) (by omega) (by omega)
          refine fz_aload_n kX11_nears rfl rfl ?_
          refine fz_getR (t := 87) kX11_nears rfl rfl ?_
          refine fz_iload_n kX11_nears rfl rfl ?_
          refine fz_aload_n kX11_nears rfl rfl ?_
          refine fz_getR (t := 87) kX11_nears rfl rfl ?_
          refine fz_iload_n kX11_nears rfl rfl ?_
          obtain ⟨v37, e38⟩ : ∃ z, H31 87 (a.toNat) = z := ⟨_, rfl⟩
          refine fz_ialdV (n := 8) (v := v37) kX11_nears rfl rfl (by omega) (by omega) e38 ?_
          have b39 : (-2147483648) ≤ v37 ∧ v37 ≤ 2147483647 := by rw [← e38]; exact hI32.1 87 _
          have k40 : v37 = h 87 a.toNat := by rw [← e38, e34]; exact fz_up_o (by decide)
          refine fz_iconst ⟨by decide, by decide⟩ kX11_nears rfl ?_
          refine fz_iadd kX11_nears rfl ?_
          have b42 := fz_w_b (v37 + 1)
          refine fz_iast (n := 8) kX11_nears rfl rfl (by omega) (by omega) ?_
          refine fz_nmu (S := [(86, 99999), (87, 99999)]) (h0 := h) (fz_Iv_up hI32 (by decide) (show ((-2147483648) : Int) ≤ (fz_w (v37 + 1)) by omega) (show ((fz_w (v37 + 1)) : Int) ≤ 2147483647 by omega)) (fz_fr_up hf33 rfl) (fun H43 hI44 hf45 e46 => ?_)
          have hJ47 : fz_J H43 := fz_J_eq (by rw [e46]; exact fz_up_ne (by decide)) hJ35
          have k48 := fz_mu_st (h := h) (b := b.toNat) (by omega) (by omega) (hI.1 87 _) (by omega) (by rw [k40]; omega) e34 e46
          refine fz_iconst ⟨by decide, by decide⟩ kX11_nears rfl ?_
          exact fz_zret kX11_nears rfl rfl (by omega) ⟨hI44, hf45, hJ47, _, rfl, (by omega), (by omega)⟩
        · refine fz_aload_n kX11_nears rfl rfl ?_
          refine fz_getR (t := 87) kX11_nears rfl rfl ?_
          refine fz_iload_n kX11_nears rfl rfl ?_
          refine fz_ialdV (n := 8) (v := h 87 (b.toNat)) kX11_nears rfl rfl (by omega) (by omega) rfl ?_
          have b50 : (-2147483648) ≤ h 87 (b.toNat) ∧ h 87 (b.toNat) ≤ 2147483647 := hI.1 87 _
          refine fz_aload_n kX11_nears rfl rfl ?_
          refine fz_getR (t := 87) kX11_nears rfl rfl ?_
          refine fz_iload_n kX11_nears rfl rfl ?_
          refine fz_ialdV (n := 8) (v := h 87 (a.toNat)) kX11_nears rfl rfl (by omega) (by omega) rfl ?_
          have b51 : (-2147483648) ≤ h 87 (a.toNat) ∧ h 87 (a.toNat) ≤ 2147483647 := hI.1 87 _
          refine fz_iconst ⟨by decide, by decide⟩ kX11_nears rfl ?_
          refine fz_iadd kX11_nears rfl ?_
          have b52 := fz_w_b ((h 87 (a.toNat)) + 1)
          refine fz_icmp_gt (tgt := 75) kX11_nears rfl (by decide) (fun c53 => ?_) (fun c53 => ?_)
          · have k54 := fz_J_b hJ (x := b) (by omega)
            refine fz_aload_n kX11_nears rfl rfl ?_
            refine fz_getR (t := 86) kX11_nears rfl rfl ?_
            refine fz_iload_n kX11_nears rfl rfl ?_
            refine fz_iload kX11_nears rfl rfl ?_
            refine fz_iast (n := 8) kX11_nears rfl rfl (by omega) (by omega) ?_
            refine fz_nmu (S := [(86, 99999), (87, 99999)]) (h0 := h) (fz_Iv_up hI (by decide) (show ((-2147483648) : Int) ≤ (fz_w ((h 86 (a.toNat)) + l)) by omega) (show ((fz_w ((h 86 (a.toNat)) + l)) : Int) ≤ 2147483647 by omega)) (fz_fr_up hf rfl) (fun H55 hI56 hf57 e58 => ?_)
            have hJ59 : fz_J H55 := by rw [e58]; exact fz_J_st (a := a.toNat) (l := l) hJ (by omega) (by omega) (by omega) (by omega) (by omega) (by omega)
            refine fz_aload_n kX11_nears rfl rfl ?_
            refine fz_getR (t := 87) kX11_nears rfl rfl ?_
            refine fz_iload_n kX11_nears rfl rfl ?_
            refine fz_aload_n kX11_nears rfl rfl ?_
            refine fz_getR (t := 87) kX11_nears rfl rfl ?_
            refine fz_iload_n kX11_nears rfl rfl ?_
            obtain ⟨v61, e62⟩ : ∃ z, H55 87 (a.toNat) = z := ⟨_, rfl⟩
            refine fz_ialdV (n := 8) (v := v61) kX11_nears rfl rfl (by omega) (by omega) e62 ?_
            have b63 : (-2147483648) ≤ v61 ∧ v61 ≤ 2147483647 := by rw [← e62]; exact hI56.1 87 _
            have k64 : v61 = h 87 a.toNat := by rw [← e62, e58]; exact fz_up_o (by decide)
            refine fz_iconst ⟨by decide, by decide⟩ kX11_nears rfl ?_
            refine fz_iadd kX11_nears rfl ?_
            have b66 := fz_w_b (v61 + 1)
            refine fz_iast (n := 8) kX11_nears rfl rfl (by omega) (by omega) ?_
            refine fz_nmu (S := [(86, 99999), (87, 99999)]) (h0 := h) (fz_Iv_up hI56 (by decide) (show ((-2147483648) : Int) ≤ (fz_w (v61 + 1)) by omega) (show ((fz_w (v61 + 1)) : Int) ≤ 2147483647 by omega)) (fz_fr_up hf57 rfl) (fun H67 hI68 hf69 e70 => ?_)
            have hJ71 : fz_J H67 := fz_J_eq (by rw [e70]; exact fz_up_ne (by decide)) hJ59
            have k72 := fz_mu_st (h := h) (b := b.toNat) (by omega) (by omega) (hI.1 87 _) (by omega) (by rw [k64]; omega) e58 e70
            refine fz_iconst ⟨by decide, by decide⟩ kX11_nears rfl ?_
            exact fz_zret kX11_nears rfl rfl (by omega) ⟨hI68, hf69, hJ71, _, rfl, (by omega), (by omega)⟩
          · refine fz_iconst ⟨by decide, by decide⟩ kX11_nears rfl ?_
            exact fz_zret kX11_nears rfl rfl (by omega) ⟨hI, hf, hJ, _, rfl, (by omega), (by omega)⟩
  · refine fz_iconst ⟨by decide, by decide⟩ kX11_nears rfl ?_
    exact fz_zret kX11_nears rfl rfl (by omega) ⟨hI, hf, hJ, _, rfl, (by omega), (by omega)⟩

abbrev qX11_goesFrom (h : fz_H) (t ca : Int) : fz_H → Option fz_V → Prop := fun h' r0 => fz_Iv h' ∧ fz_fr [(86, 99999), (87, 99999)] h h' ∧ r0 = none
set_option maxHeartbeats 1000000 in
set_option maxRecDepth 100000 in
theorem sX11_goesFrom (h : fz_H) (hI : fz_Iv h) (t ca : Int) (hp0 : 0 ≤ t ∧ t ≤ 7) (hp1 : 0 ≤ ca ∧ ca ≤ 1) : fz_R 1 mX11_goesFrom 0 [(0, fz_r 53), (1, fz_i t), (2, fz_i ca)] [] h (qX11_goesFrom h t ca) := by
  refine fz_knowl (fun hk => ?_)
  have hr_t : -2147483648 ≤ t ∧ t < 2147483648 := hk _ (List.Mem.tail _ (List.Mem.head _))
  have hr_ca : -2147483648 ≤ ca ∧ ca < 2147483648 := hk _ (List.Mem.tail _ (List.Mem.tail _ (List.Mem.head _)))
  clear hk
  have hf : fz_fr [(86, 99999), (87, 99999)] h h := fz_fr_rf
  refine fz_iconst ⟨by decide, by decide⟩ kX11_goesFrom rfl ?_
  refine fz_istore_n (ls' := [(3, fz_i 0), (0, fz_r 53), (1, fz_i t), (2, fz_i ca)]) kX11_goesFrom rfl (by decide) rfl ?_
  have lp6 : ∀ (n5 : Nat) (x1 : Int) (H2 : fz_H), fz_Iv H2 → fz_fr [(86, 99999), (87, 99999)] h H2 → (0 ≤ x1 ∧ x1 ≤ 2147483647) → (fz_K H2 x1) → (8 - x1).toNat < n5 → fz_R 1 mX11_goesFrom 2 [(3, fz_i x1), (0, fz_r 53), (1, fz_i t), (2, fz_i ca)] [] H2 (qX11_goesFrom h t ca) := by
    intro n5
    induction n5 with
    | zero => intro x1 H2 hI3 hf4 hv9 hv10 hm8; exact absurd hm8 (by omega)
    | succ n5 ih7 =>
      intro x1 H2 hI3 hf4 hv9 hv10 hm8
      refine fz_iload_n kX11_goesFrom rfl rfl ?_
      refine fz_bipush ⟨by decide, by decide⟩ kX11_goesFrom rfl ?_
      refine fz_icmp_ge (tgt := 22) kX11_goesFrom rfl (by decide) (fun c11 => ?_) (fun c11 => ?_)
      · refine fz_aload_n kX11_goesFrom rfl rfl ?_
        refine fz_getR (t := 86) kX11_goesFrom rfl rfl ?_
        refine fz_iload_n kX11_goesFrom rfl rfl ?_
        refine fz_iconst ⟨by decide, by decide⟩ kX11_goesFrom rfl ?_
        refine fz_iast (n := 8) kX11_goesFrom rfl rfl (by omega) (by omega) ?_
        refine fz_nmu (S := [(86, 99999), (87, 99999)]) (h0 := h) (fz_Iv_up hI3 (by decide) (show ((-2147483648) : Int) ≤ 0 by decide) (show (0 : Int) ≤ 2147483647 by decide)) (fz_fr_up hf4 rfl) (fun H12 hI13 hf14 e15 => ?_)
        have hJ16 : fz_J H12 := by rw [e15]; exact fz_J_0 hv10 (by omega) (by omega)
        refine fz_aload_n kX11_goesFrom rfl rfl ?_
        refine fz_getR (t := 87) kX11_goesFrom rfl rfl ?_
        refine fz_iload_n kX11_goesFrom rfl rfl ?_
        refine fz_iconst ⟨by decide, by decide⟩ kX11_goesFrom rfl ?_
        refine fz_iast (n := 8) kX11_goesFrom rfl rfl (by omega) (by omega) ?_
        refine fz_nmu (S := [(86, 99999), (87, 99999)]) (h0 := h) (fz_Iv_up hI13 (by decide) (show ((-2147483648) : Int) ≤ 0 by decide) (show (0 : Int) ≤ 2147483647 by decide)) (fz_fr_up hf14 rfl) (fun H18 hI19 hf20 e21 => ?_)
        have hJ22 : fz_J H18 := fz_J_eq (by rw [e21]; exact fz_up_ne (by decide)) hJ16
        refine fz_iconst ⟨by decide, by decide⟩ kX11_goesFrom rfl ?_
        refine fz_istore_n (ls' := [(3, fz_i 1), (0, fz_r 53), (1, fz_i t), (2, fz_i ca)]) kX11_goesFrom rfl (by decide) rfl ?_
        have lp29 : ∀ (n28 : Nat) (x23 : Int) (H25 : fz_H), fz_Iv H25 → fz_fr [(86, 99999), (87, 99999)] h H25 → fz_J H25 → (0 ≤ x23 ∧ x23 ≤ 1) → (fz_mu H25 + x23).toNat < n28 → fz_R 1 mX11_goesFrom 38 [(3, fz_i x23), (0, fz_r 53), (1, fz_i t), (2, fz_i ca)] [] H25 (qX11_goesFrom h t ca) := by
          intro n28
          induction n28 with
          | zero => intro x23 H25 hI26 hf27 hJ24 hv32 hm31; exact absurd hm31 (by omega)
          | succ n28 ih30 =>
            intro x23 H25 hI26 hf27 hJ24 hv32 hm31
            refine fz_iload_n kX11_goesFrom rfl rfl ?_
            refine fz_if_eq (tgt := 142) kX11_goesFrom rfl (by decide) (fun c33 => ?_) (fun c33 => ?_)
            · exact fz_vret kX11_goesFrom rfl rfl ⟨hI26, hf27, rfl⟩
            · obtain ⟨k34, k35⟩ : ∃ z, z = fz_mu H25 := ⟨_, rfl⟩
              have k37 := fz_mu_nn H25
              refine fz_iconst ⟨by decide, by decide⟩ kX11_goesFrom rfl ?_
              refine fz_istore_n (ls' := [(3, fz_i 0), (0, fz_r 53), (1, fz_i t), (2, fz_i ca)]) kX11_goesFrom rfl (by decide) rfl ?_
              refine fz_iconst ⟨by decide, by decide⟩ kX11_goesFrom rfl ?_
              refine fz_istore (ls' := [(4, fz_i 0), (3, fz_i 0), (0, fz_r 53), (1, fz_i t), (2, fz_i ca)]) kX11_goesFrom rfl (by decide) rfl ?_
              have lp45 : ∀ (n44 : Nat) (x38 : Int) (x39 : Int) (H41 : fz_H), fz_Iv H41 → fz_fr [(86, 99999), (87, 99999)] h H41 → fz_J H41 → (0 ≤ x38 ∧ x38 ≤ 2147483647) → (0 ≤ x39 ∧ x39 ≤ 1) → (fz_mu H41 + x39 ≤ k34) → ((h 53 2) - x38).toNat < n44 → fz_R 1 mX11_goesFrom 47 [(4, fz_i x38), (3, fz_i x39), (0, fz_r 53), (1, fz_i t), (2, fz_i ca)] [] H41 (qX11_goesFrom h t ca) := by
                intro n44
                induction n44 with
                | zero => intro x38 x39 H41 hI42 hf43 hJ40 hv48 hv49 hv50 hm47; exact absurd hm47 (by omega)
                | succ n44 ih46 =>
                  intro x38 x39 H41 hI42 hf43 hJ40 hv48 hv49 hv50 hm47
                  refine fz_iload kX11_goesFrom rfl rfl ?_
                  refine fz_aload_n kX11_goesFrom rfl rfl ?_
                  refine fz_getV (v := h 53 2) kX11_goesFrom rfl rfl (hf43 53 2 rfl) ?_
                  have b51 : 0 ≤ h 53 2 ∧ h 53 2 ≤ 12 := hI.1 53 _
                  refine fz_icmp_ge (tgt := 139) kX11_goesFrom rfl (by decide) (fun c52 => ?_) (fun c52 => ?_)
                  · refine fz_goto (tgt := 38) kX11_goesFrom rfl (by decide) ?_
                    refine fz_sub (fz_pk_sub (ls' := [(3, fz_i x39), (0, fz_r 53), (1, fz_i t), (2, fz_i ca)]) [1, 2, 3, 4] rfl) ?_
                    exact ih30 x39 H41 hI42 hf43 hJ40 (by omega) (by omega)
                  · refine fz_iload_n kX11_goesFrom rfl rfl ?_
                    refine fz_if_eq (tgt := 73) kX11_goesFrom rfl (by decide) (fun c53 => ?_) (fun c53 => ?_)
                    · refine fz_aload_n kX11_goesFrom rfl rfl ?_
                      refine fz_aload_n kX11_goesFrom rfl rfl ?_
                      refine fz_getR (t := 55) kX11_goesFrom rfl rfl ?_
                      refine fz_iload kX11_goesFrom rfl rfl ?_
                      refine fz_ialdV (n := 12) (v := h 55 (x38.toNat)) kX11_goesFrom rfl rfl (by omega) (by omega) (hf43 55 _ rfl) ?_
                      have b54 : 0 ≤ h 55 (x38.toNat) ∧ h 55 (x38.toNat) ≤ 7 := hI.1 55 _
                      refine fz_aload_n kX11_goesFrom rfl rfl ?_
                      refine fz_getR (t := 56) kX11_goesFrom rfl rfl ?_
                      refine fz_iload kX11_goesFrom rfl rfl ?_
                      refine fz_ialdV (n := 12) (v := h 56 (x38.toNat)) kX11_goesFrom rfl rfl (by omega) (by omega) (hf43 56 _ rfl) ?_
                      have b55 : 0 ≤ h 56 (x38.toNat) ∧ h 56 (x38.toNat) ≤ 7 := hI.1 56 _
                      refine fz_aload_n kX11_goesFrom rfl rfl ?_
                      refine fz_iload kX11_goesFrom rfl rfl ?_
                      refine fz_iload_n kX11_goesFrom rfl rfl ?_
                      refine fz_callV (d' := 0) (M' := mX11_hoursOf) (As := [fz_i x38, fz_i ca]) (st := [fz_i (h 56 (x38.toNat)), fz_i (h 55 (x38.toNat)), fz_r 53]) kX11_goesFrom rfl rfl vX11_hoursOf rfl rfl rfl rfl (Nat.le_of_ble_eq_true rfl) (Nat.le_of_ble_eq_true rfl) (by decide) (sX11_hoursOf H41 hI42 x38 ca (by omega)) (fun H56 r57 q58 o59 => ?_)
                      obtain ⟨e60, y62, rfl, f61⟩ := q58
                      subst H56
                      clear o59
                      refine fz_callV (d' := 0) (M' := mX11_nears) (As := [fz_i (h 55 (x38.toNat)), fz_i (h 56 (x38.toNat)), fz_i y62]) (st := []) kX11_goesFrom rfl rfl vX11_nears rfl rfl rfl rfl (Nat.le_of_ble_eq_true rfl) (Nat.le_of_ble_eq_true rfl) (by decide) (sX11_nears H41 hI42 (h 55 (x38.toNat)) (h 56 (x38.toNat)) y62 hJ40 (by omega) (by omega) (by omega)) (fun H63 r64 q65 o66 => ?_)
                      obtain ⟨hI67, hf68, hJ69, y71, rfl, p72, f70⟩ := q65
                      clear o66
                      have hf73 := fz_fr_tr hf43 hf68 (show fz_su [(86, 99999), (87, 99999)] [(86, 99999), (87, 99999)] = true from rfl)
                      refine fz_if_eq (tgt := 103) kX11_goesFrom rfl (by decide) (fun c74 => ?_) (fun c74 => ?_)
                      · refine fz_aload_n kX11_goesFrom rfl rfl ?_
                        refine fz_aload_n kX11_goesFrom rfl rfl ?_
                        refine fz_getR (t := 56) kX11_goesFrom rfl rfl ?_
                        refine fz_iload kX11_goesFrom rfl rfl ?_
                        refine fz_ialdV (n := 12) (v := h 56 (x38.toNat)) kX11_goesFrom rfl rfl (by omega) (by omega) (hf73 56 _ rfl) ?_
                        refine fz_aload_n kX11_goesFrom rfl rfl ?_
                        refine fz_getR (t := 55) kX11_goesFrom rfl rfl ?_
                        refine fz_iload kX11_goesFrom rfl rfl ?_
                        refine fz_ialdV (n := 12) (v := h 55 (x38.toNat)) kX11_goesFrom rfl rfl (by omega) (by omega) (hf73 55 _ rfl) ?_
                        refine fz_aload_n kX11_goesFrom rfl rfl ?_
                        refine fz_iload kX11_goesFrom rfl rfl ?_
                        refine fz_iload_n kX11_goesFrom rfl rfl ?_
                        refine fz_callV (d' := 0) (M' := mX11_hoursOf) (As := [fz_i x38, fz_i ca]) (st := [fz_i (h 55 (x38.toNat)), fz_i (h 56 (x38.toNat)), fz_r 53]) kX11_goesFrom rfl rfl vX11_hoursOf rfl rfl rfl rfl (Nat.le_of_ble_eq_true rfl) (Nat.le_of_ble_eq_true rfl) (by decide) (sX11_hoursOf H63 hI67 x38 ca (by omega)) (fun H75 r76 q77 o78 => ?_)
                        obtain ⟨e79, y81, rfl, f80⟩ := q77
                        subst H75
                        clear o78
                        refine fz_callV (d' := 0) (M' := mX11_nears) (As := [fz_i (h 56 (x38.toNat)), fz_i (h 55 (x38.toNat)), fz_i y81]) (st := []) kX11_goesFrom rfl rfl vX11_nears rfl rfl rfl rfl (Nat.le_of_ble_eq_true rfl) (Nat.le_of_ble_eq_true rfl) (by decide) (sX11_nears H63 hI67 (h 56 (x38.toNat)) (h 55 (x38.toNat)) y81 hJ69 (by omega) (by omega) (by omega)) (fun H82 r83 q84 o85 => ?_)
                        obtain ⟨hI86, hf87, hJ88, y90, rfl, p91, f89⟩ := q84
                        clear o85
                        have hf92 := fz_fr_tr hf73 hf87 (show fz_su [(86, 99999), (87, 99999)] [(86, 99999), (87, 99999)] = true from rfl)
                        refine fz_if_eq (tgt := 133) kX11_goesFrom rfl (by decide) (fun c93 => ?_) (fun c93 => ?_)
                        · refine fz_iincN (ls' := [(4, fz_i (x38 + 1)), (3, fz_i x39), (0, fz_r 53), (1, fz_i t), (2, fz_i ca)]) kX11_goesFrom rfl (by decide) rfl (by omega) rfl ?_
                          refine fz_goto (tgt := 47) kX11_goesFrom rfl (by decide) ?_
                          exact ih46 (x38 + 1) x39 H82 hI86 hf92 hJ88 (by omega) (by omega) (by omega) (by omega)
                        · refine fz_iconst ⟨by decide, by decide⟩ kX11_goesFrom rfl ?_
                          refine fz_istore_n (ls' := [(3, fz_i 1), (4, fz_i x38), (0, fz_r 53), (1, fz_i t), (2, fz_i ca)]) kX11_goesFrom rfl (by decide) rfl ?_
                          refine fz_iincN (ls' := [(4, fz_i (x38 + 1)), (3, fz_i 1), (0, fz_r 53), (1, fz_i t), (2, fz_i ca)]) kX11_goesFrom rfl (by decide) rfl (by omega) rfl ?_
                          refine fz_goto (tgt := 47) kX11_goesFrom rfl (by decide) ?_
                          exact ih46 (x38 + 1) 1 H82 hI86 hf92 hJ88 (by omega) (by omega) (by omega) (by omega)
                      · refine fz_iconst ⟨by decide, by decide⟩ kX11_goesFrom rfl ?_
                        refine fz_istore_n (ls' := [(3, fz_i 1), (4, fz_i x38), (0, fz_r 53), (1, fz_i t), (2, fz_i ca)]) kX11_goesFrom rfl (by decide) rfl ?_
                        refine fz_aload_n kX11_goesFrom rfl rfl ?_
                        refine fz_aload_n kX11_goesFrom rfl rfl ?_
                        refine fz_getR (t := 56) kX11_goesFrom rfl rfl ?_
                        refine fz_iload kX11_goesFrom rfl rfl ?_
                        refine fz_ialdV (n := 12) (v := h 56 (x38.toNat)) kX11_goesFrom rfl rfl (by omega) (by omega) (hf73 56 _ rfl) ?_
                        refine fz_aload_n kX11_goesFrom rfl rfl ?_
                        refine fz_getR (t := 55) kX11_goesFrom rfl rfl ?_
                        refine fz_iload kX11_goesFrom rfl rfl ?_
                        refine fz_ialdV (n := 12) (v := h 55 (x38.toNat)) kX11_goesFrom rfl rfl (by omega) (by omega) (hf73 55 _ rfl) ?_
                        refine fz_aload_n kX11_goesFrom rfl rfl ?_
                        refine fz_iload kX11_goesFrom rfl rfl ?_
                        refine fz_iload_n kX11_goesFrom rfl rfl ?_
                        refine fz_callV (d' := 0) (M' := mX11_hoursOf) (As := [fz_i x38, fz_i ca]) (st := [fz_i (h 55 (x38.toNat)), fz_i (h 56 (x38.toNat)), fz_r 53]) kX11_goesFrom rfl rfl vX11_hoursOf rfl rfl rfl rfl (Nat.le_of_ble_eq_true rfl) (Nat.le_of_ble_eq_true rfl) (by decide) (sX11_hoursOf H63 hI67 x38 ca (by omega)) (fun H94 r95 q96 o97 => ?_)
                        obtain ⟨e98, y100, rfl, f99⟩ := q96
                        subst H94
                        clear o97
                        refine fz_callV (d' := 0) (M' := mX11_nears) (As := [fz_i (h 56 (x38.toNat)), fz_i (h 55 (x38.toNat)), fz_i y100]) (st := []) kX11_goesFrom rfl rfl vX11_nears rfl rfl rfl rfl (Nat.le_of_ble_eq_true rfl) (Nat.le_of_ble_eq_true rfl) (by decide) (sX11_nears H63 hI67 (h 56 (x38.toNat)) (h 55 (x38.toNat)) y100 hJ69 (by omega) (by omega) (by omega)) (fun H101 r102 q103 o104 => ?_)
                        obtain ⟨hI105, hf106, hJ107, y109, rfl, p110, f108⟩ := q103
                        clear o104
                        have hf111 := fz_fr_tr hf73 hf106 (show fz_su [(86, 99999), (87, 99999)] [(86, 99999), (87, 99999)] = true from rfl)
                        refine fz_if_eq (tgt := 133) kX11_goesFrom rfl (by decide) (fun c112 => ?_) (fun c112 => ?_)
                        · refine fz_iincN (ls' := [(4, fz_i (x38 + 1)), (3, fz_i 1), (0, fz_r 53), (1, fz_i t), (2, fz_i ca)]) kX11_goesFrom rfl (by decide) rfl (by omega) rfl ?_
                          refine fz_goto (tgt := 47) kX11_goesFrom rfl (by decide) ?_
                          exact ih46 (x38 + 1) 1 H101 hI105 hf111 hJ107 (by omega) (by omega) (by omega) (by omega)
                        · refine fz_iconst ⟨by decide, by decide⟩ kX11_goesFrom rfl ?_
                          refine fz_istore_n (ls' := [(3, fz_i 1), (4, fz_i x38), (0, fz_r 53), (1, fz_i t), (2, fz_i ca)]) kX11_goesFrom rfl (by decide) rfl ?_
                          refine fz_iincN (ls' := [(4, fz_i (x38 + 1)), (3, fz_i 1), (0, fz_r 53), (1, fz_i t), (2, fz_i ca)]) kX11_goesFrom rfl (by decide) rfl (by omega) rfl ?_
                          refine fz_goto (tgt := 47) kX11_goesFrom rfl (by decide) ?_
                          exact ih46 (x38 + 1) 1 H101 hI105 hf111 hJ107 (by omega) (by omega) (by omega) (by omega)
                    · refine fz_aload_n kX11_goesFrom rfl rfl ?_
                      refine fz_getR (t := 58) kX11_goesFrom rfl rfl ?_
                      refine fz_iload kX11_goesFrom rfl rfl ?_
                      refine fz_ialdV (n := 12) (v := h 58 (x38.toNat)) kX11_goesFrom rfl rfl (by omega) (by omega) (hf43 58 _ rfl) ?_
                      have b113 : 0 ≤ h 58 (x38.toNat) ∧ h 58 (x38.toNat) ≤ 1 := hI.1 58 _
                      refine fz_if_ne (tgt := 73) kX11_goesFrom rfl (by decide) (fun c114 => ?_) (fun c114 => ?_)
                      · refine fz_aload_n kX11_goesFrom rfl rfl ?_
                        refine fz_aload_n kX11_goesFrom rfl rfl ?_
                        refine fz_getR (t := 55) kX11_goesFrom rfl rfl ?_
                        refine fz_iload kX11_goesFrom rfl rfl ?_
                        refine fz_ialdV (n := 12) (v := h 55 (x38.toNat)) kX11_goesFrom rfl rfl (by omega) (by omega) (hf43 55 _ rfl) ?_
                        have b115 : 0 ≤ h 55 (x38.toNat) ∧ h 55 (x38.toNat) ≤ 7 := hI.1 55 _
                        refine fz_aload_n kX11_goesFrom rfl rfl ?_
                        refine fz_getR (t := 56) kX11_goesFrom rfl rfl ?_
                        refine fz_iload kX11_goesFrom rfl rfl ?_
                        refine fz_ialdV (n := 12) (v := h 56 (x38.toNat)) kX11_goesFrom rfl rfl (by omega) (by omega) (hf43 56 _ rfl) ?_
                        have b116 : 0 ≤ h 56 (x38.toNat) ∧ h 56 (x38.toNat) ≤ 7 := hI.1 56 _
                        refine fz_aload_n kX11_goesFrom rfl rfl ?_
                        refine fz_iload kX11_goesFrom rfl rfl ?_
                        refine fz_iload_n kX11_goesFrom rfl rfl ?_
                        refine fz_callV (d' := 0) (M' := mX11_hoursOf) (As := [fz_i x38, fz_i ca]) (st := [fz_i (h 56 (x38.toNat)), fz_i (h 55 (x38.toNat)), fz_r 53]) kX11_goesFrom rfl rfl vX11_hoursOf rfl rfl rfl rfl (Nat.le_of_ble_eq_true rfl) (Nat.le_of_ble_eq_true rfl) (by decide) (sX11_hoursOf H41 hI42 x38 ca (by omega)) (fun H117 r118 q119 o120 => ?_)
                        obtain ⟨e121, y123, rfl, f122⟩ := q119
                        subst H117
                        clear o120
                        refine fz_callV (d' := 0) (M' := mX11_nears) (As := [fz_i (h 55 (x38.toNat)), fz_i (h 56 (x38.toNat)), fz_i y123]) (st := []) kX11_goesFrom rfl rfl vX11_nears rfl rfl rfl rfl (Nat.le_of_ble_eq_true rfl) (Nat.le_of_ble_eq_true rfl) (by decide) (sX11_nears H41 hI42 (h 55 (x38.toNat)) (h 56 (x38.toNat)) y123 hJ40 (by omega) (by omega) (by omega)) (fun H124 r125 q126 o127 => ?_)
                        obtain ⟨hI128, hf129, hJ130, y132, rfl, p133, f131⟩ := q126
                        clear o127
                        have hf134 := fz_fr_tr hf43 hf129 (show fz_su [(86, 99999), (87, 99999)] [(86, 99999), (87, 99999)] = true from rfl)
                        refine fz_if_eq (tgt := 103) kX11_goesFrom rfl (by decide) (fun c135 => ?_) (fun c135 => ?_)
                        · refine fz_aload_n kX11_goesFrom rfl rfl ?_
                          refine fz_aload_n kX11_goesFrom rfl rfl ?_
                          refine fz_getR (t := 56) kX11_goesFrom rfl rfl ?_
                          refine fz_iload kX11_goesFrom rfl rfl ?_
                          refine fz_ialdV (n := 12) (v := h 56 (x38.toNat)) kX11_goesFrom rfl rfl (by omega) (by omega) (hf134 56 _ rfl) ?_
                          refine fz_aload_n kX11_goesFrom rfl rfl ?_
                          refine fz_getR (t := 55) kX11_goesFrom rfl rfl ?_
                          refine fz_iload kX11_goesFrom rfl rfl ?_
                          refine fz_ialdV (n := 12) (v := h 55 (x38.toNat)) kX11_goesFrom rfl rfl (by omega) (by omega) (hf134 55 _ rfl) ?_
                          refine fz_aload_n kX11_goesFrom rfl rfl ?_
                          refine fz_iload kX11_goesFrom rfl rfl ?_
                          refine fz_iload_n kX11_goesFrom rfl rfl ?_
                          refine fz_callV (d' := 0) (M' := mX11_hoursOf) (As := [fz_i x38, fz_i ca]) (st := [fz_i (h 55 (x38.toNat)), fz_i (h 56 (x38.toNat)), fz_r 53]) kX11_goesFrom rfl rfl vX11_hoursOf rfl rfl rfl rfl (Nat.le_of_ble_eq_true rfl) (Nat.le_of_ble_eq_true rfl) (by decide) (sX11_hoursOf H124 hI128 x38 ca (by omega)) (fun H136 r137 q138 o139 => ?_)
                          obtain ⟨e140, y142, rfl, f141⟩ := q138
                          subst H136
                          clear o139
                          refine fz_callV (d' := 0) (M' := mX11_nears) (As := [fz_i (h 56 (x38.toNat)), fz_i (h 55 (x38.toNat)), fz_i y142]) (st := []) kX11_goesFrom rfl rfl vX11_nears rfl rfl rfl rfl (Nat.le_of_ble_eq_true rfl) (Nat.le_of_ble_eq_true rfl) (by decide) (sX11_nears H124 hI128 (h 56 (x38.toNat)) (h 55 (x38.toNat)) y142 hJ130 (by omega) (by omega) (by omega)) (fun H143 r144 q145 o146 => ?_)
                          obtain ⟨hI147, hf148, hJ149, y151, rfl, p152, f150⟩ := q145
                          clear o146
                          have hf153 := fz_fr_tr hf134 hf148 (show fz_su [(86, 99999), (87, 99999)] [(86, 99999), (87, 99999)] = true from rfl)
                          refine fz_if_eq (tgt := 133) kX11_goesFrom rfl (by decide) (fun c154 => ?_) (fun c154 => ?_)
                          · refine fz_iincN (ls' := [(4, fz_i (x38 + 1)), (3, fz_i x39), (0, fz_r 53), (1, fz_i t), (2, fz_i ca)]) kX11_goesFrom rfl (by decide) rfl (by omega) rfl ?_
                            refine fz_goto (tgt := 47) kX11_goesFrom rfl (by decide) ?_
                            exact ih46 (x38 + 1) x39 H143 hI147 hf153 hJ149 (by omega) (by omega) (by omega) (by omega)
                          · refine fz_iconst ⟨by decide, by decide⟩ kX11_goesFrom rfl ?_
                            refine fz_istore_n (ls' := [(3, fz_i 1), (4, fz_i x38), (0, fz_r 53), (1, fz_i t), (2, fz_i ca)]) kX11_goesFrom rfl (by decide) rfl ?_
                            refine fz_iincN (ls' := [(4, fz_i (x38 + 1)), (3, fz_i 1), (0, fz_r 53), (1, fz_i t), (2, fz_i ca)]) kX11_goesFrom rfl (by decide) rfl (by omega) rfl ?_
                            refine fz_goto (tgt := 47) kX11_goesFrom rfl (by decide) ?_
                            exact ih46 (x38 + 1) 1 H143 hI147 hf153 hJ149 (by omega) (by omega) (by omega) (by omega)
                        · refine fz_iconst ⟨by decide, by decide⟩ kX11_goesFrom rfl ?_
                          refine fz_istore_n (ls' := [(3, fz_i 1), (4, fz_i x38), (0, fz_r 53), (1, fz_i t), (2, fz_i ca)]) kX11_goesFrom rfl (by decide) rfl ?_
                          refine fz_aload_n kX11_goesFrom rfl rfl ?_
                          refine fz_aload_n kX11_goesFrom rfl rfl ?_
                          refine fz_getR (t := 56) kX11_goesFrom rfl rfl ?_
                          refine fz_iload kX11_goesFrom rfl rfl ?_
                          refine fz_ialdV (n := 12) (v := h 56 (x38.toNat)) kX11_goesFrom rfl rfl (by omega) (by omega) (hf134 56 _ rfl) ?_
                          refine fz_aload_n kX11_goesFrom rfl rfl ?_
                          refine fz_getR (t := 55) kX11_goesFrom rfl rfl ?_
                          refine fz_iload kX11_goesFrom rfl rfl ?_
                          refine fz_ialdV (n := 12) (v := h 55 (x38.toNat)) kX11_goesFrom rfl rfl (by omega) (by omega) (hf134 55 _ rfl) ?_
                          refine fz_aload_n kX11_goesFrom rfl rfl ?_
                          refine fz_iload kX11_goesFrom rfl rfl ?_
                          refine fz_iload_n kX11_goesFrom rfl rfl ?_
                          refine fz_callV (d' := 0) (M' := mX11_hoursOf) (As := [fz_i x38, fz_i ca]) (st := [fz_i (h 55 (x38.toNat)), fz_i (h 56 (x38.toNat)), fz_r 53]) kX11_goesFrom rfl rfl vX11_hoursOf rfl rfl rfl rfl (Nat.le_of_ble_eq_true rfl) (Nat.le_of_ble_eq_true rfl) (by decide) (sX11_hoursOf H124 hI128 x38 ca (by omega)) (fun H155 r156 q157 o158 => ?_)
                          obtain ⟨e159, y161, rfl, f160⟩ := q157
                          subst H155
                          clear o158
                          refine fz_callV (d' := 0) (M' := mX11_nears) (As := [fz_i (h 56 (x38.toNat)), fz_i (h 55 (x38.toNat)), fz_i y161]) (st := []) kX11_goesFrom rfl rfl vX11_nears rfl rfl rfl rfl (Nat.le_of_ble_eq_true rfl) (Nat.le_of_ble_eq_true rfl) (by decide) (sX11_nears H124 hI128 (h 56 (x38.toNat)) (h 55 (x38.toNat)) y161 hJ130 (by omega) (by omega) (by omega)) (fun H162 r163 q164 o165 => ?_)
                          obtain ⟨hI166, hf167, hJ168, y170, rfl, p171, f169⟩ := q164
                          clear o165
                          have hf172 := fz_fr_tr hf134 hf167 (show fz_su [(86, 99999), (87, 99999)] [(86, 99999), (87, 99999)] = true from rfl)
                          refine fz_if_eq (tgt := 133) kX11_goesFrom rfl (by decide) (fun c173 => ?_) (fun c173 => ?_)
                          · refine fz_iincN (ls' := [(4, fz_i (x38 + 1)), (3, fz_i 1), (0, fz_r 53), (1, fz_i t), (2, fz_i ca)]) kX11_goesFrom rfl (by decide) rfl (by omega) rfl ?_
                            refine fz_goto (tgt := 47) kX11_goesFrom rfl (by decide) ?_
                            exact ih46 (x38 + 1) 1 H162 hI166 hf172 hJ168 (by omega) (by omega) (by omega) (by omega)
                          · refine fz_iconst ⟨by decide, by decide⟩ kX11_goesFrom rfl ?_
                            refine fz_istore_n (ls' := [(3, fz_i 1), (4, fz_i x38), (0, fz_r 53), (1, fz_i t), (2, fz_i ca)]) kX11_goesFrom rfl (by decide) rfl ?_
                            refine fz_iincN (ls' := [(4, fz_i (x38 + 1)), (3, fz_i 1), (0, fz_r 53), (1, fz_i t), (2, fz_i ca)]) kX11_goesFrom rfl (by decide) rfl (by omega) rfl ?_
                            refine fz_goto (tgt := 47) kX11_goesFrom rfl (by decide) ?_
                            exact ih46 (x38 + 1) 1 H162 hI166 hf172 hJ168 (by omega) (by omega) (by omega) (by omega)
                      · refine fz_goto (tgt := 133) kX11_goesFrom rfl (by decide) ?_
                        refine fz_iincN (ls' := [(4, fz_i (x38 + 1)), (3, fz_i x39), (0, fz_r 53), (1, fz_i t), (2, fz_i ca)]) kX11_goesFrom rfl (by decide) rfl (by omega) rfl ?_
                        refine fz_goto (tgt := 47) kX11_goesFrom rfl (by decide) ?_
                        exact ih46 (x38 + 1) x39 H41 hI42 hf43 hJ40 (by omega) (by omega) (by omega) (by omega)
              exact lp45 _ 0 0 H25 hI26 hf27 hJ24 (by omega) (by omega) (by omega) (Nat.lt_succ_self _)
        exact lp29 _ 1 H18 hI19 hf20 hJ22 (by omega) (Nat.lt_succ_self _)
      · refine fz_aload_n kX11_goesFrom rfl rfl ?_
        refine fz_getR (t := 86) kX11_goesFrom rfl rfl ?_
        refine fz_iload_n kX11_goesFrom rfl rfl ?_
        refine fz_bipush ⟨by decide, by decide⟩ kX11_goesFrom rfl ?_
        refine fz_iast (n := 8) kX11_goesFrom rfl rfl (by omega) (by omega) ?_
        refine fz_nmu (S := [(86, 99999), (87, 99999)]) (h0 := h) (fz_Iv_up hI3 (by decide) (show ((-2147483648) : Int) ≤ (-2) by decide) (show ((-2) : Int) ≤ 2147483647 by decide)) (fz_fr_up hf4 rfl) (fun H174 hI175 hf176 e177 => ?_)
        refine fz_iincN (ls' := [(3, fz_i (x1 + 1)), (0, fz_r 53), (1, fz_i t), (2, fz_i ca)]) kX11_goesFrom rfl (by decide) rfl (by omega) rfl ?_
        refine fz_goto (tgt := 2) kX11_goesFrom rfl (by decide) ?_
        exact ih7 (x1 + 1) H174 hI175 hf176 (by omega) (by rw [e177]; exact fz_K_st hv10 (by omega)) (by omega)
  exact lp6 _ 0 h hI hf (by omega) (fun _ z => by omega) (Nat.lt_succ_self _)
