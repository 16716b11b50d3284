/-! ===== what the methods keep ===== -/
abbrev qX11_nears_k (h : fz_H) (a b l : Int) : fz_H → Option fz_V → Prop := fun h' r0 => fz_Iv h' ∧ fz_fr [(86, 99999), (87, 99999)] h h' ∧ fz_J h' ∧ fz_Jk h' ∧ ∃ r : Int, r0 = some (fz_i r) ∧ (r = 0 ∨ r = 1) ∧ (fz_mu h' + r ≤ fz_mu h) ∧ (fz_nrM h h' a b l r)
set_option maxHeartbeats 1000000 in
set_option maxRecDepth 100000 in
theorem sX11_nears_k (h : fz_H) (hI : fz_Iv h) (a b l : Int) (hJ : fz_J h) (hJk : fz_Jk h) (hp0 : 0 ≤ a ∧ a ≤ 7) (hp1 : 0 ≤ b ∧ b ≤ 7) (hp2 : 0 ≤ l ∧ l ≤ 24) : fz_R 0 mX11_nears 0 [(0, fz_r 53), (1, fz_i a), (2, fz_i b), (3, fz_i l)] [] h (qX11_nears_k h a b l) := by
  refine fz_knowl (fun hk => ?_)
  have hr_a : -2147483648 ≤ a ∧ a < 2147483648 := hk _ (List.Mem.tail _ (List.Mem.head _))
  have hr_b : -2147483648 ≤ b ∧ b < 2147483648 := hk _ (List.Mem.tail _ (List.Mem.tail _ (List.Mem.head _)))
  have hr_l : -2147483648 ≤ l ∧ l < 2147483648 := hk _ (List.Mem.tail _ (List.Mem.tail _ (List.Mem.tail _ (List.Mem.head _))))
  clear hk
  have hf : fz_fr [(86, 99999), (87, 99999)] h h := fz_fr_rf
  refine fz_aload_n kX11_nears rfl rfl ?_
  refine fz_getR (t := 86) kX11_nears rfl rfl ?_
  refine fz_iload_n kX11_nears rfl rfl ?_
  refine fz_ialdV (n := 8) (v := h 86 (a.toNat)) kX11_nears rfl rfl (by omega) (by omega) rfl ?_
  have b1 : (-2147483648) ≤ h 86 (a.toNat) ∧ h 86 (a.toNat) ≤ 2147483647 := hI.1 86 _
  refine fz_bipush ⟨by decide, by decide⟩ kX11_nears rfl ?_
  refine fz_icmp_ne (tgt := 13) kX11_nears rfl (by decide) (fun c2 => ?_) (fun c2 => ?_)
  · refine fz_aload_n kX11_nears rfl rfl ?_
    refine fz_getR (t := 86) kX11_nears rfl rfl ?_
    refine fz_iload_n kX11_nears rfl rfl ?_
    refine fz_ialdV (n := 8) (v := h 86 (a.toNat)) kX11_nears rfl rfl (by omega) (by omega) rfl ?_
    refine fz_iload_n kX11_nears rfl rfl ?_
    have k3 := fz_J_b hJ (x := a) (by omega)
    refine fz_iadd kX11_nears rfl ?_
    have b4 := fz_w_b ((h 86 (a.toNat)) + l)
    have k5 : (fz_w ((h 86 (a.toNat)) + l)) = h 86 a.toNat + l := fz_w_id (by omega) (by omega)
    have k6 : (fz_w ((h 86 (a.toNat)) + l)) = h 86 a.toNat + l := fz_w_id (by omega) (by omega)
    refine fz_istore (ls' := [(4, fz_i (fz_w ((h 86 (a.toNat)) + l))), (0, fz_r 53), (1, fz_i a), (2, fz_i b), (3, fz_i l)]) kX11_nears rfl (by decide) rfl ?_
    refine fz_aload_n kX11_nears rfl rfl ?_
    refine fz_getR (t := 86) kX11_nears rfl rfl ?_
    refine fz_iload_n kX11_nears rfl rfl ?_
    refine fz_ialdV (n := 8) (v := h 86 (b.toNat)) kX11_nears rfl rfl (by omega) (by omega) rfl ?_
    have b8 : (-2147483648) ≤ h 86 (b.toNat) ∧ h 86 (b.toNat) ≤ 2147483647 := hI.1 86 _
    refine fz_bipush ⟨by decide, by decide⟩ kX11_nears rfl ?_
    refine fz_icmp_eq (tgt := 75) kX11_nears rfl (by decide) (fun c9 => ?_) (fun c9 => ?_)
    · have k10 := fz_J_b hJ (x := b) (by omega)
      refine fz_aload_n kX11_nears rfl rfl ?_
      refine fz_getR (t := 86) kX11_nears rfl rfl ?_
      refine fz_iload_n kX11_nears rfl rfl ?_
      refine fz_iload kX11_nears rfl rfl ?_
      refine fz_iast (n := 8) kX11_nears rfl rfl (by omega) (by omega) ?_
      refine fz_nmu (S := [(86, 99999), (87, 99999)]) (h0 := h) (fz_Iv_up hI (by decide) (show ((-2147483648) : Int) ≤ (fz_w ((h 86 (a.toNat)) + l)) by omega) (show ((fz_w ((h 86 (a.toNat)) + l)) : Int) ≤ 2147483647 by omega)) (fz_fr_up hf rfl) (fun H11 hI12 hf13 e14 => ?_)
      have hJ15 : fz_J H11 := by rw [e14]; exact fz_J_st (a := a.toNat) (l := l) hJ (by omega) (by omega) (by omega) (by omega) (by omega) (by omega)
      refine fz_aload_n kX11_nears rfl rfl ?_
      refine fz_getR (t := 87) kX11_nears rfl rfl ?_
      refine fz_iload_n kX11_nears rfl rfl ?_
      refine fz_aload_n kX11_nears rfl rfl ?_
      refine fz_getR (t := 87) kX11_nears rfl rfl ?_
      refine fz_iload_n kX11_nears rfl rfl ?_
      obtain ⟨v18, e19⟩ : ∃ z, H11 87 (a.toNat) = z := ⟨_, rfl⟩
      refine fz_ialdV (n := 8) (v := v18) kX11_nears rfl rfl (by omega) (by omega) e19 ?_
      have b20 : (-2147483648) ≤ v18 ∧ v18 ≤ 2147483647 := by rw [← e19]; exact hI12.1 87 _
      have k21 : v18 = h 87 a.toNat := by rw [← e19, e14]; exact fz_up_o (by decide)
      refine fz_iconst ⟨by decide, by decide⟩ kX11_nears rfl ?_
      refine fz_iadd kX11_nears rfl ?_
      have b23 := fz_w_b (v18 + 1)
      refine fz_iast (n := 8) kX11_nears rfl rfl (by omega) (by omega) ?_
      refine fz_nmu (S := [(86, 99999), (87, 99999)]) (h0 := h) (fz_Iv_up hI12 (by decide) (show ((-2147483648) : Int) ≤ (fz_w (v18 + 1)) by omega) (show ((fz_w (v18 + 1)) : Int) ≤ 2147483647 by omega)) (fz_fr_up hf13 rfl) (fun H24 hI25 hf26 e27 => ?_)
      have hJ28 : fz_J H24 := fz_J_eq (by rw [e27]; exact fz_up_ne (by decide)) hJ15
      have hJk29 : fz_Jk H24 := by exact fz_Jk_st (a := a.toNat) (b := b.toNat) (l := l) hJk (by omega) (by omega) (by omega) (by omega) (by omega) (by omega) (by rw [k21]) (by rw [k21]; omega) e14 e27
      have k31 := fz_mu_st (h := h) (b := b.toNat) (by omega) (by omega) (hI.1 87 _) (by omega) (by rw [k21]; omega) e14 e27
      refine fz_iconst ⟨by decide, by decide⟩ kX11_nears rfl ?_
      exact fz_zret kX11_nears rfl rfl (by omega) ⟨hI25, hf26, hJ28, hJk29, _, rfl, (by omega), (by omega), (by first | exact Or.inr ⟨rfl, by omega, fz_up_Ma e14 e27 (by decide) rfl k6, fz_up_Mb e14 e27 (by decide) rfl (by rw [k21]), by omega⟩ | exact Or.inl ⟨rfl, rfl, rfl, (by unfold fz_rx; omega)⟩)⟩
    · refine fz_aload_n kX11_nears rfl rfl ?_
      refine fz_getR (t := 86) kX11_nears rfl rfl ?_
      refine fz_iload_n kX11_nears rfl rfl ?_
      refine fz_ialdV (n := 8) (v := h 86 (b.toNat)) kX11_nears rfl rfl (by omega) (by omega) rfl ?_
      refine fz_iload kX11_nears rfl rfl ?_
      refine fz_icmp_lt (tgt := 73) kX11_nears rfl (by decide) (fun c34 => ?_) (fun c34 => ?_)
      · refine fz_iconst ⟨by decide, by decide⟩ kX11_nears rfl ?_
        exact fz_zret kX11_nears rfl rfl (by omega) ⟨hI, hf, hJ, hJk, _, rfl, (by omega), (by omega), (by first | exact Or.inr ⟨rfl, by omega, fz_up_Ma lost lost (by decide) rfl k6, fz_up_Mb lost lost (by decide) rfl (by rw [lost]), by omega⟩ | exact Or.inl ⟨rfl, rfl, rfl, (by unfold fz_rx; omega)⟩)⟩
      · refine fz_aload_n kX11_nears rfl rfl ?_
        refine fz_getR (t := 86) kX11_nears rfl rfl ?_
        refine fz_iload_n kX11_nears rfl rfl ?_
        refine fz_ialdV (n := 8) (v := h 86 (b.toNat)) kX11_nears rfl rfl (by omega) (by omega) rfl ?_
        refine fz_iload kX11_nears rfl rfl ?_
        refine fz_icmp_ne (tgt := 75) kX11_nears rfl (by decide) (fun c36 => ?_) (fun c36 => ?_)
        · have k37 := fz_J_b hJ (x := b) (by omega)
          refine fz_aload_n kX11_nears rfl rfl ?_
          refine fz_getR (t := 86) kX11_nears rfl rfl ?_
          refine fz_iload_n kX11_nears rfl rfl ?_
          refine fz_iload kX11_nears rfl rfl ?_
          refine fz_iast (n := 8) kX11_nears rfl rfl (by omega) (by omega) ?_
          refine fz_nmu (S := [(86, 99999), (87, 99999)]) (h0 := h) (fz_Iv_up hI (by decide) (show ((-2147483648) : Int) ≤ (fz_w ((h 86 (a.toNat)) + l)) by omega) (show ((fz_w ((h 86 (a.toNat)) + l)) : Int) ≤ 2147483647 by omega)) (fz_fr_up hf rfl) (fun H38 hI39 hf40 e41 => ?_)
          have hJ42 : fz_J H38 := by rw [e41]; exact fz_J_st (a := a.toNat) (l := l) hJ (by omega) (by omega) (by omega) (by omega) (by omega) (by omega)
          refine fz_aload_n kX11_nears rfl rfl ?_
          refine fz_getR (t := 87) kX11_nears rfl rfl ?_
          refine fz_iload_n kX11_nears rfl rfl ?_
          refine fz_aload_n kX11_nears rfl rfl ?_
          refine fz_getR (t := 87) kX11_nears rfl rfl ?_
          refine fz_iload_n kX11_nears rfl rfl ?_
          obtain ⟨v45, e46⟩ : ∃ z, H38 87 (a.toNat) = z := ⟨_, rfl⟩
          refine fz_ialdV (n := 8) (v := v45) kX11_nears rfl rfl (by omega) (by omega) e46 ?_
          have b47 : (-2147483648) ≤ v45 ∧ v45 ≤ 2147483647 := by rw [← e46]; exact hI39.1 87 _
          have k48 : v45 = h 87 a.toNat := by rw [← e46, e41]; exact fz_up_o (by decide)
          refine fz_iconst ⟨by decide, by decide⟩ kX11_nears rfl ?_
          refine fz_iadd kX11_nears rfl ?_
          have b50 := fz_w_b (v45 + 1)
          refine fz_iast (n := 8) kX11_nears rfl rfl (by omega) (by omega) ?_
          refine fz_nmu (S := [(86, 99999), (87, 99999)]) (h0 := h) (fz_Iv_up hI39 (by decide) (show ((-2147483648) : Int) ≤ (fz_w (v45 + 1)) by omega) (show ((fz_w (v45 + 1)) : Int) ≤ 2147483647 by omega)) (fz_fr_up hf40 rfl) (fun H51 hI52 hf53 e54 => ?_)
          have hJ55 : fz_J H51 := fz_J_eq (by rw [e54]; exact fz_up_ne (by decide)) hJ42
          have hJk56 : fz_Jk H51 := by exact fz_Jk_st (a := a.toNat) (b := b.toNat) (l := l) hJk (by omega) (by omega) (by omega) (by omega) (by omega) (by omega) (by rw [k48]) (by rw [k48]; omega) e41 e54
          have k58 := fz_mu_st (h := h) (b := b.toNat) (by omega) (by omega) (hI.1 87 _) (by omega) (by rw [k48]; omega) e41 e54
          refine fz_iconst ⟨by decide, by decide⟩ kX11_nears rfl ?_
          exact fz_zret kX11_nears rfl rfl (by omega) ⟨hI52, hf53, hJ55, hJk56, _, rfl, (by omega), (by omega), (by first | exact Or.inr ⟨rfl, by omega, fz_up_Ma e41 e54 (by decide) rfl k6, fz_up_Mb e41 e54 (by decide) rfl (by rw [k48]), by omega⟩ | exact Or.inl ⟨rfl, rfl, rfl, (by unfold fz_rx; omega)⟩)⟩
        · refine fz_aload_n kX11_nears rfl rfl ?_
          refine fz_getR (t := 87) kX11_nears rfl rfl ?_
          refine fz_iload_n kX11_nears rfl rfl ?_
          refine fz_ialdV (n := 8) (v := h 87 (b.toNat)) kX11_nears rfl rfl (by omega) (by omega) rfl ?_
          have b61 : (-2147483648) ≤ h 87 (b.toNat) ∧ h 87 (b.toNat) ≤ 2147483647 := hI.1 87 _
          refine fz_aload_n kX11_nears rfl rfl ?_
          refine fz_getR (t := 87) kX11_nears rfl rfl ?_
          refine fz_iload_n kX11_nears rfl rfl ?_
          refine fz_ialdV (n := 8) (v := h 87 (a.toNat)) kX11_nears rfl rfl (by omega) (by omega) rfl ?_
          have b62 : (-2147483648) ≤ h 87 (a.toNat) ∧ h 87 (a.toNat) ≤ 2147483647 := hI.1 87 _
          refine fz_iconst ⟨by decide, by decide⟩ kX11_nears rfl ?_
          refine fz_iadd kX11_nears rfl ?_
          have b63 := fz_w_b ((h 87 (a.toNat)) + 1)
          have k64 := fz_Jk_b hJk (x := a) (by omega)
          have k65 : fz_w (h 87 a.toNat + 1) = h 87 a.toNat + 1 := fz_w_id (by omega) (by omega)
          refine fz_icmp_gt (tgt := 75) kX11_nears rfl (by decide) (fun c66 => ?_) (fun c66 => ?_)
          · have k67 := fz_J_b hJ (x := b) (by omega)
            refine fz_aload_n kX11_nears rfl rfl ?_
            refine fz_getR (t := 86) kX11_nears rfl rfl ?_
            refine fz_iload_n kX11_nears rfl rfl ?_
            refine fz_iload kX11_nears rfl rfl ?_
            refine fz_iast (n := 8) kX11_nears rfl rfl (by omega) (by omega) ?_
            refine fz_nmu (S := [(86, 99999), (87, 99999)]) (h0 := h) (fz_Iv_up hI (by decide) (show ((-2147483648) : Int) ≤ (fz_w ((h 86 (a.toNat)) + l)) by omega) (show ((fz_w ((h 86 (a.toNat)) + l)) : Int) ≤ 2147483647 by omega)) (fz_fr_up hf rfl) (fun H68 hI69 hf70 e71 => ?_)
            have hJ72 : fz_J H68 := by rw [e71]; exact fz_J_st (a := a.toNat) (l := l) hJ (by omega) (by omega) (by omega) (by omega) (by omega) (by omega)
            refine fz_aload_n kX11_nears rfl rfl ?_
            refine fz_getR (t := 87) kX11_nears rfl rfl ?_
            refine fz_iload_n kX11_nears rfl rfl ?_
            refine fz_aload_n kX11_nears rfl rfl ?_
            refine fz_getR (t := 87) kX11_nears rfl rfl ?_
            refine fz_iload_n kX11_nears rfl rfl ?_
            obtain ⟨v75, e76⟩ : ∃ z, H68 87 (a.toNat) = z := ⟨_, rfl⟩
            refine fz_ialdV (n := 8) (v := v75) kX11_nears rfl rfl (by omega) (by omega) e76 ?_
            have b77 : (-2147483648) ≤ v75 ∧ v75 ≤ 2147483647 := by rw [← e76]; exact hI69.1 87 _
            have k78 : v75 = h 87 a.toNat := by rw [← e76, e71]; exact fz_up_o (by decide)
            refine fz_iconst ⟨by decide, by decide⟩ kX11_nears rfl ?_
            refine fz_iadd kX11_nears rfl ?_
            have b80 := fz_w_b (v75 + 1)
            refine fz_iast (n := 8) kX11_nears rfl rfl (by omega) (by omega) ?_
            refine fz_nmu (S := [(86, 99999), (87, 99999)]) (h0 := h) (fz_Iv_up hI69 (by decide) (show ((-2147483648) : Int) ≤ (fz_w (v75 + 1)) by omega) (show ((fz_w (v75 + 1)) : Int) ≤ 2147483647 by omega)) (fz_fr_up hf70 rfl) (fun H81 hI82 hf83 e84 => ?_)
            have hJ85 : fz_J H81 := fz_J_eq (by rw [e84]; exact fz_up_ne (by decide)) hJ72
            have hJk86 : fz_Jk H81 := by exact fz_Jk_st (a := a.toNat) (b := b.toNat) (l := l) hJk (by omega) (by omega) (by omega) (by omega) (by omega) (by omega) (by rw [k78]) (by rw [k78]; omega) e71 e84
            have k88 := fz_mu_st (h := h) (b := b.toNat) (by omega) (by omega) (hI.1 87 _) (by omega) (by rw [k78]; omega) e71 e84
            refine fz_iconst ⟨by decide, by decide⟩ kX11_nears rfl ?_
            exact fz_zret kX11_nears rfl rfl (by omega) ⟨hI82, hf83, hJ85, hJk86, _, rfl, (by omega), (by omega), (by first | exact Or.inr ⟨rfl, by omega, fz_up_Ma e71 e84 (by decide) rfl k6, fz_up_Mb e71 e84 (by decide) rfl (by rw [k78]), by omega⟩ | exact Or.inl ⟨rfl, rfl, rfl, (by unfold fz_rx; omega)⟩)⟩
          · refine fz_iconst ⟨by decide, by decide⟩ kX11_nears rfl ?_
            exact fz_zret kX11_nears rfl rfl (by omega) ⟨hI, hf, hJ, hJk, _, rfl, (by omega), (by omega), (by first | exact Or.inr ⟨rfl, by omega, fz_up_Ma lost lost (by decide) rfl k6, fz_up_Mb lost lost (by decide) rfl (by rw [lost]), by omega⟩ | exact Or.inl ⟨rfl, rfl, rfl, (by unfold fz_rx; omega)⟩)⟩
  · refine fz_iconst ⟨by decide, by decide⟩ kX11_nears rfl ?_
    exact fz_zret kX11_nears rfl rfl (by omega) ⟨hI, hf, hJ, hJk, _, rfl, (by omega), (by omega), (by first | exact Or.inr ⟨rfl, by omega, fz_up_Ma lost lost (by decide) rfl lost, fz_up_Mb lost lost (by decide) rfl (by rw [lost]), by omega⟩ | exact Or.inl ⟨rfl, rfl, rfl, (by unfold fz_rx; omega)⟩)⟩

abbrev qX11_goesFrom_k (h : fz_H) (t ca : Int) : fz_H → Option fz_V → Prop := fun h' r0 => fz_Iv h' ∧ fz_fr [(86, 99999), (87, 99999)] h h' ∧ fz_RM h' ∧ r0 = none ∧ fz_Jk h' ∧ fz_gf h h' t ca
set_option maxHeartbeats 1000000 in
set_option maxRecDepth 100000 in
theorem sX11_goesFrom_k (h : fz_H) (hI : fz_Iv h) (t ca : Int) (hRM : fz_RM h) (hp0 : 0 ≤ t ∧ t ≤ 7) (hp1 : 0 ≤ ca ∧ ca ≤ 1) : fz_R 1 mX11_goesFrom 0 [(0, fz_r 53), (1, fz_i t), (2, fz_i ca)] [] h (qX11_goesFrom_k h t ca) := by
  refine fz_knowl (fun hk => ?_)
  have hr_t : -2147483648 ≤ t ∧ t < 2147483648 := hk _ (List.Mem.tail _ (List.Mem.head _))
  have hr_ca : -2147483648 ≤ ca ∧ ca < 2147483648 := hk _ (List.Mem.tail _ (List.Mem.tail _ (List.Mem.head _)))
  clear hk
  have hf : fz_fr [(86, 99999), (87, 99999)] h h := fz_fr_rf
  have k1 : 0 ≤ h 53 0 ∧ h 53 0 ≤ 8 := hI.1 53 _
  have k2 : 0 ≤ h 53 2 ∧ h 53 2 ≤ 12 := hI.1 53 _
  refine fz_iconst ⟨by decide, by decide⟩ kX11_goesFrom rfl ?_
  refine fz_istore_n (ls' := [(3, fz_i 0), (0, fz_r 53), (1, fz_i t), (2, fz_i ca)]) kX11_goesFrom rfl (by decide) rfl ?_
  have lp9 : ∀ (n8 : Nat) (x3 : Int) (H5 : fz_H), fz_Iv H5 → fz_fr [(86, 99999), (87, 99999)] h H5 → fz_RM H5 → (0 ≤ x3 ∧ x3 ≤ 2147483647) → (fz_K H5 x3) → (8 - x3).toNat < n8 → fz_R 1 mX11_goesFrom 2 [(3, fz_i x3), (0, fz_r 53), (1, fz_i t), (2, fz_i ca)] [] H5 (qX11_goesFrom_k h t ca) := by
    intro n8
    induction n8 with
    | zero => intro x3 H5 hI6 hf7 hRM4 hv12 hv13 hm11; exact absurd hm11 (by omega)
    | succ n8 ih10 =>
      intro x3 H5 hI6 hf7 hRM4 hv12 hv13 hm11
      refine fz_iload_n kX11_goesFrom rfl rfl ?_
      refine fz_bipush ⟨by decide, by decide⟩ kX11_goesFrom rfl ?_
      refine fz_icmp_ge (tgt := 22) kX11_goesFrom rfl (by decide) (fun c14 => ?_) (fun c14 => ?_)
      · refine fz_aload_n kX11_goesFrom rfl rfl ?_
        refine fz_getR (t := 86) kX11_goesFrom rfl rfl ?_
        refine fz_iload_n kX11_goesFrom rfl rfl ?_
        refine fz_iconst ⟨by decide, by decide⟩ kX11_goesFrom rfl ?_
        refine fz_iast (n := 8) kX11_goesFrom rfl rfl (by omega) (by omega) ?_
        refine fz_nmu (S := [(86, 99999), (87, 99999)]) (h0 := h) (fz_Iv_up hI6 (by decide) (show ((-2147483648) : Int) ≤ 0 by decide) (show (0 : Int) ≤ 2147483647 by decide)) (fz_fr_up hf7 rfl) (fun H15 hI16 hf17 e18 => ?_)
        have hRM19 : fz_RM H15 := fz_RM_eq (by rw [e18]; exact fz_up_ne (by decide)) (by rw [e18]; exact fz_up_ne (by decide)) (by rw [e18]; exact fz_up_o (by decide)) (by rw [e18]; exact fz_up_o (by decide)) hRM4
        have hJ20 : fz_J H15 := by rw [e18]; exact fz_J_0 hv13 (by omega) (by omega)
        refine fz_aload_n kX11_goesFrom rfl rfl ?_
        refine fz_getR (t := 87) kX11_goesFrom rfl rfl ?_
        refine fz_iload_n kX11_goesFrom rfl rfl ?_
        refine fz_iconst ⟨by decide, by decide⟩ kX11_goesFrom rfl ?_
        refine fz_iast (n := 8) kX11_goesFrom rfl rfl (by omega) (by omega) ?_
        refine fz_nmu (S := [(86, 99999), (87, 99999)]) (h0 := h) (fz_Iv_up hI16 (by decide) (show ((-2147483648) : Int) ≤ 0 by decide) (show (0 : Int) ≤ 2147483647 by decide)) (fz_fr_up hf17 rfl) (fun H22 hI23 hf24 e25 => ?_)
        have hRM26 : fz_RM H22 := fz_RM_eq (by rw [e25]; exact fz_up_ne (by decide)) (by rw [e25]; exact fz_up_ne (by decide)) (by rw [e25]; exact fz_up_o (by decide)) (by rw [e25]; exact fz_up_o (by decide)) hRM19
        have hJ27 : fz_J H22 := fz_J_eq (by rw [e25]; exact fz_up_ne (by decide)) hJ20
        have hJk28 : fz_Jk H22 := by exact fz_Jk_0 hv13 (by omega) (by omega) e18 e25
        refine fz_iconst ⟨by decide, by decide⟩ kX11_goesFrom rfl ?_
        refine fz_istore_n (ls' := [(3, fz_i 1), (0, fz_r 53), (1, fz_i t), (2, fz_i ca)]) kX11_goesFrom rfl (by decide) rfl ?_
        have lp38 : ∀ (n37 : Nat) (x30 : Int) (H34 : fz_H), fz_Iv H34 → fz_fr [(86, 99999), (87, 99999)] h H34 → fz_RM H34 → fz_J H34 → fz_Jk H34 → (0 ≤ x30 ∧ x30 ≤ 1) → (fz_Jw (fz_EM h ca) (h 53 0).toNat t.toNat H34) → ((x30 = 0 → fz_rxs h H34 ca (h 53 2))) → (fz_mu H34 + x30).toNat < n37 → fz_R 1 mX11_goesFrom 38 [(3, fz_i x30), (0, fz_r 53), (1, fz_i t), (2, fz_i ca)] [] H34 (qX11_goesFrom_k h t ca) := by
          intro n37
          induction n37 with
          | zero => intro x30 H34 hI35 hf36 hRM31 hJ32 hJk33 hv41 hv42 hv43 hm40; exact absurd hm40 (by omega)
          | succ n37 ih39 =>
            intro x30 H34 hI35 hf36 hRM31 hJ32 hJk33 hv41 hv42 hv43 hm40
            refine fz_iload_n kX11_goesFrom rfl rfl ?_
            refine fz_if_eq (tgt := 142) kX11_goesFrom rfl (by decide) (fun c44 => ?_) (fun c44 => ?_)
            · exact fz_vret kX11_goesFrom rfl rfl ⟨hI35, hf36, hRM31, rfl, (by exact hJk33), (by exact ⟨hv42, hv43 (by omega), fz_J_c hJ32⟩)⟩
            · obtain ⟨k47, k48⟩ : ∃ z, z = fz_mu H34 := ⟨_, rfl⟩
              have k50 := fz_mu_nn H34
              refine fz_iconst ⟨by decide, by decide⟩ kX11_goesFrom rfl ?_
              refine fz_istore_n (ls' := [(3, fz_i 0), (0, fz_r 53), (1, fz_i t), (2, fz_i ca)]) kX11_goesFrom rfl (by decide) rfl ?_
              refine fz_iconst ⟨by decide, by decide⟩ kX11_goesFrom rfl ?_
              refine fz_istore (ls' := [(4, fz_i 0), (3, fz_i 0), (0, fz_r 53), (1, fz_i t), (2, fz_i ca)]) kX11_goesFrom rfl (by decide) rfl ?_
              have lp60 : ∀ (n59 : Nat) (x51 : Int) (x52 : Int) (H56 : fz_H), fz_Iv H56 → fz_fr [(86, 99999), (87, 99999)] h H56 → fz_RM H56 → fz_J H56 → fz_Jk H56 → (0 ≤ x51 ∧ x51 ≤ 2147483647) → (0 ≤ x52 ∧ x52 ≤ 1) → (fz_mu H56 + x52 ≤ k47) → (x51 ≤ h 53 2) → (fz_Jw (fz_EM h ca) (h 53 0).toNat t.toNat H56) → ((x52 = 0 → fz_rxs h H56 ca x51)) → ((h 53 2) - x51).toNat < n59 → fz_R 1 mX11_goesFrom 47 [(4, fz_i x51), (3, fz_i x52), (0, fz_r 53), (1, fz_i t), (2, fz_i ca)] [] H56 (qX11_goesFrom_k h t ca) := by
                intro n59
                induction n59 with
                | zero => intro x51 x52 H56 hI57 hf58 hRM53 hJ54 hJk55 hv63 hv64 hv65 hv66 hv67 hv68 hm62; exact absurd hm62 (by omega)
                | succ n59 ih61 =>
                  intro x51 x52 H56 hI57 hf58 hRM53 hJ54 hJk55 hv63 hv64 hv65 hv66 hv67 hv68 hm62
                  refine fz_iload kX11_goesFrom rfl rfl ?_
                  refine fz_aload_n kX11_goesFrom rfl rfl ?_
                  refine fz_getV (v := h 53 2) kX11_goesFrom rfl rfl (hf58 53 2 rfl) ?_
                  have b69 : 0 ≤ h 53 2 ∧ h 53 2 ≤ 12 := hI.1 53 _
                  refine fz_icmp_ge (tgt := 139) kX11_goesFrom rfl (by decide) (fun c70 => ?_) (fun c70 => ?_)
                  · refine fz_goto (tgt := 38) kX11_goesFrom rfl (by decide) ?_
                    refine fz_sub (fz_pk_sub (ls' := [(3, fz_i x52), (0, fz_r 53), (1, fz_i t), (2, fz_i ca)]) [1, 2, 3, 4] rfl) ?_
                    exact ih39 x52 H56 hI57 hf58 hRM53 hJ54 hJk55 (by omega) (hv67) (fun z => fz_rxs_n (hv68 z) (by omega)) (by omega)
                  · refine fz_iload_n kX11_goesFrom rfl rfl ?_
                    refine fz_if_eq (tgt := 73) kX11_goesFrom rfl (by decide) (fun c73 => ?_) (fun c73 => ?_)
                    · refine fz_aload_n kX11_goesFrom rfl rfl ?_
                      refine fz_aload_n kX11_goesFrom rfl rfl ?_
                      refine fz_getR (t := 55) kX11_goesFrom rfl rfl ?_
                      refine fz_iload kX11_goesFrom rfl rfl ?_
                      refine fz_ialdV (n := 12) (v := h 55 (x51.toNat)) kX11_goesFrom rfl rfl (by omega) (by omega) (hf58 55 _ rfl) ?_
                      have b74 : 0 ≤ h 55 (x51.toNat) ∧ h 55 (x51.toNat) ≤ 7 := hI.1 55 _
                      refine fz_aload_n kX11_goesFrom rfl rfl ?_
                      refine fz_getR (t := 56) kX11_goesFrom rfl rfl ?_
                      refine fz_iload kX11_goesFrom rfl rfl ?_
                      refine fz_ialdV (n := 12) (v := h 56 (x51.toNat)) kX11_goesFrom rfl rfl (by omega) (by omega) (hf58 56 _ rfl) ?_
                      have b75 : 0 ≤ h 56 (x51.toNat) ∧ h 56 (x51.toNat) ≤ 7 := hI.1 56 _
                      refine fz_aload_n kX11_goesFrom rfl rfl ?_
                      refine fz_iload kX11_goesFrom rfl rfl ?_
                      refine fz_iload_n kX11_goesFrom rfl rfl ?_
                      refine fz_callV (d' := 0) (M' := mX11_hoursOf) (As := [fz_i x51, fz_i ca]) (st := [fz_i (h 56 (x51.toNat)), fz_i (h 55 (x51.toNat)), fz_r 53]) kX11_goesFrom rfl rfl vX11_hoursOf rfl rfl rfl rfl (Nat.le_of_ble_eq_true rfl) (Nat.le_of_ble_eq_true rfl) (by decide) (sX11_hoursOf H56 hI57 x51 ca (by omega)) (fun H76 r77 q78 o79 => ?_)
                      obtain ⟨e80, y83, rfl, f81, f82⟩ := q78
                      subst H76
                      clear o79
                      have k84 : y83 = (if ca = 0 then h 57 (x51).toNat else (h 57 (x51).toNat + 1) / 2) := by have z := f82; rw [hf58 57 _ rfl] at z; exact z
                      have k86 : 0 ≤ h 57 (x51).toNat ∧ h 57 (x51).toNat ≤ 24 := hI.1 57 _
                      refine fz_callV (d' := 0) (M' := mX11_nears) (As := [fz_i (h 55 (x51.toNat)), fz_i (h 56 (x51.toNat)), fz_i y83]) (st := []) kX11_goesFrom rfl rfl vX11_nears rfl rfl rfl rfl (Nat.le_of_ble_eq_true rfl) (Nat.le_of_ble_eq_true rfl) (by decide) (sX11_nears_k H56 hI57 (h 55 (x51.toNat)) (h 56 (x51.toNat)) y83 hJ54 hJk55 (by omega) (by omega) (by omega)) (fun H87 r88 q89 o90 => ?_)
                      obtain ⟨hI91, hf92, hJ93, hJk94, y97, rfl, p98, f95, f96⟩ := q89
                      clear o90
                      have hf99 := fz_fr_tr hf58 hf92 (show fz_su [(86, 99999), (87, 99999)] [(86, 99999), (87, 99999)] = true from rfl)
                      have hRM100 : fz_RM H87 := fz_RM_eq (funext fun s => hf92 55 s rfl) (funext fun s => hf92 56 s rfl) (hf92 53 0 rfl) (hf92 53 2 rfl) hRM53
                      have k101 := fz_Jw_nr hv67 f96 (fz_EM_d hRM (fun r => (hI.1 57 r).1) (fun r => ⟨(hI.1 55 r).1, (hI.1 56 r).1⟩)) (by omega) (fz_EM_1 (r := x51) (by omega) (by omega) k84 ⟨(hI.1 55 _).1, (hI.1 56 _).1⟩).1 (by omega) (by omega) hJk94
                      refine fz_if_eq (tgt := 103) kX11_goesFrom rfl (by decide) (fun c103 => ?_) (fun c103 => ?_)
                      · refine fz_aload_n kX11_goesFrom rfl rfl ?_
                        refine fz_aload_n kX11_goesFrom rfl rfl ?_
                        refine fz_getR (t := 56) kX11_goesFrom rfl rfl ?_
                        refine fz_iload kX11_goesFrom rfl rfl ?_
                        refine fz_ialdV (n := 12) (v := h 56 (x51.toNat)) kX11_goesFrom rfl rfl (by omega) (by omega) (hf99 56 _ rfl) ?_
                        refine fz_aload_n kX11_goesFrom rfl rfl ?_
                        refine fz_getR (t := 55) kX11_goesFrom rfl rfl ?_
                        refine fz_iload kX11_goesFrom rfl rfl ?_
                        refine fz_ialdV (n := 12) (v := h 55 (x51.toNat)) kX11_goesFrom rfl rfl (by omega) (by omega) (hf99 55 _ rfl) ?_
                        refine fz_aload_n kX11_goesFrom rfl rfl ?_
                        refine fz_iload kX11_goesFrom rfl rfl ?_
                        refine fz_iload_n kX11_goesFrom rfl rfl ?_
                        refine fz_callV (d' := 0) (M' := mX11_hoursOf) (As := [fz_i x51, fz_i ca]) (st := [fz_i (h 55 (x51.toNat)), fz_i (h 56 (x51.toNat)), fz_r 53]) kX11_goesFrom rfl rfl vX11_hoursOf rfl rfl rfl rfl (Nat.le_of_ble_eq_true rfl) (Nat.le_of_ble_eq_true rfl) (by decide) (sX11_hoursOf H87 hI91 x51 ca (by omega)) (fun H104 r105 q106 o107 => ?_)
                        obtain ⟨e108, y111, rfl, f109, f110⟩ := q106
                        subst H104
                        clear o107
                        have k112 : y111 = (if ca = 0 then h 57 (x51).toNat else (h 57 (x51).toNat + 1) / 2) := by have z := f110; rw [hf99 57 _ rfl] at z; exact z
                        have k114 : 0 ≤ h 57 (x51).toNat ∧ h 57 (x51).toNat ≤ 24 := hI.1 57 _
                        refine fz_callV (d' := 0) (M' := mX11_nears) (As := [fz_i (h 56 (x51.toNat)), fz_i (h 55 (x51.toNat)), fz_i y111]) (st := []) kX11_goesFrom rfl rfl vX11_nears rfl rfl rfl rfl (Nat.le_of_ble_eq_true rfl) (Nat.le_of_ble_eq_true rfl) (by decide) (sX11_nears_k H87 hI91 (h 56 (x51.toNat)) (h 55 (x51.toNat)) y111 hJ93 hJk94 (by omega) (by omega) (by omega)) (fun H115 r116 q117 o118 => ?_)
                        obtain ⟨hI119, hf120, hJ121, hJk122, y125, rfl, p126, f123, f124⟩ := q117
                        clear o118
                        have hf127 := fz_fr_tr hf99 hf120 (show fz_su [(86, 99999), (87, 99999)] [(86, 99999), (87, 99999)] = true from rfl)
                        have hRM128 : fz_RM H115 := fz_RM_eq (funext fun s => hf120 55 s rfl) (funext fun s => hf120 56 s rfl) (hf120 53 0 rfl) (hf120 53 2 rfl) hRM100
                        have k129 := fz_Jw_nr k101 f124 (fz_EM_d hRM (fun r => (hI.1 57 r).1) (fun r => ⟨(hI.1 55 r).1, (hI.1 56 r).1⟩)) (by omega) (fz_EM_1 (r := x51) (by omega) (by omega) k112 ⟨(hI.1 55 _).1, (hI.1 56 _).1⟩).2 (by omega) (by omega) hJk122
                        refine fz_if_eq (tgt := 133) kX11_goesFrom rfl (by decide) (fun c131 => ?_) (fun c131 => ?_)
                        · refine fz_iincN (ls' := [(4, fz_i (x51 + 1)), (3, fz_i x52), (0, fz_r 53), (1, fz_i t), (2, fz_i ca)]) kX11_goesFrom rfl (by decide) rfl (by omega) rfl ?_
                          refine fz_goto (tgt := 47) kX11_goesFrom rfl (by decide) ?_
                          exact ih61 (x51 + 1) x52 H115 hI119 hf127 hRM128 hJ121 hJk122 (by omega) (by omega) (by omega) (by omega) (by first | exact k129 | exact hv67) (by first | exact fun z => absurd z (by decide) | exact fun z => fz_rxs_2 (hv68 z) f96 f124 (by omega) (by omega) (by omega) k84 k112 | exact fun z => fz_rxs_skip (hv68 z) (by omega) (by omega)) (by omega)
                        · refine fz_iconst ⟨by decide, by decide⟩ kX11_goesFrom rfl ?_
                          refine fz_istore_n (ls' := [(3, fz_i 1), (4, fz_i x51), (0, fz_r 53), (1, fz_i t), (2, fz_i ca)]) kX11_goesFrom rfl (by decide) rfl ?_
                          refine fz_iincN (ls' := [(4, fz_i (x51 + 1)), (3, fz_i 1), (0, fz_r 53), (1, fz_i t), (2, fz_i ca)]) kX11_goesFrom rfl (by decide) rfl (by omega) rfl ?_
                          refine fz_goto (tgt := 47) kX11_goesFrom rfl (by decide) ?_
                          exact ih61 (x51 + 1) 1 H115 hI119 hf127 hRM128 hJ121 hJk122 (by omega) (by omega) (by omega) (by omega) (by first | exact k129 | exact hv67) (by first | exact fun z => absurd z (by decide) | exact fun z => fz_rxs_2 (hv68 z) f96 f124 (by omega) (by omega) (by omega) k84 k112 | exact fun z => fz_rxs_skip (hv68 z) (by omega) (by omega)) (by omega)
                      · refine fz_iconst ⟨by decide, by decide⟩ kX11_goesFrom rfl ?_
                        refine fz_istore_n (ls' := [(3, fz_i 1), (4, fz_i x51), (0, fz_r 53), (1, fz_i t), (2, fz_i ca)]) kX11_goesFrom rfl (by decide) rfl ?_
                        refine fz_aload_n kX11_goesFrom rfl rfl ?_
                        refine fz_aload_n kX11_goesFrom rfl rfl ?_
                        refine fz_getR (t := 56) kX11_goesFrom rfl rfl ?_
                        refine fz_iload kX11_goesFrom rfl rfl ?_
                        refine fz_ialdV (n := 12) (v := h 56 (x51.toNat)) kX11_goesFrom rfl rfl (by omega) (by omega) (hf99 56 _ rfl) ?_
                        refine fz_aload_n kX11_goesFrom rfl rfl ?_
                        refine fz_getR (t := 55) kX11_goesFrom rfl rfl ?_
                        refine fz_iload kX11_goesFrom rfl rfl ?_
                        refine fz_ialdV (n := 12) (v := h 55 (x51.toNat)) kX11_goesFrom rfl rfl (by omega) (by omega) (hf99 55 _ rfl) ?_
                        refine fz_aload_n kX11_goesFrom rfl rfl ?_
                        refine fz_iload kX11_goesFrom rfl rfl ?_
                        refine fz_iload_n kX11_goesFrom rfl rfl ?_
                        refine fz_callV (d' := 0) (M' := mX11_hoursOf) (As := [fz_i x51, fz_i ca]) (st := [fz_i (h 55 (x51.toNat)), fz_i (h 56 (x51.toNat)), fz_r 53]) kX11_goesFrom rfl rfl vX11_hoursOf rfl rfl rfl rfl (Nat.le_of_ble_eq_true rfl) (Nat.le_of_ble_eq_true rfl) (by decide) (sX11_hoursOf H87 hI91 x51 ca (by omega)) (fun H136 r137 q138 o139 => ?_)
                        obtain ⟨e140, y143, rfl, f141, f142⟩ := q138
                        subst H136
                        clear o139
                        have k144 : y143 = (if ca = 0 then h 57 (x51).toNat else (h 57 (x51).toNat + 1) / 2) := by have z := f142; rw [hf99 57 _ rfl] at z; exact z
                        have k146 : 0 ≤ h 57 (x51).toNat ∧ h 57 (x51).toNat ≤ 24 := hI.1 57 _
                        refine fz_callV (d' := 0) (M' := mX11_nears) (As := [fz_i (h 56 (x51.toNat)), fz_i (h 55 (x51.toNat)), fz_i y143]) (st := []) kX11_goesFrom rfl rfl vX11_nears rfl rfl rfl rfl (Nat.le_of_ble_eq_true rfl) (Nat.le_of_ble_eq_true rfl) (by decide) (sX11_nears_k H87 hI91 (h 56 (x51.toNat)) (h 55 (x51.toNat)) y143 hJ93 hJk94 (by omega) (by omega) (by omega)) (fun H147 r148 q149 o150 => ?_)
                        obtain ⟨hI151, hf152, hJ153, hJk154, y157, rfl, p158, f155, f156⟩ := q149
                        clear o150
                        have hf159 := fz_fr_tr hf99 hf152 (show fz_su [(86, 99999), (87, 99999)] [(86, 99999), (87, 99999)] = true from rfl)
                        have hRM160 : fz_RM H147 := fz_RM_eq (funext fun s => hf152 55 s rfl) (funext fun s => hf152 56 s rfl) (hf152 53 0 rfl) (hf152 53 2 rfl) hRM100
                        have k161 := fz_Jw_nr k101 f156 (fz_EM_d hRM (fun r => (hI.1 57 r).1) (fun r => ⟨(hI.1 55 r).1, (hI.1 56 r).1⟩)) (by omega) (fz_EM_1 (r := x51) (by omega) (by omega) k144 ⟨(hI.1 55 _).1, (hI.1 56 _).1⟩).2 (by omega) (by omega) hJk154
                        refine fz_if_eq (tgt := 133) kX11_goesFrom rfl (by decide) (fun c163 => ?_) (fun c163 => ?_)
                        · refine fz_iincN (ls' := [(4, fz_i (x51 + 1)), (3, fz_i 1), (0, fz_r 53), (1, fz_i t), (2, fz_i ca)]) kX11_goesFrom rfl (by decide) rfl (by omega) rfl ?_
                          refine fz_goto (tgt := 47) kX11_goesFrom rfl (by decide) ?_
                          exact ih61 (x51 + 1) 1 H147 hI151 hf159 hRM160 hJ153 hJk154 (by omega) (by omega) (by omega) (by omega) (by first | exact k161 | exact hv67) (by first | exact fun z => absurd z (by decide) | exact fun z => fz_rxs_2 (hv68 z) f96 f156 (by omega) (by omega) (by omega) k84 k144 | exact fun z => fz_rxs_skip (hv68 z) (by omega) (by omega)) (by omega)
                        · refine fz_iconst ⟨by decide, by decide⟩ kX11_goesFrom rfl ?_
                          refine fz_istore_n (ls' := [(3, fz_i 1), (4, fz_i x51), (0, fz_r 53), (1, fz_i t), (2, fz_i ca)]) kX11_goesFrom rfl (by decide) rfl ?_
                          refine fz_iincN (ls' := [(4, fz_i (x51 + 1)), (3, fz_i 1), (0, fz_r 53), (1, fz_i t), (2, fz_i ca)]) kX11_goesFrom rfl (by decide) rfl (by omega) rfl ?_
                          refine fz_goto (tgt := 47) kX11_goesFrom rfl (by decide) ?_
                          exact ih61 (x51 + 1) 1 H147 hI151 hf159 hRM160 hJ153 hJk154 (by omega) (by omega) (by omega) (by omega) (by first | exact k161 | exact hv67) (by first | exact fun z => absurd z (by decide) | exact fun z => fz_rxs_2 (hv68 z) f96 f156 (by omega) (by omega) (by omega) k84 k144 | exact fun z => fz_rxs_skip (hv68 z) (by omega) (by omega)) (by omega)
                    · refine fz_aload_n kX11_goesFrom rfl rfl ?_
                      refine fz_getR (t := 58) kX11_goesFrom rfl rfl ?_
                      refine fz_iload kX11_goesFrom rfl rfl ?_
                      refine fz_ialdV (n := 12) (v := h 58 (x51.toNat)) kX11_goesFrom rfl rfl (by omega) (by omega) (hf58 58 _ rfl) ?_
                      have b168 : 0 ≤ h 58 (x51.toNat) ∧ h 58 (x51.toNat) ≤ 1 := hI.1 58 _
                      refine fz_if_ne (tgt := 73) kX11_goesFrom rfl (by decide) (fun c169 => ?_) (fun c169 => ?_)
                      · refine fz_aload_n kX11_goesFrom rfl rfl ?_
                        refine fz_aload_n kX11_goesFrom rfl rfl ?_
                        refine fz_getR (t := 55) kX11_goesFrom rfl rfl ?_
                        refine fz_iload kX11_goesFrom rfl rfl ?_
                        refine fz_ialdV (n := 12) (v := h 55 (x51.toNat)) kX11_goesFrom rfl rfl (by omega) (by omega) (hf58 55 _ rfl) ?_
                        have b170 : 0 ≤ h 55 (x51.toNat) ∧ h 55 (x51.toNat) ≤ 7 := hI.1 55 _
                        refine fz_aload_n kX11_goesFrom rfl rfl ?_
                        refine fz_getR (t := 56) kX11_goesFrom rfl rfl ?_
                        refine fz_iload kX11_goesFrom rfl rfl ?_
                        refine fz_ialdV (n := 12) (v := h 56 (x51.toNat)) kX11_goesFrom rfl rfl (by omega) (by omega) (hf58 56 _ rfl) ?_
                        have b171 : 0 ≤ h 56 (x51.toNat) ∧ h 56 (x51.toNat) ≤ 7 := hI.1 56 _
                        refine fz_aload_n kX11_goesFrom rfl rfl ?_
                        refine fz_iload kX11_goesFrom rfl rfl ?_
                        refine fz_iload_n kX11_goesFrom rfl rfl ?_
                        refine fz_callV (d' := 0) (M' := mX11_hoursOf) (As := [fz_i x51, fz_i ca]) (st := [fz_i (h 56 (x51.toNat)), fz_i (h 55 (x51.toNat)), fz_r 53]) kX11_goesFrom rfl rfl vX11_hoursOf rfl rfl rfl rfl (Nat.le_of_ble_eq_true rfl) (Nat.le_of_ble_eq_true rfl) (by decide) (sX11_hoursOf H56 hI57 x51 ca (by omega)) (fun H172 r173 q174 o175 => ?_)
                        obtain ⟨e176, y179, rfl, f177, f178⟩ := q174
                        subst H172
                        clear o175
                        have k180 : y179 = (if ca = 0 then h 57 (x51).toNat else (h 57 (x51).toNat + 1) / 2) := by have z := f178; rw [hf58 57 _ rfl] at z; exact z
                        have k182 : 0 ≤ h 57 (x51).toNat ∧ h 57 (x51).toNat ≤ 24 := hI.1 57 _
                        refine fz_callV (d' := 0) (M' := mX11_nears) (As := [fz_i (h 55 (x51.toNat)), fz_i (h 56 (x51.toNat)), fz_i y179]) (st := []) kX11_goesFrom rfl rfl vX11_nears rfl rfl rfl rfl (Nat.le_of_ble_eq_true rfl) (Nat.le_of_ble_eq_true rfl) (by decide) (sX11_nears_k H56 hI57 (h 55 (x51.toNat)) (h 56 (x51.toNat)) y179 hJ54 hJk55 (by omega) (by omega) (by omega)) (fun H183 r184 q185 o186 => ?_)
                        obtain ⟨hI187, hf188, hJ189, hJk190, y193, rfl, p194, f191, f192⟩ := q185
                        clear o186
                        have hf195 := fz_fr_tr hf58 hf188 (show fz_su [(86, 99999), (87, 99999)] [(86, 99999), (87, 99999)] = true from rfl)
                        have hRM196 : fz_RM H183 := fz_RM_eq (funext fun s => hf188 55 s rfl) (funext fun s => hf188 56 s rfl) (hf188 53 0 rfl) (hf188 53 2 rfl) hRM53
                        have k197 := fz_Jw_nr hv67 f192 (fz_EM_d hRM (fun r => (hI.1 57 r).1) (fun r => ⟨(hI.1 55 r).1, (hI.1 56 r).1⟩)) (by omega) (fz_EM_1 (r := x51) (by omega) (by omega) k180 ⟨(hI.1 55 _).1, (hI.1 56 _).1⟩).1 (by omega) (by omega) hJk190
                        refine fz_if_eq (tgt := 103) kX11_goesFrom rfl (by decide) (fun c199 => ?_) (fun c199 => ?_)
                        · refine fz_aload_n kX11_goesFrom rfl rfl ?_
                          refine fz_aload_n kX11_goesFrom rfl rfl ?_
                          refine fz_getR (t := 56) kX11_goesFrom rfl rfl ?_
                          refine fz_iload kX11_goesFrom rfl rfl ?_
                          refine fz_ialdV (n := 12) (v := h 56 (x51.toNat)) kX11_goesFrom rfl rfl (by omega) (by omega) (hf195 56 _ rfl) ?_
                          refine fz_aload_n kX11_goesFrom rfl rfl ?_
                          refine fz_getR (t := 55) kX11_goesFrom rfl rfl ?_
                          refine fz_iload kX11_goesFrom rfl rfl ?_
                          refine fz_ialdV (n := 12) (v := h 55 (x51.toNat)) kX11_goesFrom rfl rfl (by omega) (by omega) (hf195 55 _ rfl) ?_
                          refine fz_aload_n kX11_goesFrom rfl rfl ?_
                          refine fz_iload kX11_goesFrom rfl rfl ?_
                          refine fz_iload_n kX11_goesFrom rfl rfl ?_
                          refine fz_callV (d' := 0) (M' := mX11_hoursOf) (As := [fz_i x51, fz_i ca]) (st := [fz_i (h 55 (x51.toNat)), fz_i (h 56 (x51.toNat)), fz_r 53]) kX11_goesFrom rfl rfl vX11_hoursOf rfl rfl rfl rfl (Nat.le_of_ble_eq_true rfl) (Nat.le_of_ble_eq_true rfl) (by decide) (sX11_hoursOf H183 hI187 x51 ca (by omega)) (fun H200 r201 q202 o203 => ?_)
                          obtain ⟨e204, y207, rfl, f205, f206⟩ := q202
                          subst H200
                          clear o203
                          have k208 : y207 = (if ca = 0 then h 57 (x51).toNat else (h 57 (x51).toNat + 1) / 2) := by have z := f206; rw [hf195 57 _ rfl] at z; exact z
                          have k210 : 0 ≤ h 57 (x51).toNat ∧ h 57 (x51).toNat ≤ 24 := hI.1 57 _
                          refine fz_callV (d' := 0) (M' := mX11_nears) (As := [fz_i (h 56 (x51.toNat)), fz_i (h 55 (x51.toNat)), fz_i y207]) (st := []) kX11_goesFrom rfl rfl vX11_nears rfl rfl rfl rfl (Nat.le_of_ble_eq_true rfl) (Nat.le_of_ble_eq_true rfl) (by decide) (sX11_nears_k H183 hI187 (h 56 (x51.toNat)) (h 55 (x51.toNat)) y207 hJ189 hJk190 (by omega) (by omega) (by omega)) (fun H211 r212 q213 o214 => ?_)
                          obtain ⟨hI215, hf216, hJ217, hJk218, y221, rfl, p222, f219, f220⟩ := q213
                          clear o214
                          have hf223 := fz_fr_tr hf195 hf216 (show fz_su [(86, 99999), (87, 99999)] [(86, 99999), (87, 99999)] = true from rfl)
                          have hRM224 : fz_RM H211 := fz_RM_eq (funext fun s => hf216 55 s rfl) (funext fun s => hf216 56 s rfl) (hf216 53 0 rfl) (hf216 53 2 rfl) hRM196
                          have k225 := fz_Jw_nr k197 f220 (fz_EM_d hRM (fun r => (hI.1 57 r).1) (fun r => ⟨(hI.1 55 r).1, (hI.1 56 r).1⟩)) (by omega) (fz_EM_1 (r := x51) (by omega) (by omega) k208 ⟨(hI.1 55 _).1, (hI.1 56 _).1⟩).2 (by omega) (by omega) hJk218
                          refine fz_if_eq (tgt := 133) kX11_goesFrom rfl (by decide) (fun c227 => ?_) (fun c227 => ?_)
                          · refine fz_iincN (ls' := [(4, fz_i (x51 + 1)), (3, fz_i x52), (0, fz_r 53), (1, fz_i t), (2, fz_i ca)]) kX11_goesFrom rfl (by decide) rfl (by omega) rfl ?_
                            refine fz_goto (tgt := 47) kX11_goesFrom rfl (by decide) ?_
                            exact ih61 (x51 + 1) x52 H211 hI215 hf223 hRM224 hJ217 hJk218 (by omega) (by omega) (by omega) (by omega) (by first | exact k225 | exact hv67) (by first | exact fun z => absurd z (by decide) | exact fun z => fz_rxs_2 (hv68 z) f192 f220 (by omega) (by omega) (by omega) k180 k208 | exact fun z => fz_rxs_skip (hv68 z) (by omega) (by omega)) (by omega)
                          · refine fz_iconst ⟨by decide, by decide⟩ kX11_goesFrom rfl ?_
                            refine fz_istore_n (ls' := [(3, fz_i 1), (4, fz_i x51), (0, fz_r 53), (1, fz_i t), (2, fz_i ca)]) kX11_goesFrom rfl (by decide) rfl ?_
                            refine fz_iincN (ls' := [(4, fz_i (x51 + 1)), (3, fz_i 1), (0, fz_r 53), (1, fz_i t), (2, fz_i ca)]) kX11_goesFrom rfl (by decide) rfl (by omega) rfl ?_
                            refine fz_goto (tgt := 47) kX11_goesFrom rfl (by decide) ?_
                            exact ih61 (x51 + 1) 1 H211 hI215 hf223 hRM224 hJ217 hJk218 (by omega) (by omega) (by omega) (by omega) (by first | exact k225 | exact hv67) (by first | exact fun z => absurd z (by decide) | exact fun z => fz_rxs_2 (hv68 z) f192 f220 (by omega) (by omega) (by omega) k180 k208 | exact fun z => fz_rxs_skip (hv68 z) (by omega) (by omega)) (by omega)
                        · refine fz_iconst ⟨by decide, by decide⟩ kX11_goesFrom rfl ?_
                          refine fz_istore_n (ls' := [(3, fz_i 1), (4, fz_i x51), (0, fz_r 53), (1, fz_i t), (2, fz_i ca)]) kX11_goesFrom rfl (by decide) rfl ?_
                          refine fz_aload_n kX11_goesFrom rfl rfl ?_
                          refine fz_aload_n kX11_goesFrom rfl rfl ?_
                          refine fz_getR (t := 56) kX11_goesFrom rfl rfl ?_
                          refine fz_iload kX11_goesFrom rfl rfl ?_
                          refine fz_ialdV (n := 12) (v := h 56 (x51.toNat)) kX11_goesFrom rfl rfl (by omega) (by omega) (hf195 56 _ rfl) ?_
                          refine fz_aload_n kX11_goesFrom rfl rfl ?_
                          refine fz_getR (t := 55) kX11_goesFrom rfl rfl ?_
                          refine fz_iload kX11_goesFrom rfl rfl ?_
                          refine fz_ialdV (n := 12) (v := h 55 (x51.toNat)) kX11_goesFrom rfl rfl (by omega) (by omega) (hf195 55 _ rfl) ?_
                          refine fz_aload_n kX11_goesFrom rfl rfl ?_
                          refine fz_iload kX11_goesFrom rfl rfl ?_
                          refine fz_iload_n kX11_goesFrom rfl rfl ?_
                          refine fz_callV (d' := 0) (M' := mX11_hoursOf) (As := [fz_i x51, fz_i ca]) (st := [fz_i (h 55 (x51.toNat)), fz_i (h 56 (x51.toNat)), fz_r 53]) kX11_goesFrom rfl rfl vX11_hoursOf rfl rfl rfl rfl (Nat.le_of_ble_eq_true rfl) (Nat.le_of_ble_eq_true rfl) (by decide) (sX11_hoursOf H183 hI187 x51 ca (by omega)) (fun H232 r233 q234 o235 => ?_)
                          obtain ⟨e236, y239, rfl, f237, f238⟩ := q234
                          subst H232
                          clear o235
                          have k240 : y239 = (if ca = 0 then h 57 (x51).toNat else (h 57 (x51).toNat + 1) / 2) := by have z := f238; rw [hf195 57 _ rfl] at z; exact z
                          have k242 : 0 ≤ h 57 (x51).toNat ∧ h 57 (x51).toNat ≤ 24 := hI.1 57 _
                          refine fz_callV (d' := 0) (M' := mX11_nears) (As := [fz_i (h 56 (x51.toNat)), fz_i (h 55 (x51.toNat)), fz_i y239]) (st := []) kX11_goesFrom rfl rfl vX11_nears rfl rfl rfl rfl (Nat.le_of_ble_eq_true rfl) (Nat.le_of_ble_eq_true rfl) (by decide) (sX11_nears_k H183 hI187 (h 56 (x51.toNat)) (h 55 (x51.toNat)) y239 hJ189 hJk190 (by omega) (by omega) (by omega)) (fun H243 r244 q245 o246 => ?_)
                          obtain ⟨hI247, hf248, hJ249, hJk250, y253, rfl, p254, f251, f252⟩ := q245
                          clear o246
                          have hf255 := fz_fr_tr hf195 hf248 (show fz_su [(86, 99999), (87, 99999)] [(86, 99999), (87, 99999)] = true from rfl)
                          have hRM256 : fz_RM H243 := fz_RM_eq (funext fun s => hf248 55 s rfl) (funext fun s => hf248 56 s rfl) (hf248 53 0 rfl) (hf248 53 2 rfl) hRM196
                          have k257 := fz_Jw_nr k197 f252 (fz_EM_d hRM (fun r => (hI.1 57 r).1) (fun r => ⟨(hI.1 55 r).1, (hI.1 56 r).1⟩)) (by omega) (fz_EM_1 (r := x51) (by omega) (by omega) k240 ⟨(hI.1 55 _).1, (hI.1 56 _).1⟩).2 (by omega) (by omega) hJk250
                          refine fz_if_eq (tgt := 133) kX11_goesFrom rfl (by decide) (fun c259 => ?_) (fun c259 => ?_)
                          · refine fz_iincN (ls' := [(4, fz_i (x51 + 1)), (3, fz_i 1), (0, fz_r 53), (1, fz_i t), (2, fz_i ca)]) kX11_goesFrom rfl (by decide) rfl (by omega) rfl ?_
                            refine fz_goto (tgt := 47) kX11_goesFrom rfl (by decide) ?_
                            exact ih61 (x51 + 1) 1 H243 hI247 hf255 hRM256 hJ249 hJk250 (by omega) (by omega) (by omega) (by omega) (by first | exact k257 | exact hv67) (by first | exact fun z => absurd z (by decide) | exact fun z => fz_rxs_2 (hv68 z) f192 f252 (by omega) (by omega) (by omega) k180 k240 | exact fun z => fz_rxs_skip (hv68 z) (by omega) (by omega)) (by omega)
                          · refine fz_iconst ⟨by decide, by decide⟩ kX11_goesFrom rfl ?_
                            refine fz_istore_n (ls' := [(3, fz_i 1), (4, fz_i x51), (0, fz_r 53), (1, fz_i t), (2, fz_i ca)]) kX11_goesFrom rfl (by decide) rfl ?_
                            refine fz_iincN (ls' := [(4, fz_i (x51 + 1)), (3, fz_i 1), (0, fz_r 53), (1, fz_i t), (2, fz_i ca)]) kX11_goesFrom rfl (by decide) rfl (by omega) rfl ?_
                            refine fz_goto (tgt := 47) kX11_goesFrom rfl (by decide) ?_
                            exact ih61 (x51 + 1) 1 H243 hI247 hf255 hRM256 hJ249 hJk250 (by omega) (by omega) (by omega) (by omega) (by first | exact k257 | exact hv67) (by first | exact fun z => absurd z (by decide) | exact fun z => fz_rxs_2 (hv68 z) f192 f252 (by omega) (by omega) (by omega) k180 k240 | exact fun z => fz_rxs_skip (hv68 z) (by omega) (by omega)) (by omega)
                      · refine fz_goto (tgt := 133) kX11_goesFrom rfl (by decide) ?_
                        refine fz_iincN (ls' := [(4, fz_i (x51 + 1)), (3, fz_i x52), (0, fz_r 53), (1, fz_i t), (2, fz_i ca)]) kX11_goesFrom rfl (by decide) rfl (by omega) rfl ?_
                        refine fz_goto (tgt := 47) kX11_goesFrom rfl (by decide) ?_
                        exact ih61 (x51 + 1) x52 H56 hI57 hf58 hRM53 hJ54 hJk55 (by omega) (by omega) (by omega) (by omega) (by first | exact lost | exact hv67) (by first | exact fun z => absurd z (by decide) | exact fun z => fz_rxs_2 (hv68 z) lost lost (by omega) (by omega) (by omega) lost lost | exact fun z => fz_rxs_skip (hv68 z) (by omega) (by omega)) (by omega)
              exact lp60 _ 0 0 H34 hI35 hf36 hRM31 hJ32 hJk33 (by omega) (by omega) (by omega) (by omega) (hv42) (fun _ => fz_rxs_0 (by omega)) (Nat.lt_succ_self _)
        exact lp38 _ 1 H22 hI23 hf24 hRM26 hJ27 hJk28 (by omega) (fz_Jw_0 hv13 (by omega) e18 e25) ((fun z => absurd z (by decide))) (Nat.lt_succ_self _)
      · refine fz_aload_n kX11_goesFrom rfl rfl ?_
        refine fz_getR (t := 86) kX11_goesFrom rfl rfl ?_
        refine fz_iload_n kX11_goesFrom rfl rfl ?_
        refine fz_bipush ⟨by decide, by decide⟩ kX11_goesFrom rfl ?_
        refine fz_iast (n := 8) kX11_goesFrom rfl rfl (by omega) (by omega) ?_
        refine fz_nmu (S := [(86, 99999), (87, 99999)]) (h0 := h) (fz_Iv_up hI6 (by decide) (show ((-2147483648) : Int) ≤ (-2) by decide) (show ((-2) : Int) ≤ 2147483647 by decide)) (fz_fr_up hf7 rfl) (fun H270 hI271 hf272 e273 => ?_)
        have hRM274 : fz_RM H270 := fz_RM_eq (by rw [e273]; exact fz_up_ne (by decide)) (by rw [e273]; exact fz_up_ne (by decide)) (by rw [e273]; exact fz_up_o (by decide)) (by rw [e273]; exact fz_up_o (by decide)) hRM4
        refine fz_iincN (ls' := [(3, fz_i (x3 + 1)), (0, fz_r 53), (1, fz_i t), (2, fz_i ca)]) kX11_goesFrom rfl (by decide) rfl (by omega) rfl ?_
        refine fz_goto (tgt := 2) kX11_goesFrom rfl (by decide) ?_
        exact ih10 (x3 + 1) H270 hI271 hf272 hRM274 (by omega) (by rw [e273]; exact fz_K_st hv13 (by omega)) (by omega)
  exact lp9 _ 0 h hI hf hRM (by omega) (fun _ z => by omega) (Nat.lt_succ_self _)
