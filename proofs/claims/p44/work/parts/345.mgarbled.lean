/-! ===== what the methods keep ===== -/
abbrev qX11_nears_k (h : fz_H) (a b l : Int) : fz_H → Option fz_V → Prop := fun h' r0 => fz_Iv h' ∧ fz_fr [(86, 99999), (87, 99999)] h h' ∧ fz_J h' ∧ fz_Jk h' ∧ ∃ r : Int, r0 = some (fz_i r) ∧ (r = 0 ∨ r = 1) ∧ (fz_mu h' + r ≤ fz_mu h)
set_option maxHeartbeats 1000000 in
set_option maxRecDepth 100000 in
theorem sX11_nears_k (h : fz_H) (hI : fz_Iv h) (a b l : Int) (hJ : fz_J h) (hJk : fz_Jk h) (hp0 : 0 ≤ a ∧ a ≤ 7) (hp1 : 0 ≤ b ∧ b ≤ 7) (hp2 : 0 ≤ l ∧ l ≤ 24) : fz_R 0 mX11_nears 0 [(0, fz_r 53), (1, fz_i a), (2, fz_i b), (3, fz_i l)] [] h (qX11_nears_k h a b l) := by
  refine fz_knowl (fun hk => ?_)
  have hr_a : -2147483648 ≤ a ∧ a < 2147483648 := hk _ (List.Mem.tail _ (List.Mem.head _))
  have hr_b : -2147483648 ≤ b ∧ b < 2147483648 := hk _ (List.Mem.tail _ (List.Mem.tail _ (List.Mem.head _)))
  have hr_l : -2147483648 ≤ l ∧ l < 2147483648 := hk _ (List.Mem.tail _ (List.Mem.tail _ (List.Mem.tail _ (List.Mem.head _))))
  clear hk
  have hf : fz_fr [(86, 99999), (87, 99999)] h h := fz_fr_rf
  refine fz_aload_n kX11_nears rfl rfl ?_
  refine fz_getR (t := 86) kX11_nears rfl rfl ?_
  refine fz_iload_n kX11_nears rfl rfl ?_
  refine fz_ialdV (n := 8) (v := h 86 (a.toNat)) kX11_nears rfl rfl (by omega) (by omega) rfl ?_
  have b1 : (-2147483648) ≤ h 86 (a.toNat) ∧ h 86 (a.toNat) ≤ 2147483647 := hI.1 86 _
  refine fz_bipush ⟨by decide, by decide⟩ kX11_nears rfl ?_
  refine fz_icmp_ne (tgt := 13) kX11_nears rfl (by decide) (fun c2 => ?_) (fun c2 => ?_)
  · refine fz_aload_n kX11_nears rfl rfl ?_
    refine fz_getR (t := 86) kX11_nears rfl rfl ?_
    refine fz_iload_n kX11_nears rfl rfl ?_
    refine fz_ialdV (n := 8) (v := h 86 (a.toNat)) kX11_nears rfl rfl (by omega) (by omega) rfl ?_
    refine fz_iload_n kX11_nears rfl rfl ?_
    have k3 := fz_J_b hJ (x := a) (by omega)
    refine fz_iadd kX11_nears rfl ?_
    have b4 := fz_w_b ((h 86 (a.toNat)) + l)
    have k5 : (fz_w ((h 86 (a.toNat)) + l)) = h 86 a.toNat + l := fz_w_id (by omega) (by omega)
    refine fz_istore (ls' := [(4, fz_i (fz_w ((h 86 (a.toNat)) + l))), (0, fz_r 53), (1, fz_i a), (2, fz_i b), (3, fz_i l)]) kX11_nears rfl (by decide) rfl ?_
    refine fz_aload_n kX11_nears rfl rfl ?_
    refine fz_getR (t := 86) kX11_nears rfl rfl ?_
    refine fz_iload_n kX11_nears rfl rfl ?_
    refine fz_ialdV (n := 8) (v := h 86 (b.toNat)) kX11_nears rfl rfl (by omega) (by omega) rfl ?_
    have b6 : (-2147483648) ≤ h 86 (b.toNat) ∧ h 86 (b.toNat) ≤ 2147483647 := hI.1 86 _
    refine fz_bipush ⟨by decide, by decide⟩ kX11_nears rfl ?_
    refine fz_icmp_eq (tgt := 75) kX11_nears rfl (by decide) (fun c7 => ?_) (fun c7 => ?_)
    · have k8 := fz_J_b hJ (x := b) (by omega)
      refine fz_aload_n kX11_nears rfl rfl ?_
      refine fz_getR (t := 86) kX11_nears rfl rfl ?_
      refine fz_iload_n kX11_nears rfl rfl ?_
      refine fz_iload kX11_nears rfl rfl ?_
      refine fz_iast (n := 8) kX11_nears rfl rfl (by omega) (by omega) ?_
      refine fz_nmu (S := [(86, 99999), (87, 99999)]) (h0 := h) (fz_Iv_up hI (by decide) (show ((-2147483648) : Int) ≤ (fz_w ((h 86 (a.toNat)) + l)) by omega) (show ((fz_w ((h 86 (a.toNat)) + l)) : Int) ≤ 2147483647 by omega)) (fz_fr_up hf rfl) (fun H9 hI10 hf11 e12 => ?_)
      have hJ13 : fz_J H9 := by rw [e12]; exact fz_J_st (a := a.toNat) (l := l) hJ (by omega) (by omega) (by omega) (by omega) (by omega) (by omega)
      refine fz_aload_n kX11_nears rfl rfl ?_
      refine fz_getR (t := 87) kX11_nears rfl rfl ?_
      refine fz_iload_n kX11_nears rfl rfl ?_
      refine fz_aload_n kX11_nears rfl rfl ?_
      refine fz_getR (t := 87) kX11_nears rfl rfl ?_
      refine fz_iload_n kX11_nears rfl rfl ?_
      obtain ⟨v16, e17⟩ : ∃ z, H9 87 (a.toNat) = z := ⟨_, rfl⟩
      refine fz_ialdV (n := 8) (v := v16) kX11_nears rfl rfl (by omega) (by omega) e17 ?_
      have b18 : (-2147483648) ≤ v16 ∧ v16 ≤ 2147483647 := by rw [← e17]; exact hI10.1 87 _
      have k19 : v16 = h 87 a.toNat := by rw [← e17, e12]; exact fz_up_o (by decide)
      refine fz_iconst ⟨by decide, by decide⟩ kX11_nears rfl ?_
      refine fz_iadd kX11_nears rfl ?_
      have b21 := fz_w_b (v16 + 1)
      refine fz_iast (n := 8) kX11_nears rfl rfl (by omega) (by omega) ?_
      refine fz_nmu (S := [(86, 99999), (87, 99999)]) (h0 := h) (fz_Iv_up hI10 (by decide) (show ((-2147483648) : Int) ≤ (fz_w (v16 + 1)) by omega) (show ((fz_w (v16 + 1)) : Int) ≤ 2147483647 by omega)) (fz_fr_up hf11 rfl) (fun H22 hI23 hf24 e25 => ?_)
      have hJ26 : fz_J H22 := fz_J_eq (by rw [e25]; exact fz_up_ne (by decide)) hJ13
      have hJk27 : fz_Jk H22 := by exact fz_Jk_st (a := a.toNat) (b := b.toNat) (l := l) hJk (by omega) (by omega) (by omega) (by omega) (by omega) (by omega) (by rw [k19]) (by rw [k19]; omega) e12 e25
      have k29 := fz_mu_st (h := h) (b := b.toNat) (by omega) (by omega) (hI.1 87 _) (by omega) (by rw [k19]; omega) e12 e25
      refine fz_iconst ⟨by decide, by decide⟩ kX11_nears rfl ?_
      exact fz_zret kX11_nears rfl rfl (by omega) ⟨hI23, hf24, hJ26, hJk27, _, rfl, (by omega), (by omega)⟩
    · refine fz_aload_n kX11_nears rfl rfl ?_
      refine fz_getR (t := 86) kX11_nears rfl rfl ?_
      refine fz_iload_n kX11_nears rfl rfl ?_
      refine fz_ialdV (n := 8) (v := h 86 (b.toNat)) kX11_nears rfl rfl (by omega) (by omega) rfl ?_
      refine fz_iload kX11_nears rfl rfl ?_
      refine fz_icmp_lt (tgt := 73) kX11_nears rfl (by decide) (fun c31 => ?_) (fun c31 => ?_)
      · refine fz_iconst ⟨by decide, by decide⟩ kX11_nears rfl ?_
        exact fz_zret kX11_nears rfl rfl (by omega) ⟨hI, hf, hJ, hJk, _, rfl, (by omega), (by omega)⟩
      · refine fz_aload_n kX11_nears rfl rfl ?_
        refine fz_getR (t := 86) kX11_nears rfl rfl ?_
        refine fz_iload_n kX11_nears rfl rfl ?_
        refine fz_ialdV (n := 8) (v := h 86 (b.toNat)) kX11_nears rfl rfl (by omega) (by omega) rfl ?_
        refine fz_iload kX11_nears rfl rfl ?_
        refine fz_icmp_ne (tgt := 75) kX11_nears rfl (by decide) (fun c32 => ?_) (fun c32 => ?_)
        · have k33 := fz_J_b hJ (x := b) (by omega)
          refine fz_aload_n kX11_nears rfl rfl ?_
          refine fz_getR (t := 86) kX11_nears rfl rfl ?_
          refine fz_iload_n kX11_nears rfl rfl ?_
          refine fz_iload kX11_nears rfl rfl ?_
          refine fz_iast (n := 8) kX11_nears rfl rfl (by omega) (by omega) ?_
          refine fz_nmu (S := [(86, 99999), (87, 99999)]) (h0 := h) (fz_Iv_up hI (by decide) (show ((-2147483648) : Int) ≤ (fz_w ((h 86 (a.toNat)) + l)) by omega) (show ((fz_w ((h 86 (a.toNat)) + l)) : Int) ≤ 2147483647 by omega)) (fz_fr_up hf rfl) (fun H34 hI35 hf36 e37 => ?_)
          have hJ38 : fz_J H34 := by rw [e37]; exact fz_J_st (a := a.toNat) (l := l) hJ (by omega) (by omega) (by omega) (by omega) (by omega) (by omega)
          refine fz_aload_n kX11_nears rfl rfl ?_
          refine fz_getR (t := 87) kX11_nears rfl rfl ?_
          refine fz_iload_n kX11_nears rfl rfl ?_
          refine fz_aload_n kX11_nears rfl rfl ?_
          refine fz_getR (t := 87) kX11_nears rfl rfl ?_
          refine fz_iload_n kX11_nears rfl rfl ?_
          obtain ⟨v41, e42⟩ : ∃ z, H34 87 (a.toNat) = z := ⟨_, rfl⟩
          refine fz_ialdV (n := 8) (v := v41) kX11_nears rfl rfl (by omega) (by omega) e42 ?_
          have b43 : (-2147483648) ≤ v41 ∧ v41 ≤ 2147483647 := by rw [← e42]; exact hI35.1 87 _
          have k44 : v41 = h 87 a.toNat := by rw [← e42, e37]; exact fz_up_o (by decide)
          refine fz_iconst ⟨by decide, by decide⟩ kX11_nears rfl ?_
          refine fz_iadd kX11_nears rfl ?_
          have b46 := fz_w_b (v41 + 1)
          refine fz_iast (n := 8) kX11_nears rfl rfl (by omega) (by omega) ?_
          refine fz_nmu (S := [(86, 99999), (87, 99999)]) (h0 := h) (fz_Iv_up hI35 (by decide) (show ((-2147483648) : Int) ≤ (fz_w (v41 + 1)) by omega) (show ((fz_w (v41 + 1)) : Int) ≤ 2147483647 by omega)) (fz_fr_up hf36 rfl) (fun H47 hI48 hf49 e50 => ?_)
          have hJ51 : fz_J H47 := fz_J_eq (by rw [e50]; exact fz_up_ne (by decide)) hJ38
          have hJk52 : fz_Jk H47 := by exact fz_Jk_st (a := a.toNat) (b := b.toNat) (l := l) hJk (by omega) (by omega) (by omega) (by omega) (by omega) (by omega) (by rw [k44]) (by rw [k44]; omega) e37 e50
          have k54 := fz_mu_st (h := h) (b := b.toNat) (by omega) (by omega) (hI.1 87 _) (by omega) (by rw [k44]; omega) e37 e50
          refine fz_iconst ⟨by decide, by decide⟩ kX11_nears rfl ?_
          exact fz_zret kX11_nears rfl rfl (by omega) ⟨hI48, hf49, hJ51, hJk52, _, rfl, (by omega), (by omega)⟩
        · refine fz_aload_n kX11_nears rfl rfl ?_
          refine fz_getR (t := 87) kX11_nears rfl rfl ?_
          refine fz_iload_n kX11_nears rfl rfl ?_
          refine fz_ialdV (n := 8) (v := h 87 (b.toNat)) kX11_nears rfl rfl (by omega) (by omega) rfl ?_
          have b56 : (-2147483648) ≤ h 87 (b.toNat) ∧ h 87 (b.toNat) ≤ 2147483647 := hI.1 87 _
          refine fz_aload_n kX11_nears rfl rfl ?_
          refine fz_getR (t := 87) kX11_nears rfl rfl ?_
          refine fz_iload_n kX11_nears rfl rfl ?_
          refine fz_ialdV (n := 8) (v := h 87 (a.toNat)) kX11_nears rfl rfl (by omega) (by omega) rfl ?_
          have b57 : (-2147483648) ≤ h 87 (a.toNat) ∧ h 87 (a.toNat) ≤ 2147483647 := hI.1 87 _
          refine fz_iconst ⟨by decide, by decide⟩ kX11_nears rfl ?_
          refine fz_iadd kX11_nears rfl ?_
          have b58 := fz_w_b ((h 87 (a.toNat)) + 1)
          refine fz_icmp_gt (tgt := 75) kX11_nears rfl (by decide) (fun c59 => ?_) (fun c59 => ?_)
          · have k60 := fz_J_b hJ (x := b) (by omega)
            refine fz_aload_n kX11_nears rfl rfl ?_
            refine fz_getR (t := 86) kX11_nears rfl rfl ?_
            refine fz_iload_n kX11_nears rfl rfl ?_
            refine fz_iload kX11_nears rfl rfl ?_
            refine fz_iast (n := 8) kX11_nears rfl rfl (by omega) (by omega) ?_
            refine fz_nmu (S := [(86, 99999), (87, 99999)]) (h0 := h) (fz_Iv_up hI (by decide) (show ((-2147483648) : Int) ≤ (fz_w ((h 86 (a.toNat)) + l)) by omega) (show ((fz_w ((h 86 (a.toNat)) + l)) : Int) ≤ 2147483647 by omega)) (fz_fr_up hf rfl) (fun H61 hI62 hf63 e64 => ?_)
            have hJ65 : fz_J H61 := by rw [e64]; exact fz_J_st (a := a.toNat) (l := l) hJ (by omega) (by omega) (by omega) (by omega) (by omega) (by omega)
            refine fz_aload_n kX11_nears rfl rfl ?_
            refine fz_getR (t := 87) kX11_nears rfl rfl ?_
            refine fz_iload_n kX11_nears rfl rfl ?_
            refine fz_aload_n kX11_nears rfl rfl ?_
            refine fz_getR (t := 87) kX11_nears rfl rfl ?_
            refine fz_iload_n kX11_nears rfl rfl ?_
            obtain ⟨v68, e69⟩ : ∃ z, H61 87 (a.toNat) = z := ⟨_, rfl⟩
            refine fz_ialdV (n := 8) (v := v68) kX11_nears rfl rfl (by omega) (by omega) e69 ?_
            have b70 : (-2147483648) ≤ v68 ∧ v68 ≤ 2147483647 := by rw [← e69]; exact hI62.1 87 _
            have k71 : v68 = h 87 a.toNat := by rw [← e69, e64]; exact fz_up_o (by decide)
            refine fz_iconst ⟨by decide, by decide⟩ kX11_nears rfl ?_
            refine fz_iadd kX11_nears rfl ?_
            have b73 := fz_w_b (v68 + 1)
            refine fz_iast (n := 8) kX11_nears rfl rfl (by omega) (by omega) ?_
            refine fz_nmu (S := [(86, 99999), (87, 99999)]) (h0 := h) (fz_Iv_up hI62 (by decide) (show ((-2147483648) : Int) ≤ (fz_w (v68 + 1)) by omega) (show ((fz_w (v68 + 1)) : Int) ≤ 2147483647 by omega)) (fz_fr_up hf63 rfl) (fun H74 hI75 hf76 e77 => ?_)
            have hJ78 : fz_J H74 := fz_J_eq (by rw [e77]; exact fz_up_ne (by decide)) hJ65
            have hJk79 : fz_Jk H74 := by exact fz_Jk_st (a := a.toNat) (b := b.toNat) (l := l) hJk (by omega) (by omega) (by omega) (by omega) (by omega) (by omega) (by rw [k71]) (by rw [k71]; omega) e64 e77
            have k81 := fz_mu_st (h := h) (b := b.toNat) (by omega) (by omega) (hI.1 87 _) (by omega) (by rw [k71]; omega) e64 e77
            refine fz_iconst ⟨by decide, by decide⟩ kX11_nears rfl ?_
            exact fz_zret kX11_nears rfl rfl (by omega) ⟨hI75, hf76, hJ78, hJk79, _, rfl, (by omega), (by omega)⟩
          · refine fz_iconst ⟨by decide, by decide⟩ kX11_nears rfl ?_
            exact fz_zret kX11_nears rfl rfl (by omega) ⟨hI, hf, hJ, hJk, _, rfl, (by omega), (by omega)⟩
  · refine fz_iconst ⟨by decide, by decide⟩ kX11_nears rfl ?_
    exact fz_zret kX11_nears rfl rfl (by omega) ⟨hI, hf, hJ, hJk, _, rfl, (by omega), (by omega)⟩

abbrev qX11_goesFrom_k (h : fz_H) (t ca : Int) : fz_H → Option fz_V → Prop := fun h' r0 => fz_Iv h' ∧ fz_fr [(86, 99999), (87, 99999)] h h' ∧ r0 = none ∧ fz_Jk h'
set_option maxHeartbeats 1000000 in
set_option maxRecDepth 100000 in
theorem sX11_goesFrom_k (h : fz_H) (hI : fz_Iv h) (t ca : Int) (hp0 : 0 ≤ t ∧ t ≤ 7) (hp1 : 0 ≤ ca ∧ ca ≤ 1) : fz_R 1 mX11_goesFrom 0 [(0, fz_r 53), (1, fz_i t), (2, fz_i ca)] [] h (qX11_goesFrom_k h t ca) := by
  refine fz_knowl (fun hk => ?_)
  have hr_t : -2147483648 ≤ t ∧ t < 2147483648 := hk _ (List.Mem.tail _ (List.Mem.head _))
  have hr_ca : -2147483648 ≤ ca ∧ ca < 2147483648 := hk _ (List.Mem.tail _ (List.Mem.tail _ (List.Mem.head _)))
  clear hk
  have hf : fz_fr [(86, 99999), (87, 99999)] h h := fz_fr_rf
  refine fz_iconst ⟨by decide, by decide⟩ kX11_goesFrom rfl ?_
  refine fz_istore_n (ls' := [(3, fz_i 0), (0, fz_r 53), (1, fz_i t), (2, fz_i ca)]) kX11_goesFrom rfl (by decide) rfl ?_
  have lp6 : ∀ (n5 : Nat) (x1 : Int) (H2 : fz_H), fz_Iv H2 → fz_fr [(86, 99999), (87, 99999)] h H2 → (0 ≤ x1 ∧ x1 ≤ 2147483647) → (fz_K H2 x1) → (8 - x1).toNat < n5 → fz_R 1 mX11_goesFrom 2 [(3, fz_i x1), (0, fz_r 53), (1, fz_i t), (2, fz_i ca)] [] H2 (qX11_goesFrom_k h t ca) := by
    intro n5
    induction n5 with
    | zero => intro x1 H2 hI3 hf4 hv9 hv10 hm8; exact absurd hm8 (by omega)
    | succ n5 ih7 =>
      intro x1 H2 hI3 hf4 hv9 hv10 hm8
      refine fz_iload_n kX11_goesFrom rfl rfl ?_
      refine fz_bipush ⟨by decide, by decide⟩ kX11_goesFrom rfl ?_
      refine fz_icmp_ge (tgt := 22) kX11_goesFrom rfl (by decide) (fun c11 => ?_) (fun c11 => ?_)
      · refine fz_aload_n kX11_goesFrom rfl rfl ?_
        refine fz_getR (t := 86) kX11_goesFrom rfl rfl ?_
        refine fz_iload_n kX11_goesFrom rfl rfl ?_
        refine fz_iconst ⟨by decide, by decide⟩ kX11_goesFrom rfl ?_
        refine fz_iast (n := 8) kX11_goesFrom rfl rfl (by omega) (by omega) ?_
        refine fz_nmu (S := [(86, 99999), (87, 99999)]) (h0 := h) (fz_Iv_up hI3 (by decide) (show ((-2147483648) : Int) ≤ 0 by decide) (show (0 : Int) ≤ 2147483647 by decide)) (fz_fr_up hf4 rfl) (fun H12 hI13 hf14 e15 => ?_)
        have hJ16 : fz_J H12 := by rw [e15]; exact fz_J_0 hv10 (by omega) (by omega)
        refine fz_aload_n kX11_goesFrom rfl rfl ?_
        refine fz_getR (t := 87) kX11_goesFrom rfl rfl ?_
        refine fz_iload_n kX11_goesFrom rfl rfl ?_
        refine fz_iconst ⟨by decide, by decide⟩ kX11_goesFrom rfl ?_
        refine fz_iast (n := 8) kX11_goesFrom rfl rfl (by omega) (by omega) ?_
        refine fz_nmu (S := [(86, 99999), (87, 99999)]) (h0 := h) (fz_Iv_up hI13 (by decide) (show ((-2147483648) : Int) ≤ 0 by decide) (show (0 : Int) ≤ 2147483647 by decide)) (fz_fr_up hf14 rfl) (fun H18 hI19 hf20 e21 => ?_)
        have hJ22 : fz_J H18 := fz_J_eq (by rw [e21]; exact fz_up_ne (by decide)) hJ16
        have hJk23 : fz_Jk H18 := by exact fz_Jk_0 hv10 (by omega) (by omega) e15 e21
        refine fz_iconst ⟨by decide, by decide⟩ kX11_goesFrom rfl ?_
        refine fz_istore_n (ls' := [(3, fz_i 1), (0, fz_r 53), (1, fz_i t), (2, fz_i ca)]) kX11_goesFrom rfl (by decide) rfl ?_
        have lp32 : ∀ (n31 : Nat) (x25 : Int) (H28 : fz_H), fz_Iv H28 → fz_fr [(86, 99999), (87, 99999)] h H28 → fz_J H28 → fz_Jk H28 → (0 ≤ x25 ∧ x25 ≤ 1) → (fz_mu H28 + x25).toNat < n31 → fz_R 1 mX11_goesFrom 38 [(3, fz_i x25), (0, fz_r 53), (1, fz_i t), (2, fz_i ca)] [] H28 (qX11_goesFrom_k h t ca) := by
          intro n31
          induction n31 with
          | zero => intro x25 H28 hI29 hf30 hJ26 hJk27 hv35 hm34; exact absurd hm34 (by omega)
          | succ n31 ih33 =>
            intro x25 H28 hI29 hf30 hJ26 hJk27 hv35 hm34
            refine fz_iload_n kX11_goesFrom rfl rfl ?_
            refine fz_if_eq (tgt := 142) kX11_goesFrom rfl (by decide) (fun c36 => ?_) (fun c36 => ?_)
            · exact fz_vret kX11_goesFrom rfl rfl ⟨hI29, hf30, rfl, (by exact hJk27)⟩
            · obtain ⟨k38, k39⟩ : ∃ z, z = fz_mu H28 := ⟨_, rfl⟩
              have k41 := fz_mu_nn H28
              refine fz_iconst ⟨by decide, by decide⟩ kX11_goesFrom rfl ?_
              refine fz_istore_n (ls' := [(3, fz_i 0), (0, fz_r 53), (1, fz_i t), (2, fz_i ca)]) kX11_goesFrom rfl (by decide) rfl ?_
              refine fz_iconst ⟨by decide, by decide⟩ kX11_goesFrom rfl ?_
              refine fz_istore (ls' := [(4, fz_i 0), (3, fz_i 0), (0, fz_r 53), (1, fz_i t), (2, fz_i ca)]) kX11_goesFrom rfl (by decide) rfl ?_
              have lp50 : ∀ (n49 : Nat) (x42 : Int) (x43 : Int) (H46 : fz_H), fz_Iv H46 → fz_fr [(86, 99999), (87, 99999)] h H46 → fz_J H46 → fz_Jk H46 → (0 ≤ x42 ∧ x42 ≤ 2147483647) → (0 ≤ x43 ∧ x43 ≤ 1) → (fz_mu H46 + x43 ≤ k38) → ((h 53 2) - x42).toNat < n49 → fz_R 1 mX11_goesFrom 47 [(4, fz_i x42), (3, fz_i x43), (0, fz_r 53), (1, fz_i t), (2, fz_i ca)] [] H46 (qX11_goesFrom_k h t ca) := by
                intro n49
                induction n49 with
                | zero => intro x42 x43 H46 hI47 hf48 hJ44 hJk45 hv53 hv54 hv55 hm52; exact absurd hm52 (by omega)
                | succ n49 ih51 =>
                  intro x42 x43 H46 hI47 hf48 hJ44 hJk45 hv53 hv54 hv55 hm52
                  refine fz_iload kX11_goesFrom rfl rfl ?_
                  refine fz_aload_n kX11_goesFrom rfl rfl ?_
                  refine fz_getV (v := h 53 2) kX11_goesFrom rfl rfl (hf48 53 2 rfl) ?_
                  have b56 : 0 ≤ h 53 2 ∧ h 53 2 ≤ 12 := hI.1 53 _
                  refine fz_icmp_ge (tgt := 139) kX11_goesFrom rfl (by decide) (fun c57 => ?_) (fun c57 => ?_)
                  · refine fz_goto (tgt := 38) kX11_goesFrom rfl (by decide) ?_
                    refine fz_sub (fz_pk_sub (ls' := [(3, fz_i x43), (0, fz_r 53), (1, fz_i t), (2, fz_i ca)]) [1, 2, 3, 4] rfl) ?_
                    exact ih33 x43 H46 hI47 hf48 hJ44 hJk45 (by omega) (by omega)
                  · refine fz_iload_n kX11_goesFrom rfl rfl ?_
                    refine fz_if_eq (tgt := 73) kX11_goesFrom rfl (by decide) (fun c58 => ?_) (fun c58 => ?_)
                    · refine fz_aload_n kX11_goesFrom rfl rfl ?_
                      refine fz_aload_n kX11_goesFrom rfl rfl ?_
                      refine fz_getR (t := 55) kX11_goesFrom rfl rfl ?_
                      refine fz_iload kX11_goesFrom rfl rfl ?_
                      refine fz_ialdV (n := 12) (v := h 55 (x42.toNat)) kX11_goesFrom rfl rfl (by omega) (by omega) (hf48 55 _ rfl) ?_
                      have b59 : 0 ≤ h 55 (x42.toNat) ∧ h 55 (x42.toNat) ≤ 7 := hI.1 55 _
                      refine fz_aload_n kX11_goesFrom rfl rfl ?_
                      refine fz_getR (t := 56) kX11_goesFrom rfl rfl ?_
                      refine fz_iload kX11_goesFrom rfl rfl ?_
                      refine fz_ialdV (n := 12) (v := h 56 (x42.toNat)) kX11_goesFrom rfl rfl (by omega) (by omega) (hf48 56 _ rfl) ?_
                      have b60 : 0 ≤ h 56 (x42.toNat) ∧ h 56 (x42.toNat) ≤ 7 := hI.1 56 _
                      refine fz_aload_n kX11_goesFrom rfl rfl ?_
                      refine fz_iload kX11_goesFrom rfl rfl ?_
                      refine fz_iload_n kX11_goesFrom rfl rfl ?_
                      refine fz_callV (d' := 0) (M' := mX11_hoursOf) (As := [fz_i x42, fz_i ca]) (st := [fz_i (h 56 (x42.toNat)), fz_i (h 55 (x42.toNat)), fz_r 53]) kX11_goesFrom rfl rfl vX11_hoursOf rfl rfl rfl rfl (Nat.le_of_ble_eq_true rfl) (Nat.le_of_ble_eq_true rfl) (by decide) (sX11_hoursOf H46 hI47 x42 ca (by omega)) (fun H61 r62 q63 o64 => ?_)
                      obtain ⟨e65, y67, rfl, f66⟩ := q63
                      subst H61
                      clear o64
                      refine fz_callV (d' := 0) (M' := mX11_nears) (As := [fz_i (h 55 (x42.toNat)), fz_i (h 56 (x42.toNat)), fz_i y67]) (st := []) kX11_goesFrom rfl rfl vX11_nears rfl rfl rfl rfl (Nat.le_of_ble_eq_true rfl) (Nat.le_of_ble_eq_true rfl) (by decide) (sX11_nears_k H46 hI47 (h 55 (x42.toNat)) (h 56 (x42.toNat)) y67 hJ44 hJk45 (by omega) (by omega) (by omega)) (fun H68 r69 q70 o71 => ?_)
                      obtain ⟨hI72, hf73, hJ74, hJk75, y77, rfl, p78, f76⟩ := q70
                      clear o71
                      have hf79 := fz_fr_tr hf48 hf73 (show fz_su [(86, 99999), (87, 99999)] [(86, 99999), (87, 99999)] = true from rfl)
                      refine fz_if_eq (tgt := 103) kX11_goesFrom rfl (by decide) (fun c80 => ?_) (fun c80 => ?_)
                      · refine fz_aload_n kX11_goesFrom rfl rfl ?_
                        refine fz_aload_n kX11_goesFrom rfl rfl ?_
                        refine fz_getR (t := 56) kX11_goesFrom rfl rfl ?_
                        refine fz_iload kX11_goesFrom rfl rfl ?_
                        refine fz_ialdV (n := 12) (v := h 56 (x42.toNat)) kX11_goesFrom rfl rfl (by omega) (by omega) (hf79 56 _ rfl) ?_
                        refine fz_aload_n kX11_goesFrom rfl rfl ?_
                        refine fz_getR (t := 55) kX11_goesFrom rfl rfl ?_
                        refine fz_iload kX11_goesFrom rfl rfl ?_
                        refine fz_ialdV (n := 12) (v := h 55 (x42.toNat)) kX11_goesFrom rfl rfl (by omega) (by omega) (hf79 55 _ rfl) ?_
                        refine fz_aload_n kX11_goesFrom rfl rfl ?_
                        refine fz_iload kX11_goesFrom rfl rfl ?_
                        refine fz_iload_n kX11_goesFrom rfl rfl ?_
                        refine fz_callV (d' := 0) (M' := mX11_hoursOf) (As := [fz_i x42, fz_i ca]) (st := [fz_i (h 55 (x42.toNat)), fz_i (h 56 (x42.toNat)), fz_r 53]) kX11_goesFrom rfl rfl vX11_hoursOf rfl rfl rfl rfl (Nat.le_of_ble_eq_true rfl) (Nat.le_of_ble_eq_true rfl) (by decide) (sX11_hoursOf H68 hI72 x42 ca (by omega)) (fun H81 r82 q83 o84 => ?_)
                        obtain ⟨e85, y87, rfl, f86⟩ := q83
                        subst H81
                        clear o84
                        refine fz_callV (d' := 0) (M' := mX11_nears) (As := [fz_i (h 56 (x42.toNat)), fz_i (h 55 (x42.toNat)), fz_i y87]) (st := []) kX11_goesFrom rfl rfl vX11_nears rfl rfl rfl rfl (Nat.le_of_ble_eq_true rfl) (Nat.le_of_ble_eq_true rfl) (by decide) (sX11_nears_k H68 hI72 (h 56 (x42.toNat)) (h 55 (x42.toNat)) y87 hJ74 hJk75 (by omega) (by omega) (by omega)) (fun H88 r89 q90 o91 => ?_)
                        obtain ⟨hI92, hf93, hJ94, hJk95, y97, rfl, p98, f96⟩ := q90
                        clear o91
                        have hf99 := fz_fr_tr hf79 hf93 (show fz_su [(86, 99999), (87, 99999)] [(86, 99999), (87, 99999)] = true from rfl)
                        refine fz_if_eq (tgt := 133) kX11_goesFrom rfl (by decide) (fun c100 => ?_) (fun c100 => ?_)
                        · refine fz_iincN (ls' := [(4, fz_i (x42 + 1)), (3, fz_i x43), (0, fz_r 53), (1, fz_i t), (2, fz_i ca)]) kX11_goesFrom rfl (by decide) rfl (by omega) rfl ?_
                          refine fz_goto (tgt := 47) kX11_goesFrom rfl (by decide) ?_
                          exact ih51 (x42 + 1) x43 H88 hI92 hf99 hJ94 hJk95 (by omega) (by omega) (by omega) (by omega)
                        · refine fz_iconst ⟨by decide, by decide⟩ kX11_goesFrom rfl ?_
                          refine fz_istore_n (ls' := [(3, fz_i 1), (4, fz_i x42), (0, fz_r 53), (1, fz_i t), (2, fz_i ca)]) kX11_goesFrom rfl (by decide) rfl ?_
                          refine fz_iincN (ls' := [(4, fz_i (x42 + 1)), (3, fz_i 1), (0, fz_r 53), (1, fz_i t), (2, fz_i ca)]) kX11_goesFrom rfl (by decide) rfl (by omega) rfl ?_
                          refine fz_goto (tgt := 47) kX11_goesFrom rfl (by decide) ?_
                          exact ih51 (x42 + 1) 1 H88 hI92 hf99 hJ94 hJk95 (by omega) (by omega) (by omega) (by omega)
                      · refine fz_iconst ⟨by decide, by decide⟩ kX11_goesFrom rfl ?_
                        refine fz_istore_n (ls' := [(3, fz_i 1), (4, fz_i x42), (0, fz_r 53), (1, fz_i t), (2, fz_i ca)]) kX11_goesFrom rfl (by decide) rfl ?_
                        refine fz_aload_n kX11_goesFrom rfl rfl ?_
                        refine fz_aload_n kX11_goesFrom rfl rfl ?_
                        refine fz_getR (t := 56) kX11_goesFrom rfl rfl ?_
                        refine fz_iload kX11_goesFrom rfl rfl ?_
                        refine fz_ialdV (n := 12) (v := h 56 (x42.toNat)) kX11_goesFrom rfl rfl (by omega) (by omega) (hf79 56 _ rfl) ?_
                        refine fz_aload_n kX11_goesFrom rfl rfl ?_
                        refine fz_getR (t := 55) kX11_goesFrom rfl rfl ?_
                        refine fz_iload kX11_goesFrom rfl rfl ?_
                        refine fz_ialdV (n := 12) (v := h 55 (x42.toNat)) kX11_goesFrom rfl rfl (by omega) (by omega) (hf79 55 _ rfl) ?_
                        refine fz_aload_n kX11_goesFrom rfl rfl ?_
                        refine fz_iload kX11_goesFrom rfl rfl ?_
                        refine fz_iload_n kX11_goesFrom rfl rfl ?_
                        refine fz_callV (d' := 0) (M' := mX11_hoursOf) (As := [fz_i x42, fz_i ca]) (st := [fz_i (h 55 (x42.toNat)), fz_i (h 56 (x42.toNat)), fz_r 53]) kX11_goesFrom rfl rfl vX11_hoursOf rfl rfl rfl rfl (Nat.le_of_ble_eq_true rfl) (Nat.le_of_ble_eq_true rfl) (by decide) (sX11_hoursOf H68 hI72 x42 ca (by omega)) (fun H101 r102 q103 o104 => ?_)
                        obtain ⟨e105, y107, rfl, f106⟩ := q103
                        subst H101
                        clear o104
                        refine fz_callV (d' := 0) (M' := mX11_nears) (As := [fz_i (h 56 (x42.toNat)), fz_i (h 55 (x42.toNat)), fz_i y107]) (st := []) kX11_goesFrom rfl rfl vX11_nears rfl rfl rfl rfl (Nat.le_of_ble_eq_true rfl) (Nat.le_of_ble_eq_true rfl) (by decide) (sX11_nears_k H68 hI72 (h 56 (x42.toNat)) (h 55 (x42.toNat)) y107 hJ74 hJk75 (by omega) (by omega) (by omega)) (fun H108 r109 q110 o111 => ?_)
                        obtain ⟨hI112, hf113, hJ114, hJk115, y117, rfl, p118, f116⟩ := q110
                        clear o111
                        have hf119 := fz_fr_tr hf79 hf113 (show fz_su [(86, 99999), (87, 99999)] [(86, 99999), (87, 99999)] = true from rfl)
                        refine fz_if_eq (tgt := 133) kX11_goesFrom rfl (by decide) (fun c120 => ?_) (fun c120 => ?_)
                        · refine fz_iincN (ls' := [(4, fz_i (x42 + 1)), (3, fz_i 1), (0, fz_r 53), (1, fz_i t), (2, fz_i ca)]) kX11_goesFrom rfl (by decide) rfl (by omega) rfl ?_
                          refine fz_goto (tgt := 47) kX11_goesFrom rfl (by decide) ?_
                          exact ih51 (x42 + 1) 1 H108 hI112 hf119 hJ114 hJk115 (by omega) (by omega) (by omega) (by omega)
                        · refine fz_iconst ⟨by decide, by decide⟩ kX11_goesFrom rfl ?_
                          refine fz_istore_n (ls' := [(3, fz_i 1), (4, fz_i x42), (0, fz_r 53), (1, fz_i t), (2, fz_i ca)]) kX11_goesFrom rfl (by decide) rfl ?_
                          refine fz_iincN (ls' := [(4, fz_i (x42 + 1)), (3, fz_i 1), (0, fz_r 53), (1, fz_i t), (2, fz_i ca)]) kX11_goesFrom rfl (by decide) rfl (by omega) rfl ?_
                          refine fz_goto (tgt := 47) kX11_goesFrom rfl (by decide) ?_
                          exact ih51 (x42 + 1) 1 H108 hI112 hf119 hJ114 hJk115 (by omega) (by omega) (by omega) (by omega)
                    · refine fz_aload_n kX11_goesFrom rfl rfl ?_
                      refine fz_getR (t := 58) kX11_goesFrom rfl rfl ?_
                      refine fz_iload kX11_goesFrom rfl rfl ?_
                      refine fz_ialdV (n := 12) (v := h 58 (x42.toNat)) kX11_goesFrom rfl rfl (by omega) (by omega) (hf48 58 _ rfl) ?_
                      have b121 : 0 ≤ h 58 (x42.toNat) ∧ h 58 (x42.toNat) ≤ 1 := hI.1 58 _
                      refine fz_if_ne (tgt := 73) kX11_goesFrom rfl (by decide) (fun c122 => ?_) (fun c122 => ?_)
                      · refine fz_aload_n kX11_goesFrom rfl rfl ?_
                        refine fz_aload_n kX11_goesFrom rfl rfl ?_
                        refine fz_getR (t := 55) kX11_goesFrom rfl rfl ?_
                        refine fz_iload kX11_goesFrom rfl rfl ?_
                        refine fz_ialdV (n := 12) (v := h 55 (x42.toNat)) kX11_goesFrom rfl rfl (by omega) (by omega) (hf48 55 _ rfl) ?_
                        have b123 : 0 ≤ h 55 (x42.toNat) ∧ h 55 (x42.toNat) ≤ 7 := hI.1 55 _
                        refine fz_aload_n kX11_goesFrom rfl rfl ?_
                        refine fz_getR (t := 56) kX11_goesFrom rfl rfl ?_
                        refine fz_iload kX11_goesFrom rfl rfl ?_
                        refine fz_ialdV (n := 12) (v := h 56 (x42.toNat)) kX11_goesFrom rfl rfl (by omega) (by omega) (hf48 56 _ rfl) ?_
                        have b124 : 0 ≤ h 56 (x42.toNat) ∧ h 56 (x42.toNat) ≤ 7 := hI.1 56 _
                        refine fz_aload_n kX11_goesFrom rfl rfl ?_
                        refine fz_iload kX11_goesFrom rfl rfl ?_
                        refine fz_iload_n kX11_goesFrom rfl rfl ?_
                        refine fz_callV (d' := 0) (M' := mX11_hoursOf) (As := [fz_i x42, fz_i ca]) (st := [fz_i (h 56 (x42.toNat)), fz_i (h 55 (x42.toNat)), fz_r 53]) kX11_goesFrom rfl rfl vX11_hoursOf rfl rfl rfl rfl (Nat.le_of_ble_eq_true rfl) (Nat.le_of_ble_eq_true rfl) (by decide) (sX11_hoursOf H46 hI47 x42 ca (by omega)) (fun H125 r126 q127 o128 => ?_)
                        obtain ⟨e129, y131, rfl, f130⟩ := q127
                        subst H125
                        clear o128
                        refine fz_callV (d' := 0) (M' := mX11_nears) (As := [fz_i (h 55 (x42.toNat)), fz_i (h 56 (x42.toNat)), fz_i y131]) (st := []) kX11_goesFrom rfl rfl vX11_nears rfl rfl rfl rfl (Nat.le_of_ble_eq_true rfl) (Nat.le_of_ble_eq_true rfl) (by decide) (sX11_nears_k H46 hI47 (h 55 (x42.toNat)) (h 56 (x42.toNat)) y131 hJ44 hJk45 (by omega) (by omega) (by omega)) (fun H132 r133 q134 o135 => ?_)
                        obtain ⟨hI136, hf137, hJ138, hJk139, y141, rfl, p142, f140⟩ := q134
                        clear o135
                        have hf143 := fz_fr_tr hf48 hf137 (show fz_su [(86, 99999), (87, 99999)] [(86, 99999), (87, 99999)] = true from rfl)
                        refine fz_if_eq (tgt := 103) kX11_goesFrom rfl (by decide) (fun c144 => ?_) (fun c144 => ?_)
                        · refine fz_aload_n kX11_goesFrom rfl rfl ?_
                          refine fz_aload_n kX11_goesFrom rfl rfl ?_
                          refine fz_getR (t := 56) kX11_goesFrom rfl rfl ?_
                          refine fz_iload kX11_goesFrom rfl rfl ?_
                          refine fz_ialdV (n := 12) (v := h 56 (x42.toNat)) kX11_goesFrom rfl rfl (by omega) (by omega) (hf143 56 _ rfl) ?_
                          refine fz_aload_n kX11_goesFrom rfl rfl ?_
                          refine fz_getR (t := 55) kX11_goesFrom rfl rfl ?_
                          refine fz_iload kX11_goesFrom rfl rfl ?_
                          refine fz_ialdV (n := 12) (v := h 55 (x42.toNat)) kX11_goesFrom rfl rfl (by omega) (by omega) (hf143 55 _ rfl) ?_
                          refine fz_aload_n kX11_goesFrom rfl rfl ?_
                          refine fz_iload kX11_goesFrom rfl rfl ?_
                          refine fz_iload_n kX11_goesFrom rfl rfl ?_
                          refine fz_callV (d' := 0) (M' := mX11_hoursOf) (As := [fz_i x42, fz_i ca]) (st := [fz_i (h 55 (x42.toNat)), fz_i (h 56 (x42.toNat)), fz_r 53]) kX11_goesFrom rfl rfl vX11_hoursOf rfl rfl rfl rfl (Nat.le_of_ble_eq_true rfl) (Nat.le_of_ble_eq_true rfl) (by decide) (sX11_hoursOf H132 hI136 x42 ca (by omega)) (fun H145 r146 q147 o148 => ?_)
                          obtain ⟨e149, y151, rfl, f150⟩ := q147
                          subst H145
                          clear o148
                          refine fz_callV (d' := 0) (M' := mX11_nears) (As := [fz_i (h 56 (x42.toNat)), fz_i (h 55 (x42.toNat)), fz_i y151]) (st := []) kX11_goesFrom rfl rfl vX11_nears rfl rfl rfl rfl (Nat.le_of_ble_eq_true rfl) (Nat.le_of_ble_eq_true rfl) (by decide) (sX11_nears_k H132 hI136 (h 56 (x42.toNat)) (h 55 (x42.toNat)) y151 hJ138 hJk139 (by omega) (by omega) (by omega)) (fun H152 r153 q154 o155 => ?_)
                          obtain ⟨hI156, hf157, hJ158, hJk159, y161, rfl, p162, f160⟩ := q154
                          clear o155
                          have hf163 := fz_fr_tr hf143 hf157 (show fz_su [(86, 99999), (87, 99999)] [(86, 99999), (87, 99999)] = true from rfl)
                          refine fz_if_eq (tgt := 133) kX11_goesFrom rfl (by decide) (fun c164 => ?_) (fun c164 => ?_)
                          · refine fz_iincN (ls' := [(4, fz_i (x42 + 1)), (3, fz_i x43), (0, fz_r 53), (1, fz_i t), (2, fz_i ca)]) kX11_goesFrom rfl (by decide) rfl (by omega) rfl ?_
                            refine fz_goto (tgt := 47) kX11_goesFrom rfl (by decide) ?_
                            exact ih51 (x42 + 1) x43 H152 hI156 hf163 hJ158 hJk159 (by omega) (by omega) (by omega) (by omega)
                          · refine fz_iconst ⟨by decide, by decide⟩ kX11_goesFrom rfl ?_
                            refine fz_istore_n (ls' := [(3, fz_i 1), (4, fz_i x42), (0, fz_r 53), (1, fz_i t), (2, fz_i ca)]) kX11_goesFrom rfl (by decide) rfl ?_
                            refine fz_iincN (ls' := [(4, fz_i (x42 + 1)), (3, fz_i 1), (0, fz_r 53), (1, fz_i t), (2, fz_i ca)]) kX11_goesFrom rfl (by decide) rfl (by omega) rfl ?_
                            refine fz_goto (tgt := 47) kX11_goesFrom rfl (by decide) ?_
                            exact ih51 (x42 + 1) 1 H152 hI156 hf163 hJ158 hJk159 (by omega) (by omega) (by omega) (by omega)
                        · refine fz_iconst ⟨by decide, by decide⟩ kX11_goesFrom rfl ?_
                          refine fz_istore_n (ls' := [(3, fz_i 1), (4, fz_i x42), (0, fz_r 53), (1, fz_i t), (2, fz_i ca)]) kX11_goesFrom rfl (by decide) rfl ?_
                          refine fz_aload_n kX11_goesFrom rfl rfl ?_
                          refine fz_aload_n kX11_goesFrom rfl rfl ?_
                          refine fz_getR (t := 56) kX11_goesFrom rfl rfl ?_
                          refine fz_iload kX11_goesFrom rfl rfl ?_
                          refine fz_ialdV (n := 12) (v := h 56 (x42.toNat)) kX11_goesFrom rfl rfl (by omega) (by omega) (hf143 56 _ rfl) ?_
                          refine fz_aload_n kX11_goesFrom rfl rfl ?_
                          refine fz_getR (t := 55) kX11_goesFrom rfl rfl ?_
                          refine fz_iload kX11_goesFrom rfl rfl ?_
                          refine fz_ialdV (n := 12) (v := h 55 (x42.toNat)) kX11_goesFrom rfl rfl (by omega) (by omega) (hf143 55 _ rfl) ?_
                          refine fz_aload_n kX11_goesFrom rfl rfl ?_
                          refine fz_iload kX11_goesFrom rfl rfl ?_
                          refine fz_iload_n kX11_goesFrom rfl rfl ?_
                          refine fz_callV (d' := 0) (M' := mX11_hoursOf) (As := [fz_i x42, fz_i ca]) (st := [fz_i (h 55 (x42.toNat)), fz_i (h 56 (x42.toNat)), fz_r 53]) kX11_goesFrom rfl rfl vX11_hoursOf rfl rfl rfl rfl (Nat.le_of_ble_eq_true rfl) (Nat.le_of_ble_eq_true rfl) (by decide) (sX11_hoursOf H132 hI136 x42 ca (by omega)) (fun H165 r166 q167 o168 => ?_)
                          obtain ⟨e169, y171, rfl, f170⟩ := q167
                          subst H165
                          clear o168
                          refine fz_callV (d' := 0) (M' := mX11_nears) (As := [fz_i (h 56 (x42.toNat)), fz_i (h 55 (x42.toNat)), fz_i y171]) (st := []) kX11_goesFrom rfl rfl vX11_nears rfl rfl rfl rfl (Nat.le_of_ble_eq_true rfl) (Nat.le_of_ble_eq_true rfl) (by decide) (sX11_nears_k H132 hI136 (h 56 (x42.toNat)) (h 55 (x42.toNat)) y171 hJ138 hJk139 (by omega) (by omega) (by omega)) (fun H172 r173 q174 o175 => ?_)
                          obtain ⟨hI176, hf177, hJ178, hJk179, y181, rfl, p182, f180⟩ := q174
                          clear o175
                          have hf183 := fz_fr_tr hf143 hf177 (show fz_su [(86, 99999), (87, 99999)] [(86, 99999), (87, 99999)] = true from rfl)
                          refine fz_if_eq (tgt := 133) kX11_goesFrom rfl (by decide) (fun c184 => ?_) (fun c184 => ?_)
                          · refine fz_iincN (ls' := [(4, fz_i (x42 + 1)), (3, fz_i 1), (0, fz_r 53), (1, fz_i t), (2, fz_i ca)]) kX11_goesFrom rfl (by decide) rfl (by omega) rfl ?_
                            refine fz_goto (tgt := 47) kX11_goesFrom rfl (by decide) ?_
                            exact ih51 (x42 + 1) 1 H172 hI176 hf183 hJ178 hJk179 (by omega) (by omega) (by omega) (by omega)
                          · refine fz_iconst ⟨by decide, by decide⟩ kX11_goesFrom rfl ?_
                            refine fz_istore_n (ls' := [(3, fz_i 1), (4, fz_i x42), (0, fz_r 53), (1, fz_i t), (2, fz_i ca)]) kX11_goesFrom rfl (by decide) rfl ?_
                            refine fz_iincN (ls' := [(4, fz_i (x42 + 1)), (3, fz_i 1), (0, fz_r 53), (1, fz_i t), (2, fz_i ca)]) kX11_goesFrom rfl (by decide) rfl (by omega) rfl ?_
                            refine fz_goto (tgt := 47) kX11_goesFrom rfl (by decide) ?_
                            exact ih51 (x42 + 1) 1 H172 hI176 hf183 hJ178 hJk179 (by omega) (by omega) (by omega) (by omega)
                      · refine fz_goto (tgt := 133) kX11_goesFrom rfl (by decide) ?_
                        refine fz_iincN (ls' := [(4, fz_i (x42 + 1)), (3, fz_i x43), (0, fz_r 53), (1, fz_i t), (2, fz_i ca)]) kX11_goesFrom rfl (by decide) rfl (by omega) rfl ?_
                        refine fz_goto (tgt := 47) kX11_goesFrom rfl (by decide) ?_
                        exact ih51 (x42 + 1) x43 H46 hI47 hf48 hJ44 hJk45 (by omega) (by omega) (by omega) (by omega)
              exact lp50 _ 0 0 H28 hI29 hf30 hJ26 hJk27 (by omega) (by omega) (by omega) (Nat.lt_succ_self _)
        exact lp32 _ 1 H18 hI19 hf20 hJ22 hJk23 (by omega) (Nat.lt_succ_self _)
      · refine fz_aload_n kX11_goesFrom rfl rfl ?_
        refine fz_getR (t := 86) kX11_goesFrom rfl rfl ?_
        refine fz_iload_n kX11_goesFrom rfl rfl ?_
        refine fz_bipush ⟨by decide, by decide⟩ kX11_goesFrom rfl ?_
        refine fz_iast (n := 8) kX11_goesFrom rfl rfl (by omega) (by omega) ?_
        refine fz_nmu (S := [(86, 99999), (87, 99999)]) (h0 := h) (fz_Iv_up hI3 (by decide) (show ((-2147483648) : Int) ≤ (-2) by decide) (show ((-2) : Int) ≤ 2147483647 by decide)) (fz_fr_up hf4 rfl) (fun H185 hI186 hf187 e188 => ?_)
        refine fz_iincN (ls' := [(3, fz_i (x1 + 1)), (0, fz_r 53), (1, fz_i t), (2, fz_i ca)]) kX11_goesFrom rfl (by decide) rfl (by omega) rfl ?_
        refine fz_goto (tgt := 2) kX11_goesFrom rfl (by decide) ?_
        exact ih7 (x1 + 1) H185 hI186 hf187 (by omega) (by rw [e188]; exact fz_K_st hv10 (by omega)) (by omega)
  exact lp6 _ 0 h hI hf (by omega) (fun _ z => by omega) (Nat.lt_succ_self _)

abbrev qX11_roadsTo_k (h : fz_H) (d t : Int) : fz_H → Option fz_V → Prop := fun h' r0 => fz_Iv h' ∧ fz_fr [(86, 99999), (87, 99999)] h h' ∧ ∃ r : Int, r0 = some (fz_i r) ∧ ((-2) ≤ r ∧ r ≤ 7)
set_option maxHeartbeats 1000000 in
set_option maxRecDepth 100000 in
theorem sX11_roadsTo_k (h : fz_H) (hI : fz_Iv h) (d t : Int) (hp0 : 0 ≤ d ∧ d ≤ 10) (hp1 : 0 ≤ t ∧ t ≤ 7) : fz_R 2 mX11_roadsTo 0 [(0, fz_r 53), (1, fz_i d), (2, fz_i t)] [] h (qX11_roadsTo_k h d t) := by
  refine fz_knowl (fun hk => ?_)
  have hr_d : -2147483648 ≤ d ∧ d < 2147483648 := hk _ (List.Mem.tail _ (List.Mem.head _))
  have hr_t : -2147483648 ≤ t ∧ t < 2147483648 := hk _ (List.Mem.tail _ (List.Mem.tail _ (List.Mem.head _)))
  clear hk
  have hf : fz_fr [(86, 99999), (87, 99999)] h h := fz_fr_rf
  refine fz_aload_n kX11_roadsTo rfl rfl ?_
  refine fz_aload_n kX11_roadsTo rfl rfl ?_
  refine fz_getR (t := 61) kX11_roadsTo rfl rfl ?_
  refine fz_iload_n kX11_roadsTo rfl rfl ?_
  refine fz_ialdV (n := 11) (v := h 61 (d.toNat)) kX11_roadsTo rfl rfl (by omega) (by omega) rfl ?_
  have b1 : 0 ≤ h 61 (d.toNat) ∧ h 61 (d.toNat) ≤ 7 := hI.1 61 _
  refine fz_iconst ⟨by decide, by decide⟩ kX11_roadsTo rfl ?_
  refine fz_callV (d' := 1) (M' := mX11_goesFrom) (As := [fz_i (h 61 (d.toNat)), fz_i 1]) (st := []) kX11_roadsTo rfl rfl vX11_goesFrom rfl rfl rfl rfl (Nat.le_of_ble_eq_true rfl) (Nat.le_of_ble_eq_true rfl) (by decide) (sX11_goesFrom_k h hI (h 61 (d.toNat)) 1 (by omega) (by omega)) (fun H2 r3 q4 o5 => ?_)
  obtain ⟨hI6, hf7, rfl, f8⟩ := q4
  clear o5
  have hf9 := fz_fr_tr hf hf7 (show fz_su [(86, 99999), (87, 99999)] [(86, 99999), (87, 99999)] = true from rfl)
  refine fz_aload_n kX11_roadsTo rfl rfl ?_
  refine fz_getR (t := 86) kX11_roadsTo rfl rfl ?_
  refine fz_iload_n kX11_roadsTo rfl rfl ?_
  obtain ⟨v10, e11⟩ : ∃ z, H2 86 (t.toNat) = z := ⟨_, rfl⟩
  refine fz_ialdV (n := 8) (v := v10) kX11_roadsTo rfl rfl (by omega) (by omega) e11 ?_
  have b12 : (-2147483648) ≤ v10 ∧ v10 ≤ 2147483647 := by rw [← e11]; exact hI6.1 86 _
  refine fz_bipush ⟨by decide, by decide⟩ kX11_roadsTo rfl ?_
  refine fz_icmp_ne (tgt := 27) kX11_roadsTo rfl (by decide) (fun c13 => ?_) (fun c13 => ?_)
  · refine fz_aload_n kX11_roadsTo rfl rfl ?_
    refine fz_getR (t := 87) kX11_roadsTo rfl rfl ?_
    refine fz_iload_n kX11_roadsTo rfl rfl ?_
    obtain ⟨v14, e15⟩ : ∃ z, H2 87 (t.toNat) = z := ⟨_, rfl⟩
    refine fz_ialdV (n := 8) (v := v14) kX11_roadsTo rfl rfl (by omega) (by omega) e15 ?_
    have b16 : (-2147483648) ≤ v14 ∧ v14 ≤ 2147483647 := by rw [← e15]; exact hI6.1 87 _
    have k17 := fz_Jk_b f8 (x := t) (by omega)
    exact fz_iret kX11_roadsTo rfl rfl (fun _ => ⟨hI6, hf9, _, rfl, (by omega)⟩)
  · refine fz_bipush ⟨by decide, by decide⟩ kX11_roadsTo rfl ?_
    refine fz_goto (tgt := 33) kX11_roadsTo rfl (by decide) ?_
    have k18 := fz_Jk_b f8 (x := t) (by omega)
    exact fz_iret kX11_roadsTo rfl rfl (fun _ => ⟨hI6, hf9, _, rfl, (by omega)⟩)

abbrev qX11_garbled (h : fz_H) (d t pt : Int) : fz_H → Option fz_V → Prop := fun h' r0 => fz_Iv h' ∧ fz_fr [(86, 99999), (87, 99999)] h h' ∧ ∃ r : Int, r0 = some (fz_l r) ∧ ((-9223372036854775808) ≤ r ∧ r ≤ 9223372036854775807)
set_option maxHeartbeats 1000000 in
set_option maxRecDepth 100000 in
theorem sX11_garbled (h : fz_H) (hI : fz_Iv h) (d t pt : Int) : fz_R 3 mX11_garbled 0 [(0, fz_r 53), (1, fz_i d), (2, fz_i t), (3, fz_i pt)] [] h (qX11_garbled h d t pt) := by
  refine fz_knowl (fun hk => ?_)
  have hr_d : -2147483648 ≤ d ∧ d < 2147483648 := hk _ (List.Mem.tail _ (List.Mem.head _))
  have hr_t : -2147483648 ≤ t ∧ t < 2147483648 := hk _ (List.Mem.tail _ (List.Mem.tail _ (List.Mem.head _)))
  have hr_pt : -2147483648 ≤ pt ∧ pt < 2147483648 := hk _ (List.Mem.tail _ (List.Mem.tail _ (List.Mem.tail _ (List.Mem.head _))))
  clear hk
  have hf : fz_fr [(86, 99999), (87, 99999)] h h := fz_fr_rf
  refine fz_aload_n kX11_garbled rfl rfl ?_
  refine fz_iload_n kX11_garbled rfl rfl ?_
  have b1 : 0 ≤ h 53 10 ∧ h 53 10 ≤ 11 := hI.1 53 _
  refine fz_callV (d' := 1) (M' := mX11_isDeed) (As := [fz_i d]) (st := []) kX11_garbled rfl rfl vX11_isDeed rfl rfl rfl rfl (Nat.le_of_ble_eq_true rfl) (Nat.le_of_ble_eq_true rfl) (by decide) (sX11_isDeed h hI d ) (fun H2 r3 q4 o5 => ?_)
  obtain ⟨e6, y7, rfl, p8⟩ := q4
  subst H2
  clear o5
  rcases p8 with ⟨rfl, c9⟩ | ⟨rfl, c9⟩
  · refine fz_if_eq (tgt := 25) kX11_garbled rfl (by decide) (fun c10 => ?_) (fun c10 => ?_)
    · exfalso; omega
    · refine fz_aload_n kX11_garbled rfl rfl ?_
      refine fz_iload_n kX11_garbled rfl rfl ?_
      have b11 : 0 ≤ h 53 0 ∧ h 53 0 ≤ 8 := hI.1 53 _
      refine fz_callV (d' := 1) (M' := mX11_isTown) (As := [fz_i t]) (st := []) kX11_garbled rfl rfl vX11_isTown rfl rfl rfl rfl (Nat.le_of_ble_eq_true rfl) (Nat.le_of_ble_eq_true rfl) (by decide) (sX11_isTown h hI t ) (fun H12 r13 q14 o15 => ?_)
      obtain ⟨e16, y17, rfl, p18⟩ := q14
      subst H12
      clear o15
      rcases p18 with ⟨rfl, c19⟩ | ⟨rfl, c19⟩
      · refine fz_if_eq (tgt := 25) kX11_garbled rfl (by decide) (fun c20 => ?_) (fun c20 => ?_)
        · exfalso; omega
        · refine fz_iload_n kX11_garbled rfl rfl ?_
          refine fz_iconst ⟨by decide, by decide⟩ kX11_garbled rfl ?_
          refine fz_iconst ⟨by decide, by decide⟩ kX11_garbled rfl ?_
          refine fz_callS (d' := 0) (M' := mX11_within) (As := [fz_i pt, fz_i 0, fz_i 1]) (st := []) kX11_garbled rfl rfl vX11_within rfl rfl (Nat.le_of_ble_eq_true rfl) (Nat.le_of_ble_eq_true rfl) (by decide) (sX11_within h hI pt 0 1 ) (fun H21 r22 q23 o24 => ?_)
          obtain ⟨e25, y26, rfl, p27⟩ := q23
          subst H21
          clear o24
          rcases p27 with ⟨rfl, c28⟩ | ⟨rfl, c28⟩
          · refine fz_if_ne (tgt := 29) kX11_garbled rfl (by decide) (fun c29 => ?_) (fun c29 => ?_)
            · refine fz_aload_n kX11_garbled rfl rfl ?_
              refine fz_iload_n kX11_garbled rfl rfl ?_
              refine fz_iload_n kX11_garbled rfl rfl ?_
              refine fz_callV (d' := 2) (M' := mX11_roadsTo) (As := [fz_i d, fz_i t]) (st := []) kX11_garbled rfl rfl vX11_roadsTo rfl rfl rfl rfl (Nat.le_of_ble_eq_true rfl) (Nat.le_of_ble_eq_true rfl) (by decide) (sX11_roadsTo_k h hI d t (by omega) (by omega)) (fun H30 r31 q32 o33 => ?_)
              obtain ⟨hI34, hf35, y37, rfl, f36⟩ := q32
              clear o33
              have hf38 := fz_fr_tr hf hf35 (show fz_su [(86, 99999), (87, 99999)] [(86, 99999), (87, 99999)] = true from rfl)
              refine fz_istore (ls' := [(4, fz_i y37), (0, fz_r 53), (1, fz_i d), (2, fz_i t), (3, fz_i pt)]) kX11_garbled rfl (by decide) rfl ?_
              refine fz_iload kX11_garbled rfl rfl ?_
              refine fz_bipush ⟨by decide, by decide⟩ kX11_garbled rfl ?_
              refine fz_icmp_ne (tgt := 47) kX11_garbled rfl (by decide) (fun c39 => ?_) (fun c39 => ?_)
              · refine fz_lconst (x := 0) ⟨by decide, by decide⟩ rfl kX11_garbled rfl ?_
                refine fz_lstore (ls' := [(5, fz_l 0), (4, fz_i y37), (0, fz_r 53), (1, fz_i d), (2, fz_i t), (3, fz_i pt)]) kX11_garbled rfl (by decide) rfl ?_
                refine fz_lconst (x := 1) ⟨by decide, by decide⟩ rfl kX11_garbled rfl ?_
                refine fz_lstore (ls' := [(7, fz_l 1), (5, fz_l 0), (4, fz_i y37), (0, fz_r 53), (1, fz_i d), (2, fz_i t), (3, fz_i pt)]) kX11_garbled rfl (by decide) rfl ?_
                refine fz_iconst ⟨by decide, by decide⟩ kX11_garbled rfl ?_
                refine fz_istore (ls' := [(9, fz_i 0), (7, fz_l 1), (5, fz_l 0), (4, fz_i y37), (0, fz_r 53), (1, fz_i d), (2, fz_i t), (3, fz_i pt)]) kX11_garbled rfl (by decide) rfl ?_
                have lp43 : ∀ (n42 : Nat) (x40 : Int) (x41 : Int), (0 ≤ x40 ∧ x40 ≤ 7) → (1 ≤ x41 ∧ x41 ≤ 35831808) → (((x40 = 0 ∧ x41 = 1) ∨ (x40 = 1 ∧ x41 = 12) ∨ (x40 = 2 ∧ x41 = 144) ∨ (x40 = 3 ∧ x41 = 1728) ∨ (x40 = 4 ∧ x41 = 20736) ∨ (x40 = 5 ∧ x41 = 248832) ∨ (x40 = 6 ∧ x41 = 2985984) ∨ (x40 = 7 ∧ x41 = 35831808))) → (y37 - x40).toNat < n42 → fz_R 3 mX11_garbled 56 [(9, fz_i x40), (7, fz_l x41), (5, fz_l 0), (4, fz_i y37), (0, fz_r 53), (1, fz_i d), (2, fz_i t), (3, fz_i pt)] [] H30 (qX11_garbled h d t pt) := by
                  intro n42
                  induction n42 with
                  | zero => intro x40 x41 hv46 hv47 hv48 hm45; exact absurd hm45 (by omega)
                  | succ n42 ih44 =>
                    intro x40 x41 hv46 hv47 hv48 hm45
                    refine fz_iload kX11_garbled rfl rfl ?_
                    refine fz_iload kX11_garbled rfl rfl ?_
                    refine fz_icmp_ge (tgt := 77) kX11_garbled rfl (by decide) (fun c49 => ?_) (fun c49 => ?_)
                    · clear hv48
                      refine fz_iconst ⟨by decide, by decide⟩ kX11_garbled rfl ?_
                      refine fz_istore (ls' := [(9, fz_i 0), (7, fz_l x41), (5, fz_l 0), (4, fz_i y37), (0, fz_r 53), (1, fz_i d), (2, fz_i t), (3, fz_i pt)]) kX11_garbled rfl (by decide) rfl ?_
                      have lp54 : ∀ (n53 : Nat) (x51 : Int) (x52 : Int), (0 ≤ x51 ∧ x51 ≤ 12) → ((-9223372036854775808) ≤ x52 ∧ x52 ≤ 9223372036854775807) → (y37 + 1 - x51).toNat < n53 → fz_R 3 mX11_garbled 80 [(9, fz_i x51), (7, fz_l x41), (5, fz_l x52), (4, fz_i y37), (0, fz_r 53), (1, fz_i d), (2, fz_i t), (3, fz_i pt)] [] H30 (qX11_garbled h d t pt) := by
                        intro n53
                        induction n53 with
                        | zero => intro x51 x52 hv57 hv58 hm56; exact absurd hm56 (by omega)
                        | succ n53 ih55 =>
                          intro x51 x52 hv57 hv58 hm56
                          refine fz_iload kX11_garbled rfl rfl ?_
                          refine fz_iload kX11_garbled rfl rfl ?_
                          refine fz_icmp_gt (tgt := 180) kX11_garbled rfl (by decide) (fun c59 => ?_) (fun c59 => ?_)
                          · refine fz_lload kX11_garbled rfl rfl ?_
                            refine fz_lstore (ls' := [(9, fz_l x52), (7, fz_l x41), (5, fz_l x52), (4, fz_i y37), (0, fz_r 53), (1, fz_i d), (2, fz_i t), (3, fz_i pt)]) kX11_garbled rfl (by decide) rfl ?_
                            refine fz_lload kX11_garbled rfl rfl ?_
                            refine fz_lstore (ls' := [(11, fz_l x41), (9, fz_l x52), (7, fz_l x41), (5, fz_l x52), (4, fz_i y37), (0, fz_r 53), (1, fz_i d), (2, fz_i t), (3, fz_i pt)]) kX11_garbled rfl (by decide) rfl ?_
                            have lp63 : ∀ (n62 : Nat) (x60 : Int) (x61 : Int), ((-9223372036854775808) ≤ x60 ∧ x60 ≤ 9223372036854775807) → ((-9223372036854775808) ≤ x61 ∧ x61 ≤ 9223372036854775807) → (x61 ≠ 0 ∨ x60 ≠ 0) → (max x60 (-x60)).toNat < n62 → fz_R 3 mX11_garbled 188 [(11, fz_l x60), (9, fz_l x61), (7, fz_l x41), (5, fz_l x52), (4, fz_i y37), (0, fz_r 53), (1, fz_i d), (2, fz_i t), (3, fz_i pt)] [] H30 (qX11_garbled h d t pt) := by
                              intro n62
                              induction n62 with
                              | zero => intro x60 x61 hv66 hv67 hv68 hm65; exact absurd hm65 (by omega)
                              | succ n62 ih64 =>
                                intro x60 x61 hv66 hv67 hv68 hm65
                                refine fz_lload kX11_garbled rfl rfl ?_
                                refine fz_lconst (x := 0) ⟨by decide, by decide⟩ rfl kX11_garbled rfl ?_
                                refine fz_lcmp kX11_garbled rfl ?_
                                have b69 := fz_cmp_c x60 0
                                refine fz_if_eq (tgt := 213) kX11_garbled rfl (by decide) (fun c70 => ?_) (fun c70 => ?_)
                                · refine fz_iload_n kX11_garbled rfl rfl ?_
                                  refine fz_if_ne (tgt := 225) kX11_garbled rfl (by decide) (fun c71 => ?_) (fun c71 => ?_)
                                  · refine fz_lload kX11_garbled rfl rfl ?_
                                    refine fz_lload kX11_garbled rfl rfl ?_
                                    refine fz_ldiv (by omega) kX11_garbled rfl ?_
                                    refine fz_nmx (fun z72 e73 => ?_)
                                    exact fz_lret kX11_garbled rfl rfl (fun _ => ⟨hI34, hf38, _, rfl, (by omega)⟩)
                                  · refine fz_lload kX11_garbled rfl rfl ?_
                                    refine fz_lload kX11_garbled rfl rfl ?_
                                    refine fz_ldiv (by omega) kX11_garbled rfl ?_
                                    refine fz_nmx (fun z74 e75 => ?_)
                                    refine fz_goto (tgt := 230) kX11_garbled rfl (by decide) ?_
                                    exact fz_lret kX11_garbled rfl rfl (fun _ => ⟨hI34, hf38, _, rfl, (by omega)⟩)
                                · refine fz_lload kX11_garbled rfl rfl ?_
                                  refine fz_lload kX11_garbled rfl rfl ?_
                                  refine fz_lremT (by omega) kX11_garbled rfl (fun z76 e77 e78 => ?_)
                                  refine fz_lstore (ls' := [(13, fz_l z76), (11, fz_l x60), (9, fz_l x61), (7, fz_l x41), (5, fz_l x52), (4, fz_i y37), (0, fz_r 53), (1, fz_i d), (2, fz_i t), (3, fz_i pt)]) kX11_garbled rfl (by decide) rfl ?_
                                  refine fz_lload kX11_garbled rfl rfl ?_
                                  refine fz_lstore (ls' := [(9, fz_l x60), (13, fz_l z76), (11, fz_l x60), (7, fz_l x41), (5, fz_l x52), (4, fz_i y37), (0, fz_r 53), (1, fz_i d), (2, fz_i t), (3, fz_i pt)]) kX11_garbled rfl (by decide) rfl ?_
                                  refine fz_lload kX11_garbled rfl rfl ?_
                                  refine fz_lstore (ls' := [(11, fz_l z76), (9, fz_l x60), (13, fz_l z76), (7, fz_l x41), (5, fz_l x52), (4, fz_i y37), (0, fz_r 53), (1, fz_i d), (2, fz_i t), (3, fz_i pt)]) kX11_garbled rfl (by decide) rfl ?_
                                  refine fz_goto (tgt := 188) kX11_garbled rfl (by decide) ?_
                                  refine fz_sub (fz_pk_sub (ls' := [(11, fz_l z76), (9, fz_l x60), (7, fz_l x41), (5, fz_l x52), (4, fz_i y37), (0, fz_r 53), (1, fz_i d), (2, fz_i t), (3, fz_i pt)]) [0, 1, 3, 4, 5, 6, 7, 8, 9] rfl) ?_
                                  exact ih64 z76 x60 (by omega) (by omega) (by omega) (by omega)
                            exact lp63 _ x41 x52 (by omega) (by omega) (by omega) (Nat.lt_succ_self _)
                          · refine fz_lconst (x := 1) ⟨by decide, by decide⟩ rfl kX11_garbled rfl ?_
                            refine fz_lstore (ls' := [(10, fz_l 1), (9, fz_i x51), (7, fz_l x41), (5, fz_l x52), (4, fz_i y37), (0, fz_r 53), (1, fz_i d), (2, fz_i t), (3, fz_i pt)]) kX11_garbled rfl (by decide) rfl ?_
                            refine fz_iconst ⟨by decide, by decide⟩ kX11_garbled rfl ?_
                            refine fz_istore (ls' := [(12, fz_i 0), (10, fz_l 1), (9, fz_i x51), (7, fz_l x41), (5, fz_l x52), (4, fz_i y37), (0, fz_r 53), (1, fz_i d), (2, fz_i t), (3, fz_i pt)]) kX11_garbled rfl (by decide) rfl ?_
                            have lp82 : ∀ (n81 : Nat) (x79 : Int) (x80 : Int), (0 ≤ x79 ∧ x79 ≤ 12) → ((-9223372036854775808) ≤ x80 ∧ x80 ≤ 9223372036854775807) → (x79 ≤ x51) → (x51 - x79).toNat < n81 → fz_R 3 mX11_garbled 93 [(12, fz_i x79), (10, fz_l x80), (9, fz_i x51), (7, fz_l x41), (5, fz_l x52), (4, fz_i y37), (0, fz_r 53), (1, fz_i d), (2, fz_i t), (3, fz_i pt)] [] H30 (qX11_garbled h d t pt) := by
                              intro n81
                              induction n81 with
                              | zero => intro x79 x80 hv85 hv86 hv87 hm84; exact absurd hm84 (by omega)
                              | succ n81 ih83 =>
                                intro x79 x80 hv85 hv86 hv87 hm84
                                refine fz_iload kX11_garbled rfl rfl ?_
                                refine fz_iload kX11_garbled rfl rfl ?_
                                refine fz_icmp_ge (tgt := 123) kX11_garbled rfl (by decide) (fun c88 => ?_) (fun c88 => ?_)
                                · refine fz_iconst ⟨by decide, by decide⟩ kX11_garbled rfl ?_
                                  refine fz_istore (ls' := [(12, fz_i 0), (10, fz_l x80), (9, fz_i x51), (7, fz_l x41), (5, fz_l x52), (4, fz_i y37), (0, fz_r 53), (1, fz_i d), (2, fz_i t), (3, fz_i pt)]) kX11_garbled rfl (by decide) rfl ?_
                                  have lp92 : ∀ (n91 : Nat) (x89 : Int) (x90 : Int), (0 ≤ x89 ∧ x89 ≤ 7) → ((-9223372036854775808) ≤ x90 ∧ x90 ≤ 9223372036854775807) → (y37 - x89).toNat < n91 → fz_R 3 mX11_garbled 126 [(12, fz_i x89), (10, fz_l x90), (9, fz_i x51), (7, fz_l x41), (5, fz_l x52), (4, fz_i y37), (0, fz_r 53), (1, fz_i d), (2, fz_i t), (3, fz_i pt)] [] H30 (qX11_garbled h d t pt) := by
                                    intro n91
                                    induction n91 with
                                    | zero => intro x89 x90 hv95 hv96 hm94; exact absurd hm94 (by omega)
                                    | succ n91 ih93 =>
                                      intro x89 x90 hv95 hv96 hm94
                                      refine fz_iload kX11_garbled rfl rfl ?_
                                      refine fz_iload kX11_garbled rfl rfl ?_
                                      refine fz_icmp_ge (tgt := 167) kX11_garbled rfl (by decide) (fun c97 => ?_) (fun c97 => ?_)
                                      · refine fz_lload kX11_garbled rfl rfl ?_
                                        refine fz_lload kX11_garbled rfl rfl ?_
                                        refine fz_ladd kX11_garbled rfl ?_
                                        refine fz_nmx (fun z98 e99 => ?_)
                                        refine fz_lstore (ls' := [(5, fz_l z98), (12, fz_i x89), (10, fz_l x90), (9, fz_i x51), (7, fz_l x41), (4, fz_i y37), (0, fz_r 53), (1, fz_i d), (2, fz_i t), (3, fz_i pt)]) kX11_garbled rfl (by decide) rfl ?_
                                        refine fz_iincN (ls' := [(9, fz_i (x51 + 5)), (5, fz_l z98), (12, fz_i x89), (10, fz_l x90), (7, fz_l x41), (4, fz_i y37), (0, fz_r 53), (1, fz_i d), (2, fz_i t), (3, fz_i pt)]) kX11_garbled rfl (by decide) rfl (by omega) rfl ?_
                                        refine fz_goto (tgt := 80) kX11_garbled rfl (by decide) ?_
                                        refine fz_sub (fz_pk_sub (ls' := [(9, fz_i (x51 + 5)), (7, fz_l x41), (5, fz_l z98), (4, fz_i y37), (0, fz_r 53), (1, fz_i d), (2, fz_i t), (3, fz_i pt)]) [0, 4, 1, 5, 6, 7, 8, 9] rfl) ?_
                                        exact ih55 (x51 + 5) z98 (by omega) (by omega) (by omega)
                                      · refine fz_lload kX11_garbled rfl rfl ?_
                                        refine fz_iload kX11_garbled rfl rfl ?_
                                        refine fz_iload kX11_garbled rfl rfl ?_
                                        refine fz_icmp_ge (tgt := 150) kX11_garbled rfl (by decide) (fun c100 => ?_) (fun c100 => ?_)
                                        · refine fz_bipush ⟨by decide, by decide⟩ kX11_garbled rfl ?_
                                          refine fz_aload_n kX11_garbled rfl rfl ?_
                                          refine fz_getV (v := h 53 9) kX11_garbled rfl rfl (hf38 53 9 rfl) ?_
                                          have b101 : 0 ≤ h 53 9 ∧ h 53 9 ≤ 12 := hI.1 53 _
                                          refine fz_isubN kX11_garbled rfl (by omega) ?_
                                          refine fz_i2l kX11_garbled rfl ?_
                                          refine fz_lmul kX11_garbled rfl ?_
                                          refine fz_nmx (fun z102 e103 => ?_)
                                          refine fz_lstore (ls' := [(10, fz_l z102), (12, fz_i x89), (9, fz_i x51), (7, fz_l x41), (5, fz_l x52), (4, fz_i y37), (0, fz_r 53), (1, fz_i d), (2, fz_i t), (3, fz_i pt)]) kX11_garbled rfl (by decide) rfl ?_
                                          refine fz_iincN (ls' := [(12, fz_i (x89 + 1)), (10, fz_l z102), (9, fz_i x51), (7, fz_l x41), (5, fz_l x52), (4, fz_i y37), (0, fz_r 53), (1, fz_i d), (2, fz_i t), (3, fz_i pt)]) kX11_garbled rfl (by decide) rfl (by omega) rfl ?_
                                          refine fz_goto (tgt := 126) kX11_garbled rfl (by decide) ?_
                                          exact ih93 (x89 + 1) z102 (by omega) (by omega) (by omega)
                                        · refine fz_aload_n kX11_garbled rfl rfl ?_
                                          refine fz_getV (v := h 53 9) kX11_garbled rfl rfl (hf38 53 9 rfl) ?_
                                          have b104 : 0 ≤ h 53 9 ∧ h 53 9 ≤ 12 := hI.1 53 _
                                          refine fz_i2l kX11_garbled rfl ?_
                                          refine fz_goto (tgt := 158) kX11_garbled rfl (by decide) ?_
                                          refine fz_lmul kX11_garbled rfl ?_
                                          refine fz_nmx (fun z105 e106 => ?_)
                                          refine fz_lstore (ls' := [(10, fz_l z105), (12, fz_i x89), (9, fz_i x51), (7, fz_l x41), (5, fz_l x52), (4, fz_i y37), (0, fz_r 53), (1, fz_i d), (2, fz_i t), (3, fz_i pt)]) kX11_garbled rfl (by decide) rfl ?_
                                          refine fz_iincN (ls' := [(12, fz_i (x89 + 1)), (10, fz_l z105), (9, fz_i x51), (7, fz_l x41), (5, fz_l x52), (4, fz_i y37), (0, fz_r 53), (1, fz_i d), (2, fz_i t), (3, fz_i pt)]) kX11_garbled rfl (by decide) rfl (by omega) rfl ?_
                                          refine fz_goto (tgt := 126) kX11_garbled rfl (by decide) ?_
                                          exact ih93 (x89 + 1) z105 (by omega) (by omega) (by omega)
                                  exact lp92 _ 0 x80 (by omega) (by omega) (Nat.lt_succ_self _)
                                · refine fz_lload kX11_garbled rfl rfl ?_
                                  refine fz_iload kX11_garbled rfl rfl ?_
                                  refine fz_iload kX11_garbled rfl rfl ?_
                                  refine fz_isubN kX11_garbled rfl (by omega) ?_
                                  refine fz_i2l kX11_garbled rfl ?_
                                  refine fz_lmul kX11_garbled rfl ?_
                                  refine fz_nmx (fun z107 e108 => ?_)
                                  refine fz_iload kX11_garbled rfl rfl ?_
                                  refine fz_iconst ⟨by decide, by decide⟩ kX11_garbled rfl ?_
                                  refine fz_iaddN kX11_garbled rfl (by omega) ?_
                                  refine fz_i2l kX11_garbled rfl ?_
                                  refine fz_ldiv (by omega) kX11_garbled rfl ?_
                                  refine fz_nmx (fun z109 e110 => ?_)
                                  refine fz_lstore (ls' := [(10, fz_l z109), (12, fz_i x79), (9, fz_i x51), (7, fz_l x41), (5, fz_l x52), (4, fz_i y37), (0, fz_r 53), (1, fz_i d), (2, fz_i t), (3, fz_i pt)]) kX11_garbled rfl (by decide) rfl ?_
                                  refine fz_iincN (ls' := [(12, fz_i (x79 + 1)), (10, fz_l z109), (9, fz_i x51), (7, fz_l x41), (5, fz_l x52), (4, fz_i y37), (0, fz_r 53), (1, fz_i d), (2, fz_i t), (3, fz_i pt)]) kX11_garbled rfl (by decide) rfl (by omega) rfl ?_
                                  refine fz_goto (tgt := 93) kX11_garbled rfl (by decide) ?_
                                  exact ih83 (x79 + 1) z109 (by omega) (by omega) (by omega) (by omega)
                            exact lp82 _ 0 1 (by omega) (by omega) (by omega) (Nat.lt_succ_self _)
                      exact lp54 _ 0 0 (by omega) (by omega) (Nat.lt_succ_self _)
                    · refine fz_lload kX11_garbled rfl rfl ?_
                      refine fz_ldc2 (x := 12) kX11_garbled rfl rfl rfl ?_
                      refine fz_lmulN kX11_garbled rfl (by omega) ?_
                      refine fz_lstore (ls' := [(7, fz_l (x41 * 12)), (9, fz_i x40), (5, fz_l 0), (4, fz_i y37), (0, fz_r 53), (1, fz_i d), (2, fz_i t), (3, fz_i pt)]) kX11_garbled rfl (by decide) rfl ?_
                      refine fz_iincN (ls' := [(9, fz_i (x40 + 1)), (7, fz_l (x41 * 12)), (5, fz_l 0), (4, fz_i y37), (0, fz_r 53), (1, fz_i d), (2, fz_i t), (3, fz_i pt)]) kX11_garbled rfl (by decide) rfl (by omega) rfl ?_
                      refine fz_goto (tgt := 56) kX11_garbled rfl (by decide) ?_
                      exact ih44 (x40 + 1) (x41 * 12) (by omega) (by omega) (fz_p12_n hv48 (by omega)) (by omega)
                exact lp43 _ 0 1 (by omega) (by omega) (fz_p12_0) (Nat.lt_succ_self _)
              · refine fz_iload_n kX11_garbled rfl rfl ?_
                refine fz_i2l kX11_garbled rfl ?_
                exact fz_lret kX11_garbled rfl rfl (fun _ => ⟨hI34, hf38, _, rfl, (by omega)⟩)
            · exfalso; omega
          · refine fz_if_ne (tgt := 29) kX11_garbled rfl (by decide) (fun c113 => ?_) (fun c113 => ?_)
            · exfalso; omega
            · refine fz_ldc2 (x := (-9223372036854775808)) kX11_garbled rfl rfl rfl ?_
              exact fz_lret kX11_garbled rfl rfl (fun _ => ⟨hI, hf, _, rfl, (by omega)⟩)
      · refine fz_if_eq (tgt := 25) kX11_garbled rfl (by decide) (fun c114 => ?_) (fun c114 => ?_)
        · refine fz_ldc2 (x := (-9223372036854775808)) kX11_garbled rfl rfl rfl ?_
          exact fz_lret kX11_garbled rfl rfl (fun _ => ⟨hI, hf, _, rfl, (by omega)⟩)
        · exfalso; omega
  · refine fz_if_eq (tgt := 25) kX11_garbled rfl (by decide) (fun c115 => ?_) (fun c115 => ?_)
    · refine fz_ldc2 (x := (-9223372036854775808)) kX11_garbled rfl rfl rfl ?_
      exact fz_lret kX11_garbled rfl rfl (fun _ => ⟨hI, hf, _, rfl, (by omega)⟩)
    · exfalso; omega
