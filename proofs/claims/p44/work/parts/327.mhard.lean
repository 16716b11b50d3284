/-! ===== what the methods keep ===== -/
abbrev qX11_both (h : fz_H) (c x y : Int) : fz_H → Option fz_V → Prop := fun h' r0 => h' = h ∧ ∃ r : Int, r0 = some (fz_i r) ∧ ((-2147483648) ≤ r ∧ r ≤ 2147483647)
set_option maxHeartbeats 1000000 in
set_option maxRecDepth 100000 in
theorem sX11_both (h : fz_H) (hI : fz_Iv h) (c x y : Int) : fz_R 0 mX11_both 0 [(0, fz_i c), (1, fz_i x), (2, fz_i y)] [] h (qX11_both h c x y) := by
  refine fz_knowl (fun hk => ?_)
  have hr_c : -2147483648 ≤ c ∧ c < 2147483648 := hk _ (List.Mem.head _)
  have hr_x : -2147483648 ≤ x ∧ x < 2147483648 := hk _ (List.Mem.tail _ (List.Mem.head _))
  have hr_y : -2147483648 ≤ y ∧ y < 2147483648 := hk _ (List.Mem.tail _ (List.Mem.tail _ (List.Mem.head _)))
  clear hk
  refine fz_iload_n kX11_both rfl rfl ?_
  rcases (show c = 6 ∨ c = 7 ∨ c = 8 ∨ c = 9 ∨ c = 10 ∨ c = 11 ∨ c = 12 ∨ c = 13 ∨ c = 14 ∨ (c < 6 ∨ 14 < c) by omega) with c1 | c1 | c1 | c1 | c1 | c1 | c1 | c1 | c1 | c1
  · refine fz_tswC (j := 6) (tgt := 52) kX11_both rfl c1 (by decide) (by decide) rfl (by decide) ?_
    refine fz_iload_n kX11_both rfl rfl ?_
    refine fz_if_ne (tgt := 60) kX11_both rfl (by decide) (fun c2 => ?_) (fun c2 => ?_)
    · refine fz_iconst ⟨by decide, by decide⟩ kX11_both rfl ?_
      refine fz_goto (tgt := 65) kX11_both rfl (by decide) ?_
      exact fz_iret kX11_both rfl rfl (fun _ => ⟨rfl, _, rfl, (by omega)⟩)
    · refine fz_iload_n kX11_both rfl rfl ?_
      refine fz_if_eq (tgt := 64) kX11_both rfl (by decide) (fun c3 => ?_) (fun c3 => ?_)
      · refine fz_iconst ⟨by decide, by decide⟩ kX11_both rfl ?_
        exact fz_iret kX11_both rfl rfl (fun _ => ⟨rfl, _, rfl, (by omega)⟩)
      · refine fz_iconst ⟨by decide, by decide⟩ kX11_both rfl ?_
        refine fz_goto (tgt := 65) kX11_both rfl (by decide) ?_
        exact fz_iret kX11_both rfl rfl (fun _ => ⟨rfl, _, rfl, (by omega)⟩)
  · refine fz_tswC (j := 7) (tgt := 66) kX11_both rfl c1 (by decide) (by decide) rfl (by decide) ?_
    refine fz_iload_n kX11_both rfl rfl ?_
    refine fz_if_eq (tgt := 78) kX11_both rfl (by decide) (fun c4 => ?_) (fun c4 => ?_)
    · refine fz_iconst ⟨by decide, by decide⟩ kX11_both rfl ?_
      exact fz_iret kX11_both rfl rfl (fun _ => ⟨rfl, _, rfl, (by omega)⟩)
    · refine fz_iload_n kX11_both rfl rfl ?_
      refine fz_if_eq (tgt := 78) kX11_both rfl (by decide) (fun c5 => ?_) (fun c5 => ?_)
      · refine fz_iconst ⟨by decide, by decide⟩ kX11_both rfl ?_
        exact fz_iret kX11_both rfl rfl (fun _ => ⟨rfl, _, rfl, (by omega)⟩)
      · refine fz_iconst ⟨by decide, by decide⟩ kX11_both rfl ?_
        refine fz_goto (tgt := 79) kX11_both rfl (by decide) ?_
        exact fz_iret kX11_both rfl rfl (fun _ => ⟨rfl, _, rfl, (by omega)⟩)
  · refine fz_tswC (j := 8) (tgt := 80) kX11_both rfl c1 (by decide) (by decide) rfl (by decide) ?_
    refine fz_iload_n kX11_both rfl rfl ?_
    refine fz_iload_n kX11_both rfl rfl ?_
    refine fz_icmp_ge (tgt := 89) kX11_both rfl (by decide) (fun c6 => ?_) (fun c6 => ?_)
    · refine fz_iconst ⟨by decide, by decide⟩ kX11_both rfl ?_
      exact fz_iret kX11_both rfl rfl (fun _ => ⟨rfl, _, rfl, (by omega)⟩)
    · refine fz_iconst ⟨by decide, by decide⟩ kX11_both rfl ?_
      refine fz_goto (tgt := 90) kX11_both rfl (by decide) ?_
      exact fz_iret kX11_both rfl rfl (fun _ => ⟨rfl, _, rfl, (by omega)⟩)
  · refine fz_tswC (j := 9) (tgt := 91) kX11_both rfl c1 (by decide) (by decide) rfl (by decide) ?_
    refine fz_iload_n kX11_both rfl rfl ?_
    refine fz_iload_n kX11_both rfl rfl ?_
    refine fz_icmp_ne (tgt := 100) kX11_both rfl (by decide) (fun c7 => ?_) (fun c7 => ?_)
    · refine fz_iconst ⟨by decide, by decide⟩ kX11_both rfl ?_
      exact fz_iret kX11_both rfl rfl (fun _ => ⟨rfl, _, rfl, (by omega)⟩)
    · refine fz_iconst ⟨by decide, by decide⟩ kX11_both rfl ?_
      refine fz_goto (tgt := 101) kX11_both rfl (by decide) ?_
      exact fz_iret kX11_both rfl rfl (fun _ => ⟨rfl, _, rfl, (by omega)⟩)
  · refine fz_tswC (j := 10) (tgt := 102) kX11_both rfl c1 (by decide) (by decide) rfl (by decide) ?_
    refine fz_iload_n kX11_both rfl rfl ?_
    refine fz_iload_n kX11_both rfl rfl ?_
    refine fz_icmp_le (tgt := 111) kX11_both rfl (by decide) (fun c8 => ?_) (fun c8 => ?_)
    · refine fz_iconst ⟨by decide, by decide⟩ kX11_both rfl ?_
      exact fz_iret kX11_both rfl rfl (fun _ => ⟨rfl, _, rfl, (by omega)⟩)
    · refine fz_iconst ⟨by decide, by decide⟩ kX11_both rfl ?_
      refine fz_goto (tgt := 112) kX11_both rfl (by decide) ?_
      exact fz_iret kX11_both rfl rfl (fun _ => ⟨rfl, _, rfl, (by omega)⟩)
  · refine fz_tswC (j := 11) (tgt := 113) kX11_both rfl c1 (by decide) (by decide) rfl (by decide) ?_
    refine fz_iload_n kX11_both rfl rfl ?_
    refine fz_iload_n kX11_both rfl rfl ?_
    refine fz_iadd kX11_both rfl ?_
    refine fz_nmw (fun z9 e10 => ?_)
    exact fz_iret kX11_both rfl rfl (fun _ => ⟨rfl, _, rfl, (by omega)⟩)
  · refine fz_tswC (j := 12) (tgt := 117) kX11_both rfl c1 (by decide) (by decide) rfl (by decide) ?_
    refine fz_iload_n kX11_both rfl rfl ?_
    refine fz_iload_n kX11_both rfl rfl ?_
    refine fz_isub kX11_both rfl ?_
    refine fz_nmw (fun z11 e12 => ?_)
    exact fz_iret kX11_both rfl rfl (fun _ => ⟨rfl, _, rfl, (by omega)⟩)
  · refine fz_tswC (j := 13) (tgt := 121) kX11_both rfl c1 (by decide) (by decide) rfl (by decide) ?_
    refine fz_iload_n kX11_both rfl rfl ?_
    refine fz_iload_n kX11_both rfl rfl ?_
    refine fz_imul kX11_both rfl ?_
    refine fz_nmw (fun z13 e14 => ?_)
    exact fz_iret kX11_both rfl rfl (fun _ => ⟨rfl, _, rfl, (by omega)⟩)
  · refine fz_tswC (j := 14) (tgt := 125) kX11_both rfl c1 (by decide) (by decide) rfl (by decide) ?_
    refine fz_iload_n kX11_both rfl rfl ?_
    refine fz_if_ne (tgt := 133) kX11_both rfl (by decide) (fun c15 => ?_) (fun c15 => ?_)
    · refine fz_iload_n kX11_both rfl rfl ?_
      refine fz_iload_n kX11_both rfl rfl ?_
      refine fz_idiv (by omega) kX11_both rfl ?_
      refine fz_nmw (fun z16 e17 => ?_)
      exact fz_iret kX11_both rfl rfl (fun _ => ⟨rfl, _, rfl, (by omega)⟩)
    · refine fz_iconst ⟨by decide, by decide⟩ kX11_both rfl ?_
      refine fz_goto (tgt := 136) kX11_both rfl (by decide) ?_
      exact fz_iret kX11_both rfl rfl (fun _ => ⟨rfl, _, rfl, (by omega)⟩)
  · refine fz_tswO (tgt := 137) kX11_both rfl c1 (by decide) ?_
    refine fz_iload_n kX11_both rfl rfl ?_
    refine fz_if_ne (tgt := 145) kX11_both rfl (by decide) (fun c18 => ?_) (fun c18 => ?_)
    · refine fz_iload_n kX11_both rfl rfl ?_
      refine fz_iload_n kX11_both rfl rfl ?_
      refine fz_irem (by omega) kX11_both rfl ?_
      refine fz_nmw (fun z19 e20 => ?_)
      exact fz_iret kX11_both rfl rfl (fun _ => ⟨rfl, _, rfl, (by omega)⟩)
    · refine fz_iconst ⟨by decide, by decide⟩ kX11_both rfl ?_
      refine fz_goto (tgt := 148) kX11_both rfl (by decide) ?_
      exact fz_iret kX11_both rfl rfl (fun _ => ⟨rfl, _, rfl, (by omega)⟩)

abbrev qX11_worked (h : fz_H) (fr to : Int) : fz_H → Option fz_V → Prop := fun h' r0 => fz_Iv h' ∧ fz_fr [(74, 99999)] h h' ∧ ∃ r : Int, r0 = some (fz_i r) ∧ ((-2147483648) ≤ r ∧ r ≤ 2147483647)
set_option maxHeartbeats 1000000 in
set_option maxRecDepth 100000 in
theorem sX11_worked (h : fz_H) (hI : fz_Iv h) (fr to : Int) (hp0 : 0 ≤ fr ∧ fr ≤ to ∧ to ≤ 200) (hp1 : fz_Sg (h 69) fr to) : fz_R 1 mX11_worked 0 [(0, fz_r 53), (1, fz_i fr), (2, fz_i to)] [] h (qX11_worked h fr to) := by
  refine fz_knowl (fun hk => ?_)
  have hr_fr : -2147483648 ≤ fr ∧ fr < 2147483648 := hk _ (List.Mem.tail _ (List.Mem.head _))
  have hr_to : -2147483648 ≤ to ∧ to < 2147483648 := hk _ (List.Mem.tail _ (List.Mem.tail _ (List.Mem.head _)))
  clear hk
  have hf : fz_fr [(74, 99999)] h h := fz_fr_rf
  refine fz_iconst ⟨by decide, by decide⟩ kX11_worked rfl ?_
  refine fz_istore_n (ls' := [(3, fz_i 0), (0, fz_r 53), (1, fz_i fr), (2, fz_i to)]) kX11_worked rfl (by decide) rfl ?_
  refine fz_iload_n kX11_worked rfl rfl ?_
  refine fz_istore (ls' := [(4, fz_i fr), (3, fz_i 0), (0, fz_r 53), (1, fz_i fr), (2, fz_i to)]) kX11_worked rfl (by decide) rfl ?_
  have lp7 : ∀ (n6 : Nat) (x1 : Int) (x2 : Int) (H3 : fz_H), fz_Iv H3 → fz_fr [(74, 99999)] h H3 → (0 ≤ x1 ∧ x1 ≤ 200) → (0 ≤ x2 ∧ x2 ≤ 200) → (fr ≤ x1) → (x1 ≤ to) → (0 ≤ x2 ∧ x2 ≤ x1 - fr) → (fz_Dp (h 69) fr x1 x2) → (to - x1).toNat < n6 → fz_R 1 mX11_worked 5 [(4, fz_i x1), (3, fz_i x2), (0, fz_r 53), (1, fz_i fr), (2, fz_i to)] [] H3 (qX11_worked h fr to) := by
    intro n6
    induction n6 with
    | zero => intro x1 x2 H3 hI4 hf5 hv10 hv11 hv12 hv13 hv14 hv15 hm9; exact absurd hm9 (by omega)
    | succ n6 ih8 =>
      intro x1 x2 H3 hI4 hf5 hv10 hv11 hv12 hv13 hv14 hv15 hm9
      refine fz_iload kX11_worked rfl rfl ?_
      refine fz_iload_n kX11_worked rfl rfl ?_
      refine fz_icmp_ge (tgt := 163) kX11_worked rfl (by decide) (fun c16 => ?_) (fun c16 => ?_)
      · refine fz_aload_n kX11_worked rfl rfl ?_
        refine fz_getR (t := 74) kX11_worked rfl rfl ?_
        refine fz_iconst ⟨by decide, by decide⟩ kX11_worked rfl ?_
        obtain ⟨v17, e18⟩ : ∃ z, H3 74 (0) = z := ⟨_, rfl⟩
        refine fz_ialdV (n := 200) (v := v17) kX11_worked rfl rfl (by omega) (by omega) e18 ?_
        have b19 : (-2147483648) ≤ v17 ∧ v17 ≤ 2147483647 := by rw [← e18]; exact hI4.1 74 _
        exact fz_iret kX11_worked rfl rfl (fun _ => ⟨hI4, hf5, _, rfl, (by omega)⟩)
      · refine fz_aload_n kX11_worked rfl rfl ?_
        refine fz_getR (t := 69) kX11_worked rfl rfl ?_
        refine fz_iload kX11_worked rfl rfl ?_
        refine fz_ialdV (n := 200) (v := h 69 (x1.toNat)) kX11_worked rfl rfl (by omega) (by omega) (hf5 69 _ rfl) ?_
        have b20 : (-2147483648) ≤ h 69 (x1.toNat) ∧ h 69 (x1.toNat) ≤ 2147483647 := hI.1 69 _
        have k21 := fz_Dp_o hv15 hp1 (by omega)
        refine fz_istore (ls' := [(5, fz_i (h 69 (x1.toNat))), (4, fz_i x1), (3, fz_i x2), (0, fz_r 53), (1, fz_i fr), (2, fz_i to)]) kX11_worked rfl (by decide) rfl ?_
        refine fz_iload kX11_worked rfl rfl ?_
        refine fz_bipush ⟨by decide, by decide⟩ kX11_worked rfl ?_
        refine fz_icmp_ge (tgt := 33) kX11_worked rfl (by decide) (fun c23 => ?_) (fun c23 => ?_)
        · refine fz_aload_n kX11_worked rfl rfl ?_
          refine fz_getR (t := 74) kX11_worked rfl rfl ?_
          refine fz_iload_n kX11_worked rfl rfl ?_
          refine fz_iincN (ls' := [(3, fz_i (x2 + 1)), (5, fz_i (h 69 (x1.toNat))), (4, fz_i x1), (0, fz_r 53), (1, fz_i fr), (2, fz_i to)]) kX11_worked rfl (by decide) rfl (by omega) rfl ?_
          refine fz_iload kX11_worked rfl rfl ?_
          refine fz_bipush ⟨by decide, by decide⟩ kX11_worked rfl ?_
          refine fz_icmp_lt (tgt := 56) kX11_worked rfl (by decide) (fun c24 => ?_) (fun c24 => ?_)
          · exfalso; omega
          · refine fz_iload kX11_worked rfl rfl ?_
            refine fz_bipush ⟨by decide, by decide⟩ kX11_worked rfl ?_
            refine fz_isubN kX11_worked rfl (by omega) ?_
            refine fz_goto (tgt := 63) kX11_worked rfl (by decide) ?_
            refine fz_iast (n := 200) kX11_worked rfl rfl (by omega) (by omega) ?_
            refine fz_nmu (S := [(74, 99999)]) (h0 := h) (fz_Iv_up hI4 (by decide) (show ((-2147483648) : Int) ≤ ((h 69 (x1.toNat)) - 18) by omega) (show (((h 69 (x1.toNat)) - 18) : Int) ≤ 2147483647 by omega)) (fz_fr_up hf5 rfl) (fun H25 hI26 hf27 e28 => ?_)
            refine fz_goto (tgt := 157) kX11_worked rfl (by decide) ?_
            refine fz_iincN (ls' := [(4, fz_i (x1 + 1)), (3, fz_i (x2 + 1)), (5, fz_i (h 69 (x1.toNat))), (0, fz_r 53), (1, fz_i fr), (2, fz_i to)]) kX11_worked rfl (by decide) rfl (by omega) rfl ?_
            refine fz_goto (tgt := 5) kX11_worked rfl (by decide) ?_
            refine fz_sub (fz_pk_sub (ls' := [(4, fz_i (x1 + 1)), (3, fz_i (x2 + 1)), (0, fz_r 53), (1, fz_i fr), (2, fz_i to)]) [0, 1, 3, 4, 5] rfl) ?_
            exact ih8 (x1 + 1) (x2 + 1) H25 hI26 hf27 (by omega) (by omega) (by omega) (by omega) (by omega) (fz_Dp_n hv15 hp1 (by omega) rfl (by omega)) (by omega)
        · refine fz_iload kX11_worked rfl rfl ?_
          refine fz_iconst ⟨by decide, by decide⟩ kX11_worked rfl ?_
          refine fz_icmp_gt (tgt := 67) kX11_worked rfl (by decide) (fun c30 => ?_) (fun c30 => ?_)
          · refine fz_iload kX11_worked rfl rfl ?_
            refine fz_bipush ⟨by decide, by decide⟩ kX11_worked rfl ?_
            refine fz_icmp_eq (tgt := 81) kX11_worked rfl (by decide) (fun c31 => ?_) (fun c31 => ?_)
            · refine fz_aload_n kX11_worked rfl rfl ?_
              refine fz_getR (t := 74) kX11_worked rfl rfl ?_
              refine fz_iload_n kX11_worked rfl rfl ?_
              refine fz_iconst ⟨by decide, by decide⟩ kX11_worked rfl ?_
              refine fz_isubN kX11_worked rfl (by omega) ?_
              refine fz_iload kX11_worked rfl rfl ?_
              refine fz_bipush ⟨by decide, by decide⟩ kX11_worked rfl ?_
              refine fz_icmp_ne (tgt := 107) kX11_worked rfl (by decide) (fun c32 => ?_) (fun c32 => ?_)
              · refine fz_aload_n kX11_worked rfl rfl ?_
                refine fz_getR (t := 74) kX11_worked rfl rfl ?_
                refine fz_iload_n kX11_worked rfl rfl ?_
                refine fz_iconst ⟨by decide, by decide⟩ kX11_worked rfl ?_
                refine fz_isubN kX11_worked rfl (by omega) ?_
                obtain ⟨v33, e34⟩ : ∃ z, H3 74 ((x2 - 1).toNat) = z := ⟨_, rfl⟩
                refine fz_ialdV (n := 200) (v := v33) kX11_worked rfl rfl (by omega) (by omega) e34 ?_
                have b35 : (-2147483648) ≤ v33 ∧ v33 ≤ 2147483647 := by rw [← e34]; exact hI4.1 74 _
                refine fz_if_ne (tgt := 122) kX11_worked rfl (by decide) (fun c36 => ?_) (fun c36 => ?_)
                · refine fz_iconst ⟨by decide, by decide⟩ kX11_worked rfl ?_
                  refine fz_iast (n := 200) kX11_worked rfl rfl (by omega) (by omega) ?_
                  refine fz_nmu (S := [(74, 99999)]) (h0 := h) (fz_Iv_up hI4 (by decide) (show ((-2147483648) : Int) ≤ 0 by decide) (show (0 : Int) ≤ 2147483647 by decide)) (fz_fr_up hf5 rfl) (fun H37 hI38 hf39 e40 => ?_)
                  refine fz_goto (tgt := 157) kX11_worked rfl (by decide) ?_
                  refine fz_iincN (ls' := [(4, fz_i (x1 + 1)), (5, fz_i (h 69 (x1.toNat))), (3, fz_i x2), (0, fz_r 53), (1, fz_i fr), (2, fz_i to)]) kX11_worked rfl (by decide) rfl (by omega) rfl ?_
                  refine fz_goto (tgt := 5) kX11_worked rfl (by decide) ?_
                  refine fz_sub (fz_pk_sub (ls' := [(4, fz_i (x1 + 1)), (3, fz_i x2), (0, fz_r 53), (1, fz_i fr), (2, fz_i to)]) [0, 2, 3, 4, 5] rfl) ?_
                  exact ih8 (x1 + 1) x2 H37 hI38 hf39 (by omega) (by omega) (by omega) (by omega) (by omega) (fz_Dp_n hv15 hp1 (by omega) rfl (by omega)) (by omega)
                · refine fz_iconst ⟨by decide, by decide⟩ kX11_worked rfl ?_
                  refine fz_goto (tgt := 123) kX11_worked rfl (by decide) ?_
                  refine fz_iast (n := 200) kX11_worked rfl rfl (by omega) (by omega) ?_
                  refine fz_nmu (S := [(74, 99999)]) (h0 := h) (fz_Iv_up hI4 (by decide) (show ((-2147483648) : Int) ≤ 1 by decide) (show (1 : Int) ≤ 2147483647 by decide)) (fz_fr_up hf5 rfl) (fun H42 hI43 hf44 e45 => ?_)
                  refine fz_goto (tgt := 157) kX11_worked rfl (by decide) ?_
                  refine fz_iincN (ls' := [(4, fz_i (x1 + 1)), (5, fz_i (h 69 (x1.toNat))), (3, fz_i x2), (0, fz_r 53), (1, fz_i fr), (2, fz_i to)]) kX11_worked rfl (by decide) rfl (by omega) rfl ?_
                  refine fz_goto (tgt := 5) kX11_worked rfl (by decide) ?_
                  refine fz_sub (fz_pk_sub (ls' := [(4, fz_i (x1 + 1)), (3, fz_i x2), (0, fz_r 53), (1, fz_i fr), (2, fz_i to)]) [0, 2, 3, 4, 5] rfl) ?_
                  exact ih8 (x1 + 1) x2 H42 hI43 hf44 (by omega) (by omega) (by omega) (by omega) (by omega) (fz_Dp_n hv15 hp1 (by omega) rfl (by omega)) (by omega)
              · exfalso; omega
            · refine fz_iload kX11_worked rfl rfl ?_
              refine fz_bipush ⟨by decide, by decide⟩ kX11_worked rfl ?_
              refine fz_icmp_ne (tgt := 127) kX11_worked rfl (by decide) (fun c47 => ?_) (fun c47 => ?_)
              · refine fz_iincN (ls' := [(3, fz_i (x2 + (-1))), (5, fz_i (h 69 (x1.toNat))), (4, fz_i x1), (0, fz_r 53), (1, fz_i fr), (2, fz_i to)]) kX11_worked rfl (by decide) rfl (by omega) rfl ?_
                refine fz_aload_n kX11_worked rfl rfl ?_
                refine fz_getR (t := 74) kX11_worked rfl rfl ?_
                refine fz_iload_n kX11_worked rfl rfl ?_
                refine fz_iconst ⟨by decide, by decide⟩ kX11_worked rfl ?_
                refine fz_isubN kX11_worked rfl (by omega) ?_
                refine fz_iload kX11_worked rfl rfl ?_
                refine fz_aload_n kX11_worked rfl rfl ?_
                refine fz_getR (t := 74) kX11_worked rfl rfl ?_
                refine fz_iload_n kX11_worked rfl rfl ?_
                refine fz_iconst ⟨by decide, by decide⟩ kX11_worked rfl ?_
                refine fz_isubN kX11_worked rfl (by omega) ?_
                obtain ⟨v48, e49⟩ : ∃ z, H3 74 (((x2 + (-1)) - 1).toNat) = z := ⟨_, rfl⟩
                refine fz_ialdV (n := 200) (v := v48) kX11_worked rfl rfl (by omega) (by omega) e49 ?_
                have b50 : (-2147483648) ≤ v48 ∧ v48 ≤ 2147483647 := by rw [← e49]; exact hI4.1 74 _
                refine fz_aload_n kX11_worked rfl rfl ?_
                refine fz_getR (t := 74) kX11_worked rfl rfl ?_
                refine fz_iload_n kX11_worked rfl rfl ?_
                obtain ⟨v51, e52⟩ : ∃ z, H3 74 ((x2 + (-1)).toNat) = z := ⟨_, rfl⟩
                refine fz_ialdV (n := 200) (v := v51) kX11_worked rfl rfl (by omega) (by omega) e52 ?_
                have b53 : (-2147483648) ≤ v51 ∧ v51 ≤ 2147483647 := by rw [← e52]; exact hI4.1 74 _
                refine fz_callS (d' := 0) (M' := mX11_both) (As := [fz_i (h 69 (x1.toNat)), fz_i v48, fz_i v51]) (st := [fz_i ((x2 + (-1)) - 1), fz_r 74]) kX11_worked rfl rfl vX11_both rfl rfl (Nat.le_of_ble_eq_true rfl) (Nat.le_of_ble_eq_true rfl) (by decide) (sX11_both H3 hI4 (h 69 (x1.toNat)) v48 v51 ) (fun H54 r55 q56 o57 => ?_)
                obtain ⟨e58, y60, rfl, f59⟩ := q56
                subst H54
                clear o57
                refine fz_iast (n := 200) kX11_worked rfl rfl (by omega) (by omega) ?_
                refine fz_nmu (S := [(74, 99999)]) (h0 := h) (fz_Iv_up hI4 (by decide) (show ((-2147483648) : Int) ≤ y60 by omega) (show (y60 : Int) ≤ 2147483647 by omega)) (fz_fr_up hf5 rfl) (fun H61 hI62 hf63 e64 => ?_)
                refine fz_iincN (ls' := [(4, fz_i (x1 + 1)), (3, fz_i (x2 + (-1))), (5, fz_i (h 69 (x1.toNat))), (0, fz_r 53), (1, fz_i fr), (2, fz_i to)]) kX11_worked rfl (by decide) rfl (by omega) rfl ?_
                refine fz_goto (tgt := 5) kX11_worked rfl (by decide) ?_
                refine fz_sub (fz_pk_sub (ls' := [(4, fz_i (x1 + 1)), (3, fz_i (x2 + (-1))), (0, fz_r 53), (1, fz_i fr), (2, fz_i to)]) [0, 1, 3, 4, 5] rfl) ?_
                exact ih8 (x1 + 1) (x2 + (-1)) H61 hI62 hf63 (by omega) (by omega) (by omega) (by omega) (by omega) (fz_Dp_n hv15 hp1 (by omega) rfl (by omega)) (by omega)
              · refine fz_aload_n kX11_worked rfl rfl ?_
                refine fz_getR (t := 74) kX11_worked rfl rfl ?_
                refine fz_iload_n kX11_worked rfl rfl ?_
                refine fz_iconst ⟨by decide, by decide⟩ kX11_worked rfl ?_
                refine fz_isubN kX11_worked rfl (by omega) ?_
                refine fz_iload kX11_worked rfl rfl ?_
                refine fz_bipush ⟨by decide, by decide⟩ kX11_worked rfl ?_
                refine fz_icmp_ne (tgt := 107) kX11_worked rfl (by decide) (fun c66 => ?_) (fun c66 => ?_)
                · exfalso; omega
                · refine fz_aload_n kX11_worked rfl rfl ?_
                  refine fz_getR (t := 74) kX11_worked rfl rfl ?_
                  refine fz_iload_n kX11_worked rfl rfl ?_
                  refine fz_iconst ⟨by decide, by decide⟩ kX11_worked rfl ?_
                  refine fz_isubN kX11_worked rfl (by omega) ?_
                  obtain ⟨v67, e68⟩ : ∃ z, H3 74 ((x2 - 1).toNat) = z := ⟨_, rfl⟩
                  refine fz_ialdV (n := 200) (v := v67) kX11_worked rfl rfl (by omega) (by omega) e68 ?_
                  have b69 : (-2147483648) ≤ v67 ∧ v67 ≤ 2147483647 := by rw [← e68]; exact hI4.1 74 _
                  refine fz_ineg kX11_worked rfl ?_
                  refine fz_nmw (fun z70 e71 => ?_)
                  refine fz_goto (tgt := 123) kX11_worked rfl (by decide) ?_
                  refine fz_iast (n := 200) kX11_worked rfl rfl (by omega) (by omega) ?_
                  refine fz_nmu (S := [(74, 99999)]) (h0 := h) (fz_Iv_up hI4 (by decide) (show ((-2147483648) : Int) ≤ z70 by omega) (show (z70 : Int) ≤ 2147483647 by omega)) (fz_fr_up hf5 rfl) (fun H72 hI73 hf74 e75 => ?_)
                  refine fz_goto (tgt := 157) kX11_worked rfl (by decide) ?_
                  refine fz_iincN (ls' := [(4, fz_i (x1 + 1)), (5, fz_i (h 69 (x1.toNat))), (3, fz_i x2), (0, fz_r 53), (1, fz_i fr), (2, fz_i to)]) kX11_worked rfl (by decide) rfl (by omega) rfl ?_
                  refine fz_goto (tgt := 5) kX11_worked rfl (by decide) ?_
                  refine fz_sub (fz_pk_sub (ls' := [(4, fz_i (x1 + 1)), (3, fz_i x2), (0, fz_r 53), (1, fz_i fr), (2, fz_i to)]) [0, 2, 3, 4, 5] rfl) ?_
                  exact ih8 (x1 + 1) x2 H72 hI73 hf74 (by omega) (by omega) (by omega) (by omega) (by omega) (fz_Dp_n hv15 hp1 (by omega) rfl (by omega)) (by omega)
          · refine fz_aload_n kX11_worked rfl rfl ?_
            refine fz_getR (t := 74) kX11_worked rfl rfl ?_
            refine fz_iload_n kX11_worked rfl rfl ?_
            refine fz_iincN (ls' := [(3, fz_i (x2 + 1)), (5, fz_i (h 69 (x1.toNat))), (4, fz_i x1), (0, fz_r 53), (1, fz_i fr), (2, fz_i to)]) kX11_worked rfl (by decide) rfl (by omega) rfl ?_
            refine fz_iload kX11_worked rfl rfl ?_
            refine fz_bipush ⟨by decide, by decide⟩ kX11_worked rfl ?_
            refine fz_icmp_lt (tgt := 56) kX11_worked rfl (by decide) (fun c77 => ?_) (fun c77 => ?_)
            · refine fz_aload_n kX11_worked rfl rfl ?_
              refine fz_getR (t := 75) kX11_worked rfl rfl ?_
              refine fz_iload kX11_worked rfl rfl ?_
              refine fz_ialdV (n := 6) (v := h 75 ((h 69 (x1.toNat)).toNat)) kX11_worked rfl rfl (by omega) (by omega) (hf5 75 _ rfl) ?_
              have b78 : (-2147483648) ≤ h 75 ((h 69 (x1.toNat)).toNat) ∧ h 75 ((h 69 (x1.toNat)).toNat) ≤ 2147483647 := hI.1 75 _
              refine fz_iast (n := 200) kX11_worked rfl rfl (by omega) (by omega) ?_
              refine fz_nmu (S := [(74, 99999)]) (h0 := h) (fz_Iv_up hI4 (by decide) (show ((-2147483648) : Int) ≤ (h 75 ((h 69 (x1.toNat)).toNat)) by omega) (show ((h 75 ((h 69 (x1.toNat)).toNat)) : Int) ≤ 2147483647 by omega)) (fz_fr_up hf5 rfl) (fun H79 hI80 hf81 e82 => ?_)
              refine fz_goto (tgt := 157) kX11_worked rfl (by decide) ?_
              refine fz_iincN (ls' := [(4, fz_i (x1 + 1)), (3, fz_i (x2 + 1)), (5, fz_i (h 69 (x1.toNat))), (0, fz_r 53), (1, fz_i fr), (2, fz_i to)]) kX11_worked rfl (by decide) rfl (by omega) rfl ?_
              refine fz_goto (tgt := 5) kX11_worked rfl (by decide) ?_
              refine fz_sub (fz_pk_sub (ls' := [(4, fz_i (x1 + 1)), (3, fz_i (x2 + 1)), (0, fz_r 53), (1, fz_i fr), (2, fz_i to)]) [0, 1, 3, 4, 5] rfl) ?_
              exact ih8 (x1 + 1) (x2 + 1) H79 hI80 hf81 (by omega) (by omega) (by omega) (by omega) (by omega) (fz_Dp_n hv15 hp1 (by omega) rfl (by omega)) (by omega)
            · exfalso; omega
  exact lp7 _ fr 0 h hI hf (by omega) (by omega) (by omega) (by omega) (by omega) (fz_Dp_0 (by omega)) (Nat.lt_succ_self _)

abbrev qX11_sign (h : fz_H) : fz_H → Option fz_V → Prop := fun h' r0 => h' = h ∧ ∃ r : Int, r0 = some (fz_i r) ∧ ((-1) ≤ r ∧ r ≤ 255) ∧ ((h 53 24 < h 53 16 ∧ r = h 65 (h 53 24).toNat) ∨ (h 53 16 ≤ h 53 24 ∧ r = -1))
set_option maxHeartbeats 1000000 in
set_option maxRecDepth 100000 in
theorem sX11_sign (h : fz_H) (hI : fz_Iv h) (hp0 : h 53 24 ≤ h 53 16) : fz_R 0 mX11_sign 0 [(0, fz_r 53)] [] h (qX11_sign h) := by
  have b1 : 0 ≤ h 53 24 ∧ h 53 24 ≤ 120 := hI.1 53 _
  have b2 : 0 ≤ h 53 16 ∧ h 53 16 ≤ 120 := hI.1 53 _
  refine fz_aload_n kX11_sign rfl rfl ?_
  refine fz_getV (v := h 53 24) kX11_sign rfl rfl rfl ?_
  have b3 : 0 ≤ h 53 24 ∧ h 53 24 ≤ 120 := hI.1 53 _
  refine fz_aload_n kX11_sign rfl rfl ?_
  refine fz_getV (v := h 53 16) kX11_sign rfl rfl rfl ?_
  have b4 : 0 ≤ h 53 16 ∧ h 53 16 ≤ 120 := hI.1 53 _
  refine fz_icmp_ge (tgt := 23) kX11_sign rfl (by decide) (fun c5 => ?_) (fun c5 => ?_)
  · refine fz_iconst ⟨by decide, by decide⟩ kX11_sign rfl ?_
    exact fz_iret kX11_sign rfl rfl (fun _ => ⟨rfl, _, rfl, (by omega), (by omega)⟩)
  · refine fz_aload_n kX11_sign rfl rfl ?_
    refine fz_getR (t := 65) kX11_sign rfl rfl ?_
    refine fz_aload_n kX11_sign rfl rfl ?_
    refine fz_getV (v := h 53 24) kX11_sign rfl rfl rfl ?_
    refine fz_ialdV (n := 120) (v := h 65 ((h 53 24).toNat)) kX11_sign rfl rfl (by omega) (by omega) rfl ?_
    have b6 : 0 ≤ h 65 ((h 53 24).toNat) ∧ h 65 ((h 53 24).toNat) ≤ 255 := hI.1 65 _
    refine fz_goto (tgt := 24) kX11_sign rfl (by decide) ?_
    exact fz_iret kX11_sign rfl rfl (fun _ => ⟨rfl, _, rfl, (by omega), (by omega)⟩)

abbrev qX11_is (h : fz_H) (c : Int) : fz_H → Option fz_V → Prop := fun h' r0 => fz_Iv h' ∧ fz_fr [(53, 24)] h h' ∧ ∃ r : Int, r0 = some (fz_i r) ∧ (r = 0 ∨ r = 1) ∧ ((r = 1 ∧ h' 53 24 = h 53 24 + 1 ∧ h 53 24 < h 53 16) ∨ (r = 0 ∧ h' 53 24 = h 53 24))
set_option maxHeartbeats 1000000 in
set_option maxRecDepth 100000 in
theorem sX11_is (h : fz_H) (hI : fz_Iv h) (c : Int) (hp0 : h 53 24 ≤ h 53 16) (hp1 : 0 ≤ c) : fz_R 1 mX11_is 0 [(0, fz_r 53), (1, fz_i c)] [] h (qX11_is h c) := by
  refine fz_knowl (fun hk => ?_)
  have hr_c : -2147483648 ≤ c ∧ c < 2147483648 := hk _ (List.Mem.tail _ (List.Mem.head _))
  clear hk
  have hf : fz_fr [(53, 24)] h h := fz_fr_rf
  have b1 : 0 ≤ h 53 24 ∧ h 53 24 ≤ 120 := hI.1 53 _
  have b2 : 0 ≤ h 53 16 ∧ h 53 16 ≤ 120 := hI.1 53 _
  refine fz_aload_n kX11_is rfl rfl ?_
  refine fz_callV (d' := 0) (M' := mX11_sign) (As := []) (st := []) kX11_is rfl rfl vX11_sign rfl rfl rfl rfl (Nat.le_of_ble_eq_true rfl) (Nat.le_of_ble_eq_true rfl) (by decide) (sX11_sign h hI  (by omega)) (fun H3 r4 q5 o6 => ?_)
  obtain ⟨e7, y10, rfl, f8, f9⟩ := q5
  subst H3
  clear o6
  refine fz_iload_n kX11_is rfl rfl ?_
  refine fz_icmp_eq (tgt := 10) kX11_is rfl (by decide) (fun c11 => ?_) (fun c11 => ?_)
  · refine fz_aload_n kX11_is rfl rfl ?_
    refine fz_dup rfl kX11_is rfl ?_
    refine fz_getV (v := h 53 24) kX11_is rfl rfl rfl ?_
    have b12 : 0 ≤ h 53 24 ∧ h 53 24 ≤ 120 := hI.1 53 _
    refine fz_iconst ⟨by decide, by decide⟩ kX11_is rfl ?_
    refine fz_iaddN kX11_is rfl (by omega) ?_
    refine fz_putI kX11_is rfl rfl rfl ?_
    refine fz_nmu (S := [(53, 24)]) (h0 := h) (fz_Iv_up hI (by decide) (show (0 : Int) ≤ ((h 53 24) + 1) by omega) (show (((h 53 24) + 1) : Int) ≤ 120 by omega)) (fz_fr_up hf rfl) (fun H13 hI14 hf15 e16 => ?_)
    have k17 : H13 53 24 = ((h 53 24) + 1) := by rw [e16]; exact fz_up_e
    clear e16
    refine fz_iconst ⟨by decide, by decide⟩ kX11_is rfl ?_
    exact fz_zret kX11_is rfl rfl (by omega) ⟨hI14, hf15, _, rfl, (by omega), (by omega)⟩
  · refine fz_iconst ⟨by decide, by decide⟩ kX11_is rfl ?_
    exact fz_zret kX11_is rfl rfl (by omega) ⟨hI, hf, _, rfl, (by omega), (by omega)⟩

abbrev qX11_codes (h : fz_H) (c : Int) : fz_H → Option fz_V → Prop := fun h' r0 => fz_Iv h' ∧ fz_fr [(53, 26), (73, 99999)] h h' ∧ ∃ r : Int, r0 = some (fz_i r) ∧ (r = 0 ∨ r = 1) ∧ (r = 1) ∧ (h' 53 26 = h 53 26 + 1) ∧ (fz_Cd h h' c)
set_option maxHeartbeats 1000000 in
set_option maxRecDepth 100000 in
theorem sX11_codes (h : fz_H) (hI : fz_Iv h) (c : Int) (hp0 : h 53 26 ≤ 119) : fz_R 0 mX11_codes 0 [(0, fz_r 53), (1, fz_i c)] [] h (qX11_codes h c) := by
  refine fz_knowl (fun hk => ?_)
  have hr_c : -2147483648 ≤ c ∧ c < 2147483648 := hk _ (List.Mem.tail _ (List.Mem.head _))
  clear hk
  have hf : fz_fr [(53, 26), (73, 99999)] h h := fz_fr_rf
  have b1 : 0 ≤ h 53 26 ∧ h 53 26 ≤ 200 := hI.1 53 _
  refine fz_aload_n kX11_codes rfl rfl ?_
  refine fz_getR (t := 73) kX11_codes rfl rfl ?_
  refine fz_aload_n kX11_codes rfl rfl ?_
  refine fz_dup rfl kX11_codes rfl ?_
  refine fz_getV (v := h 53 26) kX11_codes rfl rfl rfl ?_
  have b2 : 0 ≤ h 53 26 ∧ h 53 26 ≤ 200 := hI.1 53 _
  refine fz_dup_x1 rfl rfl kX11_codes rfl ?_
  refine fz_iconst ⟨by decide, by decide⟩ kX11_codes rfl ?_
  refine fz_iaddN kX11_codes rfl (by omega) ?_
  refine fz_putI kX11_codes rfl rfl rfl ?_
  refine fz_nmu (S := [(53, 26), (73, 99999)]) (h0 := h) (fz_Iv_up hI (by decide) (show (0 : Int) ≤ ((h 53 26) + 1) by omega) (show (((h 53 26) + 1) : Int) ≤ 200 by omega)) (fz_fr_up hf rfl) (fun H3 hI4 hf5 e6 => ?_)
  have k7 : H3 53 26 = ((h 53 26) + 1) := by rw [e6]; exact fz_up_e
  refine fz_iload_n kX11_codes rfl rfl ?_
  refine fz_iast (n := 200) kX11_codes rfl rfl (by omega) (by omega) ?_
  refine fz_nmu (S := [(53, 26), (73, 99999)]) (h0 := h) (fz_Iv_up hI4 (by decide) (show ((-2147483648) : Int) ≤ c by omega) (show (c : Int) ≤ 2147483647 by omega)) (fz_fr_up hf5 rfl) (fun H8 hI9 hf10 e11 => ?_)
  have k12 : H8 53 26 = ((h 53 26) + 1) := by rw [e11]; exact (fz_up_o (by decide)).trans k7
  refine fz_iconst ⟨by decide, by decide⟩ kX11_codes rfl ?_
  exact fz_zret kX11_codes rfl rfl (by omega) ⟨hI9, hf10, _, rfl, (by omega), (by omega), (by omega), (by exact fz_Cd_in e6 e11 rfl rfl (by omega))⟩

abbrev qX11_isDigit (h : fz_H) : fz_H → Option fz_V → Prop := fun h' r0 => h' = h ∧ ∃ r : Int, r0 = some (fz_i r) ∧ ((r = 1 ∧ (h 53 24 < h 53 16 ∧ 48 ≤ h 65 (h 53 24).toNat ∧ h 65 (h 53 24).toNat ≤ 57)) ∨ (r = 0 ∧ ¬ (h 53 24 < h 53 16 ∧ 48 ≤ h 65 (h 53 24).toNat ∧ h 65 (h 53 24).toNat ≤ 57)))
set_option maxHeartbeats 1000000 in
set_option maxRecDepth 100000 in
theorem sX11_isDigit (h : fz_H) (hI : fz_Iv h) (hp0 : h 53 24 ≤ h 53 16) : fz_R 1 mX11_isDigit 0 [(0, fz_r 53)] [] h (qX11_isDigit h) := by
  have b1 : 0 ≤ h 53 24 ∧ h 53 24 ≤ 120 := hI.1 53 _
  have b2 : 0 ≤ h 53 16 ∧ h 53 16 ≤ 120 := hI.1 53 _
  refine fz_aload_n kX11_isDigit rfl rfl ?_
  refine fz_callV (d' := 0) (M' := mX11_sign) (As := []) (st := []) kX11_isDigit rfl rfl vX11_sign rfl rfl rfl rfl (Nat.le_of_ble_eq_true rfl) (Nat.le_of_ble_eq_true rfl) (by decide) (sX11_sign h hI  (by omega)) (fun H3 r4 q5 o6 => ?_)
  obtain ⟨e7, y10, rfl, f8, f9⟩ := q5
  subst H3
  clear o6
  refine fz_bipush ⟨by decide, by decide⟩ kX11_isDigit rfl ?_
  refine fz_icmp_lt (tgt := 22) kX11_isDigit rfl (by decide) (fun c11 => ?_) (fun c11 => ?_)
  · refine fz_iconst ⟨by decide, by decide⟩ kX11_isDigit rfl ?_
    exact fz_zret kX11_isDigit rfl rfl (by omega) ⟨rfl, _, rfl, Or.inr ⟨rfl, by omega⟩⟩
  · refine fz_aload_n kX11_isDigit rfl rfl ?_
    refine fz_callV (d' := 0) (M' := mX11_sign) (As := []) (st := []) kX11_isDigit rfl rfl vX11_sign rfl rfl rfl rfl (Nat.le_of_ble_eq_true rfl) (Nat.le_of_ble_eq_true rfl) (by decide) (sX11_sign h hI  (by omega)) (fun H12 r13 q14 o15 => ?_)
    obtain ⟨e16, y19, rfl, f17, f18⟩ := q14
    subst H12
    clear o15
    refine fz_bipush ⟨by decide, by decide⟩ kX11_isDigit rfl ?_
    refine fz_icmp_gt (tgt := 22) kX11_isDigit rfl (by decide) (fun c20 => ?_) (fun c20 => ?_)
    · refine fz_iconst ⟨by decide, by decide⟩ kX11_isDigit rfl ?_
      exact fz_zret kX11_isDigit rfl rfl (by omega) ⟨rfl, _, rfl, Or.inr ⟨rfl, by omega⟩⟩
    · refine fz_iconst ⟨by decide, by decide⟩ kX11_isDigit rfl ?_
      refine fz_goto (tgt := 23) kX11_isDigit rfl (by decide) ?_
      exact fz_zret kX11_isDigit rfl rfl (by omega) ⟨rfl, _, rfl, Or.inl ⟨rfl, by omega⟩⟩

abbrev qX11_nameOf (h : fz_H) (c : Int) : fz_H → Option fz_V → Prop := fun h' r0 => h' = h ∧ ∃ r : Int, r0 = some (fz_i r) ∧ ((-1) ≤ r ∧ r ≤ 5) ∧ (0 ≤ r → 0 ≤ c)
set_option maxHeartbeats 1000000 in
set_option maxRecDepth 100000 in
theorem sX11_nameOf (h : fz_H) (hI : fz_Iv h) (c : Int) : fz_R 0 mX11_nameOf 0 [(0, fz_i c)] [] h (qX11_nameOf h c) := by
  refine fz_knowl (fun hk => ?_)
  have hr_c : -2147483648 ≤ c ∧ c < 2147483648 := hk _ (List.Mem.head _)
  clear hk
  refine fz_iload_n kX11_nameOf rfl rfl ?_
  by_cases c1 : (c : Int) = 97
  · refine fz_lsw (tgt := 62) kX11_nameOf rfl (by decide) (show Op.lookupswitch.offset [(97, 61), (100, 63), (109, 65), (112, 69), (116, 67), (119, 59)] 71 c = 61 by exact fz_osy c1) (by decide) ?_
    refine fz_iconst ⟨by decide, by decide⟩ kX11_nameOf rfl ?_
    exact fz_iret kX11_nameOf rfl rfl (fun _ => ⟨rfl, _, rfl, (by omega), (by omega)⟩)
  by_cases c2 : (c : Int) = 100
  · refine fz_lsw (tgt := 64) kX11_nameOf rfl (by decide) (show Op.lookupswitch.offset [(97, 61), (100, 63), (109, 65), (112, 69), (116, 67), (119, 59)] 71 c = 63 by rw [fz_osw c1]; exact fz_osy c2) (by decide) ?_
    refine fz_iconst ⟨by decide, by decide⟩ kX11_nameOf rfl ?_
    exact fz_iret kX11_nameOf rfl rfl (fun _ => ⟨rfl, _, rfl, (by omega), (by omega)⟩)
  by_cases c3 : (c : Int) = 109
  · refine fz_lsw (tgt := 66) kX11_nameOf rfl (by decide) (show Op.lookupswitch.offset [(97, 61), (100, 63), (109, 65), (112, 69), (116, 67), (119, 59)] 71 c = 65 by rw [fz_osw c1, fz_osw c2]; exact fz_osy c3) (by decide) ?_
    refine fz_iconst ⟨by decide, by decide⟩ kX11_nameOf rfl ?_
    exact fz_iret kX11_nameOf rfl rfl (fun _ => ⟨rfl, _, rfl, (by omega), (by omega)⟩)
  by_cases c4 : (c : Int) = 112
  · refine fz_lsw (tgt := 70) kX11_nameOf rfl (by decide) (show Op.lookupswitch.offset [(97, 61), (100, 63), (109, 65), (112, 69), (116, 67), (119, 59)] 71 c = 69 by rw [fz_osw c1, fz_osw c2, fz_osw c3]; exact fz_osy c4) (by decide) ?_
    refine fz_iconst ⟨by decide, by decide⟩ kX11_nameOf rfl ?_
    exact fz_iret kX11_nameOf rfl rfl (fun _ => ⟨rfl, _, rfl, (by omega), (by omega)⟩)
  by_cases c5 : (c : Int) = 116
  · refine fz_lsw (tgt := 68) kX11_nameOf rfl (by decide) (show Op.lookupswitch.offset [(97, 61), (100, 63), (109, 65), (112, 69), (116, 67), (119, 59)] 71 c = 67 by rw [fz_osw c1, fz_osw c2, fz_osw c3, fz_osw c4]; exact fz_osy c5) (by decide) ?_
    refine fz_iconst ⟨by decide, by decide⟩ kX11_nameOf rfl ?_
    exact fz_iret kX11_nameOf rfl rfl (fun _ => ⟨rfl, _, rfl, (by omega), (by omega)⟩)
  by_cases c6 : (c : Int) = 119
  · refine fz_lsw (tgt := 60) kX11_nameOf rfl (by decide) (show Op.lookupswitch.offset [(97, 61), (100, 63), (109, 65), (112, 69), (116, 67), (119, 59)] 71 c = 59 by rw [fz_osw c1, fz_osw c2, fz_osw c3, fz_osw c4, fz_osw c5]; exact fz_osy c6) (by decide) ?_
    refine fz_iconst ⟨by decide, by decide⟩ kX11_nameOf rfl ?_
    exact fz_iret kX11_nameOf rfl rfl (fun _ => ⟨rfl, _, rfl, (by omega), (by omega)⟩)
  refine fz_lsw (tgt := 72) kX11_nameOf rfl (by decide) (show Op.lookupswitch.offset [(97, 61), (100, 63), (109, 65), (112, 69), (116, 67), (119, 59)] 71 c = 71 by rw [fz_osw c1, fz_osw c2, fz_osw c3, fz_osw c4, fz_osw c5, fz_osw c6]; rfl) (by decide) ?_
  refine fz_iconst ⟨by decide, by decide⟩ kX11_nameOf rfl ?_
  exact fz_iret kX11_nameOf rfl rfl (fun _ => ⟨rfl, _, rfl, (by omega), (by omega)⟩)

abbrev qX11_isO_6 (h : fz_H) : fz_H → Option fz_V → Prop := fun h' r0 => fz_Iv h' ∧ fz_fr [(53, 24), (53, 25), (53, 26), (73, 99999)] h h' ∧ ∃ r : Int, r0 = some (fz_i r) ∧ (r = 0 ∨ r = 1) ∧ (h' 53 25 = 6) ∧ (h 53 24 ≤ h' 53 24) ∧ (h' 53 24 ≤ h 53 16) ∧ (h 53 26 ≤ h' 53 26) ∧ (h' 53 26 - h 53 26 ≤ h' 53 24 - h 53 24) ∧ (r = 1 → h 53 24 + 1 ≤ h' 53 24) ∧ (r = 1 → fz_Pa h h')
set_option maxHeartbeats 1000000 in
set_option maxRecDepth 100000 in
theorem sX11_isO_6 (h : fz_H) (hI : fz_Iv h) (hp0 : h 53 25 = 6) (hp1 : h 53 24 ≤ h 53 16) (hp2 : h 53 26 ≤ h 53 24) : fz_R 2 mX11_isO 0 [(0, fz_r 53)] [] h (qX11_isO_6 h) := by
  have hf : fz_fr [(53, 24), (53, 25), (53, 26), (73, 99999)] h h := fz_fr_rf
  have b1 : 0 ≤ h 53 25 ∧ h 53 25 ≤ 6 := hI.1 53 _
  have b2 : 0 ≤ h 53 24 ∧ h 53 24 ≤ 120 := hI.1 53 _
  have b3 : 0 ≤ h 53 16 ∧ h 53 16 ≤ 120 := hI.1 53 _
  have b4 : 0 ≤ h 53 26 ∧ h 53 26 ≤ 200 := hI.1 53 _
  have hCa5 : fz_Ca h h := ⟨rfl, rfl⟩
  refine fz_aload_n kX11_isO rfl rfl ?_
  refine fz_callV (d' := 1) (M' := mX11_isDigit) (As := []) (st := []) kX11_isO rfl rfl vX11_isDigit rfl rfl rfl rfl (Nat.le_of_ble_eq_true rfl) (Nat.le_of_ble_eq_true rfl) (by decide) (sX11_isDigit h hI  (by omega)) (fun H7 r8 q9 o10 => ?_)
  obtain ⟨e11, y12, rfl, p13⟩ := q9
  subst H7
  clear o10
  rcases p13 with ⟨rfl, c14⟩ | ⟨rfl, c14⟩
  · refine fz_if_eq (tgt := 66) kX11_isO rfl (by decide) (fun c15 => ?_) (fun c15 => ?_)
    · exfalso; omega
    · have k16 := c14
      refine fz_iconst ⟨by decide, by decide⟩ kX11_isO rfl ?_
      refine fz_istore_n (ls' := [(1, fz_i 0), (0, fz_r 53)]) kX11_isO rfl (by decide) rfl ?_
      refine fz_iconst ⟨by decide, by decide⟩ kX11_isO rfl ?_
      refine fz_istore_n (ls' := [(2, fz_i 0), (1, fz_i 0), (0, fz_r 53)]) kX11_isO rfl (by decide) rfl ?_
      have lp25 : ∀ (n24 : Nat) (x18 : Int) (x19 : Int) (H21 : fz_H), fz_Iv H21 → fz_fr [(53, 24), (53, 25), (53, 26), (73, 99999)] h H21 → fz_Ca h H21 → (0 ≤ x18 ∧ x18 ≤ 4) → (0 ≤ x19 ∧ x19 ≤ 9999) → ((x18 = 0 ∧ x19 = 0) ∨ (x18 = 1 ∧ x19 ≤ 9) ∨ (x18 = 2 ∧ x19 ≤ 99) ∨ (x18 = 3 ∧ x19 ≤ 999) ∨ x18 = 4) → (H21 53 25 = 6) → (H21 53 24 = h 53 24 + x18) → (H21 53 24 ≤ h 53 16) → (H21 53 26 = h 53 26) → (4 - x18).toNat < n24 → fz_R 2 mX11_isO 11 [(2, fz_i x18), (1, fz_i x19), (0, fz_r 53)] [] H21 (qX11_isO_6 h) := by
        intro n24
        induction n24 with
        | zero => intro x18 x19 H21 hI22 hf23 hCa20 hv28 hv29 hv30 hv31 hv32 hv33 hv34 hm27; exact absurd hm27 (by omega)
        | succ n24 ih26 =>
          intro x18 x19 H21 hI22 hf23 hCa20 hv28 hv29 hv30 hv31 hv32 hv33 hv34 hm27
          refine fz_iload_n kX11_isO rfl rfl ?_
          refine fz_iconst ⟨by decide, by decide⟩ kX11_isO rfl ?_
          refine fz_icmp_ge (tgt := 57) kX11_isO rfl (by decide) (fun c35 => ?_) (fun c35 => ?_)
          · have k36 : 1 ≤ x18 := by first | omega | (refine Classical.byContradiction (fun z => ?_); have e : H21 53 24 = h 53 24 := (by omega); have zz := c14; rw [e, hf23 53 16 rfl, hf23 65 _ rfl] at zz; exact zz k16)
            have k38 : 1 ≤ x18 := by omega
            refine fz_aload_n kX11_isO rfl rfl ?_
            refine fz_bipush ⟨by decide, by decide⟩ kX11_isO rfl ?_
            refine fz_iload_n kX11_isO rfl rfl ?_
            refine fz_iaddN kX11_isO rfl (by omega) ?_
            have k39 := hCa20
            have b41 : 0 ≤ H21 53 26 ∧ H21 53 26 ≤ 200 := hI22.1 53 _
            refine fz_callV (d' := 0) (M' := mX11_codes) (As := [fz_i (18 + x19)]) (st := []) kX11_isO rfl rfl vX11_codes rfl rfl rfl rfl (Nat.le_of_ble_eq_true rfl) (Nat.le_of_ble_eq_true rfl) (by decide) (sX11_codes H21 hI22 (18 + x19) (by omega)) (fun H42 r43 q44 o45 => ?_)
            obtain ⟨hI46, hf47, y51, rfl, p52, f48, f49, f50⟩ := q44
            clear o45
            have hf53 := fz_fr_tr hf23 hf47 (show fz_su [(53, 26), (73, 99999)] [(53, 24), (53, 25), (53, 26), (73, 99999)] = true from rfl)
            have k54 : H42 53 25 = 6 := (hf47 53 25 rfl).trans hv31
            have t55 : H42 53 24 = H21 53 24 := hf47 53 24 rfl
            refine fz_eqi (show y51 = 1 by omega) ?_
            have hPa56 : fz_Pa h H42 := fz_Pa_n k39 f50 (by omega) (by omega)
            exact fz_zret kX11_isO rfl rfl (by omega) ⟨hI46, hf53, _, rfl, (by omega), (by omega), (by omega), (by omega), (by omega), (by omega), (by omega), (by first | (intro z; exfalso; omega) | (intro _; exact hPa56))⟩
          · refine fz_aload_n kX11_isO rfl rfl ?_
            have b59 : 0 ≤ H21 53 24 ∧ H21 53 24 ≤ 120 := hI22.1 53 _
            have b60 : 0 ≤ h 53 16 ∧ h 53 16 ≤ 120 := hI.1 53 _
            have e61 : H21 53 16 = h 53 16 := hf23 53 16 rfl
            refine fz_callV (d' := 1) (M' := mX11_isDigit) (As := []) (st := []) kX11_isO rfl rfl vX11_isDigit rfl rfl rfl rfl (Nat.le_of_ble_eq_true rfl) (Nat.le_of_ble_eq_true rfl) (by decide) (sX11_isDigit H21 hI22  (by omega)) (fun H62 r63 q64 o65 => ?_)
            obtain ⟨e66, y67, rfl, p68⟩ := q64
            subst H62
            clear o65
            rcases p68 with ⟨rfl, c69⟩ | ⟨rfl, c69⟩
            · refine fz_if_eq (tgt := 57) kX11_isO rfl (by decide) (fun c70 => ?_) (fun c70 => ?_)
              · exfalso; omega
              · refine fz_bipush ⟨by decide, by decide⟩ kX11_isO rfl ?_
                refine fz_iload_n kX11_isO rfl rfl ?_
                refine fz_imulN kX11_isO rfl (by omega) ?_
                refine fz_aload_n kX11_isO rfl rfl ?_
                refine fz_getR (t := 65) kX11_isO rfl rfl ?_
                refine fz_aload_n kX11_isO rfl rfl ?_
                obtain ⟨v71, e72⟩ : ∃ z, H21 53 (24) = z := ⟨_, rfl⟩
                refine fz_getV (v := v71) kX11_isO rfl rfl e72 ?_
                have b73 : 0 ≤ v71 ∧ v71 ≤ 120 := by rw [← e72]; exact hI22.1 53 _
                refine fz_ialdV (n := 120) (v := h 65 (v71.toNat)) kX11_isO rfl rfl (by omega) (by omega) (hf23 65 _ rfl) ?_
                have b74 : 0 ≤ h 65 (v71.toNat) ∧ h 65 (v71.toNat) ≤ 255 := hI.1 65 _
                have k75 : 48 ≤ (h 65 (v71.toNat)) ∧ (h 65 (v71.toNat)) ≤ 57 := by have z := c69; rw [e72, hf23 65 _ rfl] at z; exact z.2
                have k78 : 48 ≤ (h 65 (v71.toNat)) ∧ (h 65 (v71.toNat)) ≤ 57 := by omega
                refine fz_iaddN kX11_isO rfl (by omega) ?_
                refine fz_bipush ⟨by decide, by decide⟩ kX11_isO rfl ?_
                refine fz_isubN kX11_isO rfl (by omega) ?_
                refine fz_istore_n (ls' := [(1, fz_i (((10 * x19) + (h 65 (v71.toNat))) - 48)), (2, fz_i x18), (0, fz_r 53)]) kX11_isO rfl (by decide) rfl ?_
                refine fz_aload_n kX11_isO rfl rfl ?_
                refine fz_dup rfl kX11_isO rfl ?_
                refine fz_getV (v := v71) kX11_isO rfl rfl e72 ?_
                refine fz_iconst ⟨by decide, by decide⟩ kX11_isO rfl ?_
                refine fz_iaddN kX11_isO rfl (by omega) ?_
                refine fz_putI kX11_isO rfl rfl rfl ?_
                refine fz_nmu (S := [(53, 24), (53, 25), (53, 26), (73, 99999)]) (h0 := h) (fz_Iv_up hI22 (by decide) (show (0 : Int) ≤ (v71 + 1) by omega) (show ((v71 + 1) : Int) ≤ 120 by omega)) (fz_fr_up hf23 rfl) (fun H79 hI80 hf81 e82 => ?_)
                have k83 : H79 53 25 = 6 := by rw [e82]; exact (fz_up_s (by decide)).trans hv31
                have k84 : H79 53 24 = (v71 + 1) := by rw [e82]; exact fz_up_e
                have t85 : H79 53 26 = H21 53 26 := by rw [e82]; exact fz_up_s (by decide)
                have hCa86 : fz_Ca h H79 := fz_Ca_eq (by rw [e82]; exact fz_up_ne (by decide)) (by rw [e82]; exact fz_up_s (by decide)) hCa20
                refine fz_iincN (ls' := [(2, fz_i (x18 + 1)), (1, fz_i (((10 * x19) + (h 65 (v71.toNat))) - 48)), (0, fz_r 53)]) kX11_isO rfl (by decide) rfl (by omega) rfl ?_
                refine fz_goto (tgt := 11) kX11_isO rfl (by decide) ?_
                exact ih26 (x18 + 1) (((10 * x19) + (h 65 (v71.toNat))) - 48) H79 hI80 hf81 hCa86 (by omega) (by omega) (by omega) (by omega) (by omega) (by omega) (by omega) (by omega)
            · refine fz_if_eq (tgt := 57) kX11_isO rfl (by decide) (fun c87 => ?_) (fun c87 => ?_)
              · have k88 : 1 ≤ x18 := by first | omega | (refine Classical.byContradiction (fun z => ?_); have e : H21 53 24 = h 53 24 := (by omega); have zz := c69; rw [e, hf23 53 16 rfl, hf23 65 _ rfl] at zz; exact zz k16)
                have k90 : 1 ≤ x18 := by omega
                refine fz_aload_n kX11_isO rfl rfl ?_
                refine fz_bipush ⟨by decide, by decide⟩ kX11_isO rfl ?_
                refine fz_iload_n kX11_isO rfl rfl ?_
                refine fz_iaddN kX11_isO rfl (by omega) ?_
                have k91 := hCa20
                have b93 : 0 ≤ H21 53 26 ∧ H21 53 26 ≤ 200 := hI22.1 53 _
                refine fz_callV (d' := 0) (M' := mX11_codes) (As := [fz_i (18 + x19)]) (st := []) kX11_isO rfl rfl vX11_codes rfl rfl rfl rfl (Nat.le_of_ble_eq_true rfl) (Nat.le_of_ble_eq_true rfl) (by decide) (sX11_codes H21 hI22 (18 + x19) (by omega)) (fun H94 r95 q96 o97 => ?_)
                obtain ⟨hI98, hf99, y103, rfl, p104, f100, f101, f102⟩ := q96
                clear o97
                have hf105 := fz_fr_tr hf23 hf99 (show fz_su [(53, 26), (73, 99999)] [(53, 24), (53, 25), (53, 26), (73, 99999)] = true from rfl)
                have k106 : H94 53 25 = 6 := (hf99 53 25 rfl).trans hv31
                have t107 : H94 53 24 = H21 53 24 := hf99 53 24 rfl
                refine fz_eqi (show y103 = 1 by omega) ?_
                have hPa108 : fz_Pa h H94 := fz_Pa_n k91 f102 (by omega) (by omega)
                exact fz_zret kX11_isO rfl rfl (by omega) ⟨hI98, hf105, _, rfl, (by omega), (by omega), (by omega), (by omega), (by omega), (by omega), (by omega), (by first | (intro z; exfalso; omega) | (intro _; exact hPa108))⟩
              · exfalso; omega
      exact lp25 _ 0 0 h hI hf hCa5 (by omega) (by omega) (by omega) (by omega) (by omega) (by omega) (by omega) (Nat.lt_succ_self _)
  · refine fz_if_eq (tgt := 66) kX11_isO rfl (by decide) (fun c111 => ?_) (fun c111 => ?_)
    · refine fz_aload_n kX11_isO rfl rfl ?_
      refine fz_callV (d' := 0) (M' := mX11_sign) (As := []) (st := []) kX11_isO rfl rfl vX11_sign rfl rfl rfl rfl (Nat.le_of_ble_eq_true rfl) (Nat.le_of_ble_eq_true rfl) (by decide) (sX11_sign h hI  (by omega)) (fun H112 r113 q114 o115 => ?_)
      obtain ⟨e116, y119, rfl, f117, f118⟩ := q114
      subst H112
      clear o115
      refine fz_callS (d' := 0) (M' := mX11_nameOf) (As := [fz_i y119]) (st := []) kX11_isO rfl rfl vX11_nameOf rfl rfl (Nat.le_of_ble_eq_true rfl) (Nat.le_of_ble_eq_true rfl) (by decide) (sX11_nameOf h hI y119 ) (fun H120 r121 q122 o123 => ?_)
      obtain ⟨e124, y127, rfl, f125, f126⟩ := q122
      subst H120
      clear o123
      refine fz_istore_n (ls' := [(1, fz_i y127), (0, fz_r 53)]) kX11_isO rfl (by decide) rfl ?_
      refine fz_iload_n kX11_isO rfl rfl ?_
      refine fz_if_lt (tgt := 94) kX11_isO rfl (by decide) (fun c128 => ?_) (fun c128 => ?_)
      · refine fz_aload_n kX11_isO rfl rfl ?_
        refine fz_getV (v := h 53 25) kX11_isO rfl rfl rfl ?_
        have b129 : 0 ≤ h 53 25 ∧ h 53 25 ≤ 6 := hI.1 53 _
        refine fz_eqi (show (h 53 25) = 6 by omega) ?_
        refine fz_bipush ⟨by decide, by decide⟩ kX11_isO rfl ?_
        refine fz_icmp_ne (tgt := 105) kX11_isO rfl (by decide) (fun c130 => ?_) (fun c130 => ?_)
        · exfalso; omega
        · refine fz_iconst ⟨by decide, by decide⟩ kX11_isO rfl ?_
          exact fz_zret kX11_isO rfl rfl (by omega) ⟨hI, hf, _, rfl, (by omega), (by omega), (by omega), (by omega), (by omega), (by omega), (by omega), (by first | (intro z; exfalso; omega) | (intro _; exact lost))⟩
      · refine fz_aload_n kX11_isO rfl rfl ?_
        refine fz_dup rfl kX11_isO rfl ?_
        refine fz_getV (v := h 53 24) kX11_isO rfl rfl rfl ?_
        have b132 : 0 ≤ h 53 24 ∧ h 53 24 ≤ 120 := hI.1 53 _
        refine fz_iconst ⟨by decide, by decide⟩ kX11_isO rfl ?_
        refine fz_iaddN kX11_isO rfl (by omega) ?_
        refine fz_putI kX11_isO rfl rfl rfl ?_
        refine fz_nmu (S := [(53, 24), (53, 25), (53, 26), (73, 99999)]) (h0 := h) (fz_Iv_up hI (by decide) (show (0 : Int) ≤ ((h 53 24) + 1) by omega) (show (((h 53 24) + 1) : Int) ≤ 120 by omega)) (fz_fr_up hf rfl) (fun H133 hI134 hf135 e136 => ?_)
        have k137 : H133 53 25 = (h 53 25) := by rw [e136]; exact (fz_up_s (by decide)).trans rfl
        have k138 : H133 53 26 = (h 53 26) := by rw [e136]; exact (fz_up_s (by decide)).trans rfl
        have k139 : H133 53 24 = ((h 53 24) + 1) := by rw [e136]; exact fz_up_e
        have t140 : H133 53 26 = h 53 26 := by rw [e136]; exact fz_up_s (by decide)
        have hCa141 : fz_Ca h H133 := fz_Ca_eq (by rw [e136]; exact fz_up_ne (by decide)) (by rw [e136]; exact fz_up_s (by decide)) hCa5
        refine fz_aload_n kX11_isO rfl rfl ?_
        refine fz_iload_n kX11_isO rfl rfl ?_
        have k142 := hCa141
        have b144 : 0 ≤ H133 53 26 ∧ H133 53 26 ≤ 200 := hI134.1 53 _
        refine fz_callV (d' := 0) (M' := mX11_codes) (As := [fz_i y127]) (st := []) kX11_isO rfl rfl vX11_codes rfl rfl rfl rfl (Nat.le_of_ble_eq_true rfl) (Nat.le_of_ble_eq_true rfl) (by decide) (sX11_codes H133 hI134 y127 (by omega)) (fun H145 r146 q147 o148 => ?_)
        obtain ⟨hI149, hf150, y154, rfl, p155, f151, f152, f153⟩ := q147
        clear o148
        have hf156 := fz_fr_tr hf135 hf150 (show fz_su [(53, 26), (73, 99999)] [(53, 24), (53, 25), (53, 26), (73, 99999)] = true from rfl)
        have k157 : H145 53 25 = (h 53 25) := (hf150 53 25 rfl).trans k137
        have k158 : H145 53 24 = ((h 53 24) + 1) := (hf150 53 24 rfl).trans k139
        have t159 : H145 53 24 = H133 53 24 := hf150 53 24 rfl
        refine fz_eqi (show y154 = 1 by omega) ?_
        have hPa160 : fz_Pa h H145 := fz_Pa_n k142 f153 (by omega) (by omega)
        exact fz_zret kX11_isO rfl rfl (by omega) ⟨hI149, hf156, _, rfl, (by omega), (by omega), (by omega), (by omega), (by omega), (by omega), (by omega), (by first | (intro z; exfalso; omega) | (intro _; exact hPa160))⟩
    · exfalso; omega

abbrev qX11_isP_6 (h : fz_H) : fz_H → Option fz_V → Prop := fun h' r0 => fz_Iv h' ∧ fz_fr [(53, 24), (53, 25), (53, 26), (73, 99999)] h h' ∧ ∃ r : Int, r0 = some (fz_i r) ∧ (r = 0 ∨ r = 1) ∧ (h' 53 25 = 6) ∧ (h 53 24 ≤ h' 53 24) ∧ (h' 53 24 ≤ h 53 16) ∧ (h 53 26 ≤ h' 53 26) ∧ (h' 53 26 - h 53 26 ≤ h' 53 24 - h 53 24) ∧ (r = 1 → h 53 24 + 1 ≤ h' 53 24) ∧ (r = 1 → fz_Pa h h')
set_option maxHeartbeats 1000000 in
set_option maxRecDepth 100000 in
theorem sX11_isP_6 (h : fz_H) (hI : fz_Iv h) (hp0 : h 53 25 = 6) (hp1 : h 53 24 ≤ h 53 16) (hp2 : h 53 26 ≤ h 53 24) : fz_R 3 mX11_isP 0 [(0, fz_r 53)] [] h (qX11_isP_6 h) := by
  have hf : fz_fr [(53, 24), (53, 25), (53, 26), (73, 99999)] h h := fz_fr_rf
  have b1 : 0 ≤ h 53 25 ∧ h 53 25 ≤ 6 := hI.1 53 _
  have b2 : 0 ≤ h 53 24 ∧ h 53 24 ≤ 120 := hI.1 53 _
  have b3 : 0 ≤ h 53 16 ∧ h 53 16 ≤ 120 := hI.1 53 _
  have b4 : 0 ≤ h 53 26 ∧ h 53 26 ≤ 200 := hI.1 53 _
  refine fz_aload_n kX11_isP rfl rfl ?_
  refine fz_callV (d' := 2) (M' := mX11_isO) (As := []) (st := []) kX11_isP rfl rfl vX11_isO rfl rfl rfl rfl (Nat.le_of_ble_eq_true rfl) (Nat.le_of_ble_eq_true rfl) (by decide) (sX11_isO_6 h hI  (by omega) (by omega) (by omega)) (fun H5 r6 q7 o8 => ?_)
  obtain ⟨hI9, hf10, y18, rfl, p19, f11, f12, f13, f14, f15, f16, f17⟩ := q7
  clear o8
  have hf20 := fz_fr_tr hf hf10 (show fz_su [(53, 24), (53, 25), (53, 26), (73, 99999)] [(53, 24), (53, 25), (53, 26), (73, 99999)] = true from rfl)
  refine fz_if_ne (tgt := 9) kX11_isP rfl (by decide) (fun c21 => ?_) (fun c21 => ?_)
  · have hPa22 : fz_Pa h H5 := f17 (by omega)
    have lp29 : ∀ (n28 : Nat) (H25 : fz_H), fz_Iv H25 → fz_fr [(53, 24), (53, 25), (53, 26), (73, 99999)] h H25 → fz_Pa h H25 → (H25 53 25 = 6) → (h 53 24 + 1 ≤ H25 53 24) → (H25 53 24 ≤ h 53 16) → (h 53 26 ≤ H25 53 26) → (H25 53 26 - h 53 26 ≤ H25 53 24 - h 53 24) → (h 53 16 - H25 53 24).toNat < n28 → fz_R 3 mX11_isP 9 [(0, fz_r 53)] [] H25 (qX11_isP_6 h) := by
      intro n28
      induction n28 with
      | zero => intro H25 hI26 hf27 hPa24 hv32 hv33 hv34 hv35 hv36 hm31; exact absurd hm31 (by omega)
      | succ n28 ih30 =>
        intro H25 hI26 hf27 hPa24 hv32 hv33 hv34 hv35 hv36 hm31
        refine fz_aload_n kX11_isP rfl rfl ?_
        have b37 : 0 ≤ H25 53 24 ∧ H25 53 24 ≤ 120 := hI26.1 53 _
        have b38 : 0 ≤ h 53 16 ∧ h 53 16 ≤ 120 := hI.1 53 _
        have e39 : H25 53 16 = h 53 16 := hf27 53 16 rfl
        refine fz_callV (d' := 0) (M' := mX11_sign) (As := []) (st := []) kX11_isP rfl rfl vX11_sign rfl rfl rfl rfl (Nat.le_of_ble_eq_true rfl) (Nat.le_of_ble_eq_true rfl) (by decide) (sX11_sign H25 hI26  (by omega)) (fun H40 r41 q42 o43 => ?_)
        obtain ⟨e44, y47, rfl, f45, f46⟩ := q42
        subst H40
        clear o43
        refine fz_bipush ⟨by decide, by decide⟩ kX11_isP rfl ?_
        refine fz_icmp_ne (tgt := 23) kX11_isP rfl (by decide) (fun c48 => ?_) (fun c48 => ?_)
        · refine fz_aload_n kX11_isP rfl rfl ?_
          refine fz_callV (d' := 0) (M' := mX11_sign) (As := []) (st := []) kX11_isP rfl rfl vX11_sign rfl rfl rfl rfl (Nat.le_of_ble_eq_true rfl) (Nat.le_of_ble_eq_true rfl) (by decide) (sX11_sign H25 hI26  (by omega)) (fun H49 r50 q51 o52 => ?_)
          obtain ⟨e53, y56, rfl, f54, f55⟩ := q51
          subst H49
          clear o52
          refine fz_bipush ⟨by decide, by decide⟩ kX11_isP rfl ?_
          refine fz_icmp_ne (tgt := 37) kX11_isP rfl (by decide) (fun c57 => ?_) (fun c57 => ?_)
          · refine fz_aload_n kX11_isP rfl rfl ?_
            refine fz_callV (d' := 0) (M' := mX11_sign) (As := []) (st := []) kX11_isP rfl rfl vX11_sign rfl rfl rfl rfl (Nat.le_of_ble_eq_true rfl) (Nat.le_of_ble_eq_true rfl) (by decide) (sX11_sign H25 hI26  (by omega)) (fun H58 r59 q60 o61 => ?_)
            obtain ⟨e62, y65, rfl, f63, f64⟩ := q60
            subst H58
            clear o61
            refine fz_bipush ⟨by decide, by decide⟩ kX11_isP rfl ?_
            refine fz_icmp_ne (tgt := 51) kX11_isP rfl (by decide) (fun c66 => ?_) (fun c66 => ?_)
            · refine fz_iconst ⟨by decide, by decide⟩ kX11_isP rfl ?_
              refine fz_istore_n (ls' := [(1, fz_i (-1)), (0, fz_r 53)]) kX11_isP rfl (by decide) rfl ?_
              refine fz_iload_n kX11_isP rfl rfl ?_
              refine fz_if_ge (tgt := 59) kX11_isP rfl (by decide) (fun c67 => ?_) (fun c67 => ?_)
              · exfalso; omega
              · refine fz_iconst ⟨by decide, by decide⟩ kX11_isP rfl ?_
                exact fz_zret kX11_isP rfl rfl (by omega) ⟨hI26, hf27, _, rfl, (by omega), (by omega), (by omega), (by omega), (by omega), (by omega), (by omega), (by first | (intro z; exfalso; omega) | (intro _; exact hPa24))⟩
            · refine fz_bipush ⟨by decide, by decide⟩ kX11_isP rfl ?_
              refine fz_goto (tgt := 52) kX11_isP rfl (by decide) ?_
              refine fz_istore_n (ls' := [(1, fz_i 15), (0, fz_r 53)]) kX11_isP rfl (by decide) rfl ?_
              refine fz_iload_n kX11_isP rfl rfl ?_
              refine fz_if_ge (tgt := 59) kX11_isP rfl (by decide) (fun c69 => ?_) (fun c69 => ?_)
              · refine fz_aload_n kX11_isP rfl rfl ?_
                refine fz_dup rfl kX11_isP rfl ?_
                obtain ⟨v70, e71⟩ : ∃ z, H25 53 (24) = z := ⟨_, rfl⟩
                refine fz_getV (v := v70) kX11_isP rfl rfl e71 ?_
                have b72 : 0 ≤ v70 ∧ v70 ≤ 120 := by rw [← e71]; exact hI26.1 53 _
                refine fz_iconst ⟨by decide, by decide⟩ kX11_isP rfl ?_
                refine fz_iaddN kX11_isP rfl (by omega) ?_
                refine fz_putI kX11_isP rfl rfl rfl ?_
                refine fz_nmu (S := [(53, 24), (53, 25), (53, 26), (73, 99999)]) (h0 := h) (fz_Iv_up hI26 (by decide) (show (0 : Int) ≤ (v70 + 1) by omega) (show ((v70 + 1) : Int) ≤ 120 by omega)) (fz_fr_up hf27 rfl) (fun H73 hI74 hf75 e76 => ?_)
                have k77 : H73 53 25 = 6 := by rw [e76]; exact (fz_up_s (by decide)).trans hv32
                have k78 : H73 53 24 = (v70 + 1) := by rw [e76]; exact fz_up_e
                have t79 : H73 53 26 = H25 53 26 := by rw [e76]; exact fz_up_s (by decide)
                have hPa80 : fz_Pa h H73 := fz_Pa_eq (by rw [e76]; exact fz_up_ne (by decide)) (by rw [e76]; exact fz_up_s (by decide)) hPa24
                refine fz_aload_n kX11_isP rfl rfl ?_
                have k81 := hPa80
                have b83 : 0 ≤ H73 53 25 ∧ H73 53 25 ≤ 6 := hI74.1 53 _
                have b84 : 0 ≤ H73 53 24 ∧ H73 53 24 ≤ 120 := hI74.1 53 _
                have b85 : 0 ≤ H73 53 26 ∧ H73 53 26 ≤ 200 := hI74.1 53 _
                have e86 : H73 53 16 = h 53 16 := hf75 53 16 rfl
                refine fz_callV (d' := 2) (M' := mX11_isO) (As := []) (st := []) kX11_isP rfl rfl vX11_isO rfl rfl rfl rfl (Nat.le_of_ble_eq_true rfl) (Nat.le_of_ble_eq_true rfl) (by decide) (sX11_isO_6 H73 hI74  (by omega) (by omega) (by omega)) (fun H87 r88 q89 o90 => ?_)
                obtain ⟨hI91, hf92, y100, rfl, p101, f93, f94, f95, f96, f97, f98, f99⟩ := q89
                clear o90
                have hf102 := fz_fr_tr hf75 hf92 (show fz_su [(53, 24), (53, 25), (53, 26), (73, 99999)] [(53, 24), (53, 25), (53, 26), (73, 99999)] = true from rfl)
                refine fz_if_ne (tgt := 78) kX11_isP rfl (by decide) (fun c103 => ?_) (fun c103 => ?_)
                · have k104 := f99 (by omega)
                  refine fz_aload_n kX11_isP rfl rfl ?_
                  refine fz_iload_n kX11_isP rfl rfl ?_
                  have b106 : 0 ≤ H87 53 26 ∧ H87 53 26 ≤ 200 := hI91.1 53 _
                  refine fz_callV (d' := 0) (M' := mX11_codes) (As := [fz_i 15]) (st := []) kX11_isP rfl rfl vX11_codes rfl rfl rfl rfl (Nat.le_of_ble_eq_true rfl) (Nat.le_of_ble_eq_true rfl) (by decide) (sX11_codes H87 hI91 15 (by omega)) (fun H107 r108 q109 o110 => ?_)
                  obtain ⟨hI111, hf112, y116, rfl, p117, f113, f114, f115⟩ := q109
                  clear o110
                  have hf118 := fz_fr_tr hf102 hf112 (show fz_su [(53, 26), (73, 99999)] [(53, 24), (53, 25), (53, 26), (73, 99999)] = true from rfl)
                  have k119 : H107 53 25 = 6 := (hf112 53 25 rfl).trans f93
                  have t120 : H107 53 24 = H87 53 24 := hf112 53 24 rfl
                  refine fz_eqi (show y116 = 1 by omega) ?_
                  have hPa121 : fz_Pa h H107 := fz_Pa_b k81 k104 f115 (by omega)
                  refine fz_pop rfl kX11_isP rfl ?_
                  refine fz_goto (tgt := 9) kX11_isP rfl (by decide) ?_
                  refine fz_sub (fz_pk_sub (ls' := [(0, fz_r 53)]) [1] rfl) ?_
                  exact ih30  H107 hI111 hf118 hPa121 (by omega) (by omega) (by omega) (by omega) (by omega) (by omega)
                · refine fz_iconst ⟨by decide, by decide⟩ kX11_isP rfl ?_
                  exact fz_zret kX11_isP rfl rfl (by omega) ⟨hI91, hf102, _, rfl, (by omega), (by omega), (by omega), (by omega), (by omega), (by omega), (by omega), (by first | (intro z; exfalso; omega) | (intro _; exact lost))⟩
              · exfalso; omega
          · refine fz_bipush ⟨by decide, by decide⟩ kX11_isP rfl ?_
            refine fz_goto (tgt := 52) kX11_isP rfl (by decide) ?_
            refine fz_istore_n (ls' := [(1, fz_i 14), (0, fz_r 53)]) kX11_isP rfl (by decide) rfl ?_
            refine fz_iload_n kX11_isP rfl rfl ?_
            refine fz_if_ge (tgt := 59) kX11_isP rfl (by decide) (fun c124 => ?_) (fun c124 => ?_)
            · refine fz_aload_n kX11_isP rfl rfl ?_
              refine fz_dup rfl kX11_isP rfl ?_
              obtain ⟨v125, e126⟩ : ∃ z, H25 53 (24) = z := ⟨_, rfl⟩
              refine fz_getV (v := v125) kX11_isP rfl rfl e126 ?_
              have b127 : 0 ≤ v125 ∧ v125 ≤ 120 := by rw [← e126]; exact hI26.1 53 _
              refine fz_iconst ⟨by decide, by decide⟩ kX11_isP rfl ?_
              refine fz_iaddN kX11_isP rfl (by omega) ?_
              refine fz_putI kX11_isP rfl rfl rfl ?_
              refine fz_nmu (S := [(53, 24), (53, 25), (53, 26), (73, 99999)]) (h0 := h) (fz_Iv_up hI26 (by decide) (show (0 : Int) ≤ (v125 + 1) by omega) (show ((v125 + 1) : Int) ≤ 120 by omega)) (fz_fr_up hf27 rfl) (fun H128 hI129 hf130 e131 => ?_)
              have k132 : H128 53 25 = 6 := by rw [e131]; exact (fz_up_s (by decide)).trans hv32
              have k133 : H128 53 24 = (v125 + 1) := by rw [e131]; exact fz_up_e
              have t134 : H128 53 26 = H25 53 26 := by rw [e131]; exact fz_up_s (by decide)
              have hPa135 : fz_Pa h H128 := fz_Pa_eq (by rw [e131]; exact fz_up_ne (by decide)) (by rw [e131]; exact fz_up_s (by decide)) hPa24
              refine fz_aload_n kX11_isP rfl rfl ?_
              have k136 := hPa135
              have b138 : 0 ≤ H128 53 25 ∧ H128 53 25 ≤ 6 := hI129.1 53 _
              have b139 : 0 ≤ H128 53 24 ∧ H128 53 24 ≤ 120 := hI129.1 53 _
              have b140 : 0 ≤ H128 53 26 ∧ H128 53 26 ≤ 200 := hI129.1 53 _
              have e141 : H128 53 16 = h 53 16 := hf130 53 16 rfl
              refine fz_callV (d' := 2) (M' := mX11_isO) (As := []) (st := []) kX11_isP rfl rfl vX11_isO rfl rfl rfl rfl (Nat.le_of_ble_eq_true rfl) (Nat.le_of_ble_eq_true rfl) (by decide) (sX11_isO_6 H128 hI129  (by omega) (by omega) (by omega)) (fun H142 r143 q144 o145 => ?_)
              obtain ⟨hI146, hf147, y155, rfl, p156, f148, f149, f150, f151, f152, f153, f154⟩ := q144
              clear o145
              have hf157 := fz_fr_tr hf130 hf147 (show fz_su [(53, 24), (53, 25), (53, 26), (73, 99999)] [(53, 24), (53, 25), (53, 26), (73, 99999)] = true from rfl)
              refine fz_if_ne (tgt := 78) kX11_isP rfl (by decide) (fun c158 => ?_) (fun c158 => ?_)
              · have k159 := f154 (by omega)
                refine fz_aload_n kX11_isP rfl rfl ?_
                refine fz_iload_n kX11_isP rfl rfl ?_
                have b161 : 0 ≤ H142 53 26 ∧ H142 53 26 ≤ 200 := hI146.1 53 _
                refine fz_callV (d' := 0) (M' := mX11_codes) (As := [fz_i 14]) (st := []) kX11_isP rfl rfl vX11_codes rfl rfl rfl rfl (Nat.le_of_ble_eq_true rfl) (Nat.le_of_ble_eq_true rfl) (by decide) (sX11_codes H142 hI146 14 (by omega)) (fun H162 r163 q164 o165 => ?_)
                obtain ⟨hI166, hf167, y171, rfl, p172, f168, f169, f170⟩ := q164
                clear o165
                have hf173 := fz_fr_tr hf157 hf167 (show fz_su [(53, 26), (73, 99999)] [(53, 24), (53, 25), (53, 26), (73, 99999)] = true from rfl)
                have k174 : H162 53 25 = 6 := (hf167 53 25 rfl).trans f148
                have t175 : H162 53 24 = H142 53 24 := hf167 53 24 rfl
                refine fz_eqi (show y171 = 1 by omega) ?_
                have hPa176 : fz_Pa h H162 := fz_Pa_b k136 k159 f170 (by omega)
                refine fz_pop rfl kX11_isP rfl ?_
                refine fz_goto (tgt := 9) kX11_isP rfl (by decide) ?_
                refine fz_sub (fz_pk_sub (ls' := [(0, fz_r 53)]) [1] rfl) ?_
                exact ih30  H162 hI166 hf173 hPa176 (by omega) (by omega) (by omega) (by omega) (by omega) (by omega)
              · refine fz_iconst ⟨by decide, by decide⟩ kX11_isP rfl ?_
                exact fz_zret kX11_isP rfl rfl (by omega) ⟨hI146, hf157, _, rfl, (by omega), (by omega), (by omega), (by omega), (by omega), (by omega), (by omega), (by first | (intro z; exfalso; omega) | (intro _; exact lost))⟩
            · exfalso; omega
        · refine fz_bipush ⟨by decide, by decide⟩ kX11_isP rfl ?_
          refine fz_goto (tgt := 52) kX11_isP rfl (by decide) ?_
          refine fz_istore_n (ls' := [(1, fz_i 13), (0, fz_r 53)]) kX11_isP rfl (by decide) rfl ?_
          refine fz_iload_n kX11_isP rfl rfl ?_
          refine fz_if_ge (tgt := 59) kX11_isP rfl (by decide) (fun c179 => ?_) (fun c179 => ?_)
          · refine fz_aload_n kX11_isP rfl rfl ?_
            refine fz_dup rfl kX11_isP rfl ?_
            obtain ⟨v180, e181⟩ : ∃ z, H25 53 (24) = z := ⟨_, rfl⟩
            refine fz_getV (v := v180) kX11_isP rfl rfl e181 ?_
            have b182 : 0 ≤ v180 ∧ v180 ≤ 120 := by rw [← e181]; exact hI26.1 53 _
            refine fz_iconst ⟨by decide, by decide⟩ kX11_isP rfl ?_
            refine fz_iaddN kX11_isP rfl (by omega) ?_
            refine fz_putI kX11_isP rfl rfl rfl ?_
            refine fz_nmu (S := [(53, 24), (53, 25), (53, 26), (73, 99999)]) (h0 := h) (fz_Iv_up hI26 (by decide) (show (0 : Int) ≤ (v180 + 1) by omega) (show ((v180 + 1) : Int) ≤ 120 by omega)) (fz_fr_up hf27 rfl) (fun H183 hI184 hf185 e186 => ?_)
            have k187 : H183 53 25 = 6 := by rw [e186]; exact (fz_up_s (by decide)).trans hv32
            have k188 : H183 53 24 = (v180 + 1) := by rw [e186]; exact fz_up_e
            have t189 : H183 53 26 = H25 53 26 := by rw [e186]; exact fz_up_s (by decide)
            have hPa190 : fz_Pa h H183 := fz_Pa_eq (by rw [e186]; exact fz_up_ne (by decide)) (by rw [e186]; exact fz_up_s (by decide)) hPa24
            refine fz_aload_n kX11_isP rfl rfl ?_
            have k191 := hPa190
            have b193 : 0 ≤ H183 53 25 ∧ H183 53 25 ≤ 6 := hI184.1 53 _
            have b194 : 0 ≤ H183 53 24 ∧ H183 53 24 ≤ 120 := hI184.1 53 _
            have b195 : 0 ≤ H183 53 26 ∧ H183 53 26 ≤ 200 := hI184.1 53 _
            have e196 : H183 53 16 = h 53 16 := hf185 53 16 rfl
            refine fz_callV (d' := 2) (M' := mX11_isO) (As := []) (st := []) kX11_isP rfl rfl vX11_isO rfl rfl rfl rfl (Nat.le_of_ble_eq_true rfl) (Nat.le_of_ble_eq_true rfl) (by decide) (sX11_isO_6 H183 hI184  (by omega) (by omega) (by omega)) (fun H197 r198 q199 o200 => ?_)
            obtain ⟨hI201, hf202, y210, rfl, p211, f203, f204, f205, f206, f207, f208, f209⟩ := q199
            clear o200
            have hf212 := fz_fr_tr hf185 hf202 (show fz_su [(53, 24), (53, 25), (53, 26), (73, 99999)] [(53, 24), (53, 25), (53, 26), (73, 99999)] = true from rfl)
            refine fz_if_ne (tgt := 78) kX11_isP rfl (by decide) (fun c213 => ?_) (fun c213 => ?_)
            · have k214 := f209 (by omega)
              refine fz_aload_n kX11_isP rfl rfl ?_
              refine fz_iload_n kX11_isP rfl rfl ?_
              have b216 : 0 ≤ H197 53 26 ∧ H197 53 26 ≤ 200 := hI201.1 53 _
              refine fz_callV (d' := 0) (M' := mX11_codes) (As := [fz_i 13]) (st := []) kX11_isP rfl rfl vX11_codes rfl rfl rfl rfl (Nat.le_of_ble_eq_true rfl) (Nat.le_of_ble_eq_true rfl) (by decide) (sX11_codes H197 hI201 13 (by omega)) (fun H217 r218 q219 o220 => ?_)
              obtain ⟨hI221, hf222, y226, rfl, p227, f223, f224, f225⟩ := q219
              clear o220
              have hf228 := fz_fr_tr hf212 hf222 (show fz_su [(53, 26), (73, 99999)] [(53, 24), (53, 25), (53, 26), (73, 99999)] = true from rfl)
              have k229 : H217 53 25 = 6 := (hf222 53 25 rfl).trans f203
              have t230 : H217 53 24 = H197 53 24 := hf222 53 24 rfl
              refine fz_eqi (show y226 = 1 by omega) ?_
              have hPa231 : fz_Pa h H217 := fz_Pa_b k191 k214 f225 (by omega)
              refine fz_pop rfl kX11_isP rfl ?_
              refine fz_goto (tgt := 9) kX11_isP rfl (by decide) ?_
              refine fz_sub (fz_pk_sub (ls' := [(0, fz_r 53)]) [1] rfl) ?_
              exact ih30  H217 hI221 hf228 hPa231 (by omega) (by omega) (by omega) (by omega) (by omega) (by omega)
            · refine fz_iconst ⟨by decide, by decide⟩ kX11_isP rfl ?_
              exact fz_zret kX11_isP rfl rfl (by omega) ⟨hI201, hf212, _, rfl, (by omega), (by omega), (by omega), (by omega), (by omega), (by omega), (by omega), (by first | (intro z; exfalso; omega) | (intro _; exact lost))⟩
          · exfalso; omega
    exact lp29 _  H5 hI9 hf20 hPa22 (by omega) (by omega) (by omega) (by omega) (by omega) (Nat.lt_succ_self _)
  · refine fz_iconst ⟨by decide, by decide⟩ kX11_isP rfl ?_
    exact fz_zret kX11_isP rfl rfl (by omega) ⟨hI9, hf20, _, rfl, (by omega), (by omega), (by omega), (by omega), (by omega), (by omega), (by omega), (by first | (intro z; exfalso; omega) | (intro _; exact lost))⟩

abbrev qX11_isS_6 (h : fz_H) : fz_H → Option fz_V → Prop := fun h' r0 => fz_Iv h' ∧ fz_fr [(53, 24), (53, 25), (53, 26), (73, 99999)] h h' ∧ ∃ r : Int, r0 = some (fz_i r) ∧ (r = 0 ∨ r = 1) ∧ (h' 53 25 = 6) ∧ (h 53 24 ≤ h' 53 24) ∧ (h' 53 24 ≤ h 53 16) ∧ (h 53 26 ≤ h' 53 26) ∧ (h' 53 26 - h 53 26 ≤ h' 53 24 - h 53 24) ∧ (r = 1 → h 53 24 + 1 ≤ h' 53 24) ∧ (r = 1 → fz_Pa h h')
set_option maxHeartbeats 1000000 in
set_option maxRecDepth 100000 in
theorem sX11_isS_6 (h : fz_H) (hI : fz_Iv h) (hp0 : h 53 25 = 6) (hp1 : h 53 24 ≤ h 53 16) (hp2 : h 53 26 ≤ h 53 24) : fz_R 4 mX11_isS 0 [(0, fz_r 53)] [] h (qX11_isS_6 h) := by
  have hf : fz_fr [(53, 24), (53, 25), (53, 26), (73, 99999)] h h := fz_fr_rf
  have b1 : 0 ≤ h 53 25 ∧ h 53 25 ≤ 6 := hI.1 53 _
  have b2 : 0 ≤ h 53 24 ∧ h 53 24 ≤ 120 := hI.1 53 _
  have b3 : 0 ≤ h 53 16 ∧ h 53 16 ≤ 120 := hI.1 53 _
  have b4 : 0 ≤ h 53 26 ∧ h 53 26 ≤ 200 := hI.1 53 _
  refine fz_aload_n kX11_isS rfl rfl ?_
  refine fz_callV (d' := 3) (M' := mX11_isP) (As := []) (st := []) kX11_isS rfl rfl vX11_isP rfl rfl rfl rfl (Nat.le_of_ble_eq_true rfl) (Nat.le_of_ble_eq_true rfl) (by decide) (sX11_isP_6 h hI  (by omega) (by omega) (by omega)) (fun H5 r6 q7 o8 => ?_)
  obtain ⟨hI9, hf10, y18, rfl, p19, f11, f12, f13, f14, f15, f16, f17⟩ := q7
  clear o8
  have hf20 := fz_fr_tr hf hf10 (show fz_su [(53, 24), (53, 25), (53, 26), (73, 99999)] [(53, 24), (53, 25), (53, 26), (73, 99999)] = true from rfl)
  refine fz_if_ne (tgt := 9) kX11_isS rfl (by decide) (fun c21 => ?_) (fun c21 => ?_)
  · have hPa22 : fz_Pa h H5 := f17 (by omega)
    have lp29 : ∀ (n28 : Nat) (H25 : fz_H), fz_Iv H25 → fz_fr [(53, 24), (53, 25), (53, 26), (73, 99999)] h H25 → fz_Pa h H25 → (H25 53 25 = 6) → (h 53 24 + 1 ≤ H25 53 24) → (H25 53 24 ≤ h 53 16) → (h 53 26 ≤ H25 53 26) → (H25 53 26 - h 53 26 ≤ H25 53 24 - h 53 24) → (h 53 16 - H25 53 24).toNat < n28 → fz_R 4 mX11_isS 9 [(0, fz_r 53)] [] H25 (qX11_isS_6 h) := by
      intro n28
      induction n28 with
      | zero => intro H25 hI26 hf27 hPa24 hv32 hv33 hv34 hv35 hv36 hm31; exact absurd hm31 (by omega)
      | succ n28 ih30 =>
        intro H25 hI26 hf27 hPa24 hv32 hv33 hv34 hv35 hv36 hm31
        refine fz_aload_n kX11_isS rfl rfl ?_
        have b37 : 0 ≤ H25 53 24 ∧ H25 53 24 ≤ 120 := hI26.1 53 _
        have b38 : 0 ≤ h 53 16 ∧ h 53 16 ≤ 120 := hI.1 53 _
        have e39 : H25 53 16 = h 53 16 := hf27 53 16 rfl
        refine fz_callV (d' := 0) (M' := mX11_sign) (As := []) (st := []) kX11_isS rfl rfl vX11_sign rfl rfl rfl rfl (Nat.le_of_ble_eq_true rfl) (Nat.le_of_ble_eq_true rfl) (by decide) (sX11_sign H25 hI26  (by omega)) (fun H40 r41 q42 o43 => ?_)
        obtain ⟨e44, y47, rfl, f45, f46⟩ := q42
        subst H40
        clear o43
        refine fz_bipush ⟨by decide, by decide⟩ kX11_isS rfl ?_
        refine fz_icmp_ne (tgt := 23) kX11_isS rfl (by decide) (fun c48 => ?_) (fun c48 => ?_)
        · refine fz_aload_n kX11_isS rfl rfl ?_
          refine fz_callV (d' := 0) (M' := mX11_sign) (As := []) (st := []) kX11_isS rfl rfl vX11_sign rfl rfl rfl rfl (Nat.le_of_ble_eq_true rfl) (Nat.le_of_ble_eq_true rfl) (by decide) (sX11_sign H25 hI26  (by omega)) (fun H49 r50 q51 o52 => ?_)
          obtain ⟨e53, y56, rfl, f54, f55⟩ := q51
          subst H49
          clear o52
          refine fz_bipush ⟨by decide, by decide⟩ kX11_isS rfl ?_
          refine fz_icmp_ne (tgt := 37) kX11_isS rfl (by decide) (fun c57 => ?_) (fun c57 => ?_)
          · refine fz_iconst ⟨by decide, by decide⟩ kX11_isS rfl ?_
            refine fz_istore_n (ls' := [(1, fz_i (-1)), (0, fz_r 53)]) kX11_isS rfl (by decide) rfl ?_
            refine fz_iload_n kX11_isS rfl rfl ?_
            refine fz_if_ge (tgt := 45) kX11_isS rfl (by decide) (fun c58 => ?_) (fun c58 => ?_)
            · exfalso; omega
            · refine fz_iconst ⟨by decide, by decide⟩ kX11_isS rfl ?_
              exact fz_zret kX11_isS rfl rfl (by omega) ⟨hI26, hf27, _, rfl, (by omega), (by omega), (by omega), (by omega), (by omega), (by omega), (by omega), (by first | (intro z; exfalso; omega) | (intro _; exact hPa24))⟩
          · refine fz_bipush ⟨by decide, by decide⟩ kX11_isS rfl ?_
            refine fz_goto (tgt := 38) kX11_isS rfl (by decide) ?_
            refine fz_istore_n (ls' := [(1, fz_i 12), (0, fz_r 53)]) kX11_isS rfl (by decide) rfl ?_
            refine fz_iload_n kX11_isS rfl rfl ?_
            refine fz_if_ge (tgt := 45) kX11_isS rfl (by decide) (fun c60 => ?_) (fun c60 => ?_)
            · refine fz_aload_n kX11_isS rfl rfl ?_
              refine fz_dup rfl kX11_isS rfl ?_
              obtain ⟨v61, e62⟩ : ∃ z, H25 53 (24) = z := ⟨_, rfl⟩
              refine fz_getV (v := v61) kX11_isS rfl rfl e62 ?_
              have b63 : 0 ≤ v61 ∧ v61 ≤ 120 := by rw [← e62]; exact hI26.1 53 _
              refine fz_iconst ⟨by decide, by decide⟩ kX11_isS rfl ?_
              refine fz_iaddN kX11_isS rfl (by omega) ?_
              refine fz_putI kX11_isS rfl rfl rfl ?_
              refine fz_nmu (S := [(53, 24), (53, 25), (53, 26), (73, 99999)]) (h0 := h) (fz_Iv_up hI26 (by decide) (show (0 : Int) ≤ (v61 + 1) by omega) (show ((v61 + 1) : Int) ≤ 120 by omega)) (fz_fr_up hf27 rfl) (fun H64 hI65 hf66 e67 => ?_)
              have k68 : H64 53 25 = 6 := by rw [e67]; exact (fz_up_s (by decide)).trans hv32
              have k69 : H64 53 24 = (v61 + 1) := by rw [e67]; exact fz_up_e
              have t70 : H64 53 26 = H25 53 26 := by rw [e67]; exact fz_up_s (by decide)
              have hPa71 : fz_Pa h H64 := fz_Pa_eq (by rw [e67]; exact fz_up_ne (by decide)) (by rw [e67]; exact fz_up_s (by decide)) hPa24
              refine fz_aload_n kX11_isS rfl rfl ?_
              have k72 := hPa71
              have b74 : 0 ≤ H64 53 25 ∧ H64 53 25 ≤ 6 := hI65.1 53 _
              have b75 : 0 ≤ H64 53 24 ∧ H64 53 24 ≤ 120 := hI65.1 53 _
              have b76 : 0 ≤ H64 53 26 ∧ H64 53 26 ≤ 200 := hI65.1 53 _
              have e77 : H64 53 16 = h 53 16 := hf66 53 16 rfl
              refine fz_callV (d' := 3) (M' := mX11_isP) (As := []) (st := []) kX11_isS rfl rfl vX11_isP rfl rfl rfl rfl (Nat.le_of_ble_eq_true rfl) (Nat.le_of_ble_eq_true rfl) (by decide) (sX11_isP_6 H64 hI65  (by omega) (by omega) (by omega)) (fun H78 r79 q80 o81 => ?_)
              obtain ⟨hI82, hf83, y91, rfl, p92, f84, f85, f86, f87, f88, f89, f90⟩ := q80
              clear o81
              have hf93 := fz_fr_tr hf66 hf83 (show fz_su [(53, 24), (53, 25), (53, 26), (73, 99999)] [(53, 24), (53, 25), (53, 26), (73, 99999)] = true from rfl)
              refine fz_if_ne (tgt := 64) kX11_isS rfl (by decide) (fun c94 => ?_) (fun c94 => ?_)
              · have k95 := f90 (by omega)
                refine fz_aload_n kX11_isS rfl rfl ?_
                refine fz_iload_n kX11_isS rfl rfl ?_
                have b97 : 0 ≤ H78 53 26 ∧ H78 53 26 ≤ 200 := hI82.1 53 _
                refine fz_callV (d' := 0) (M' := mX11_codes) (As := [fz_i 12]) (st := []) kX11_isS rfl rfl vX11_codes rfl rfl rfl rfl (Nat.le_of_ble_eq_true rfl) (Nat.le_of_ble_eq_true rfl) (by decide) (sX11_codes H78 hI82 12 (by omega)) (fun H98 r99 q100 o101 => ?_)
                obtain ⟨hI102, hf103, y107, rfl, p108, f104, f105, f106⟩ := q100
                clear o101
                have hf109 := fz_fr_tr hf93 hf103 (show fz_su [(53, 26), (73, 99999)] [(53, 24), (53, 25), (53, 26), (73, 99999)] = true from rfl)
                have k110 : H98 53 25 = 6 := (hf103 53 25 rfl).trans f84
                have t111 : H98 53 24 = H78 53 24 := hf103 53 24 rfl
                refine fz_eqi (show y107 = 1 by omega) ?_
                have hPa112 : fz_Pa h H98 := fz_Pa_b k72 k95 f106 (by omega)
                refine fz_pop rfl kX11_isS rfl ?_
                refine fz_goto (tgt := 9) kX11_isS rfl (by decide) ?_
                refine fz_sub (fz_pk_sub (ls' := [(0, fz_r 53)]) [1] rfl) ?_
                exact ih30  H98 hI102 hf109 hPa112 (by omega) (by omega) (by omega) (by omega) (by omega) (by omega)
              · refine fz_iconst ⟨by decide, by decide⟩ kX11_isS rfl ?_
                exact fz_zret kX11_isS rfl rfl (by omega) ⟨hI82, hf93, _, rfl, (by omega), (by omega), (by omega), (by omega), (by omega), (by omega), (by omega), (by first | (intro z; exfalso; omega) | (intro _; exact lost))⟩
            · exfalso; omega
        · refine fz_bipush ⟨by decide, by decide⟩ kX11_isS rfl ?_
          refine fz_goto (tgt := 38) kX11_isS rfl (by decide) ?_
          refine fz_istore_n (ls' := [(1, fz_i 11), (0, fz_r 53)]) kX11_isS rfl (by decide) rfl ?_
          refine fz_iload_n kX11_isS rfl rfl ?_
          refine fz_if_ge (tgt := 45) kX11_isS rfl (by decide) (fun c115 => ?_) (fun c115 => ?_)
          · refine fz_aload_n kX11_isS rfl rfl ?_
            refine fz_dup rfl kX11_isS rfl ?_
            obtain ⟨v116, e117⟩ : ∃ z, H25 53 (24) = z := ⟨_, rfl⟩
            refine fz_getV (v := v116) kX11_isS rfl rfl e117 ?_
            have b118 : 0 ≤ v116 ∧ v116 ≤ 120 := by rw [← e117]; exact hI26.1 53 _
            refine fz_iconst ⟨by decide, by decide⟩ kX11_isS rfl ?_
            refine fz_iaddN kX11_isS rfl (by omega) ?_
            refine fz_putI kX11_isS rfl rfl rfl ?_
            refine fz_nmu (S := [(53, 24), (53, 25), (53, 26), (73, 99999)]) (h0 := h) (fz_Iv_up hI26 (by decide) (show (0 : Int) ≤ (v116 + 1) by omega) (show ((v116 + 1) : Int) ≤ 120 by omega)) (fz_fr_up hf27 rfl) (fun H119 hI120 hf121 e122 => ?_)
            have k123 : H119 53 25 = 6 := by rw [e122]; exact (fz_up_s (by decide)).trans hv32
            have k124 : H119 53 24 = (v116 + 1) := by rw [e122]; exact fz_up_e
            have t125 : H119 53 26 = H25 53 26 := by rw [e122]; exact fz_up_s (by decide)
            have hPa126 : fz_Pa h H119 := fz_Pa_eq (by rw [e122]; exact fz_up_ne (by decide)) (by rw [e122]; exact fz_up_s (by decide)) hPa24
            refine fz_aload_n kX11_isS rfl rfl ?_
            have k127 := hPa126
            have b129 : 0 ≤ H119 53 25 ∧ H119 53 25 ≤ 6 := hI120.1 53 _
            have b130 : 0 ≤ H119 53 24 ∧ H119 53 24 ≤ 120 := hI120.1 53 _
            have b131 : 0 ≤ H119 53 26 ∧ H119 53 26 ≤ 200 := hI120.1 53 _
            have e132 : H119 53 16 = h 53 16 := hf121 53 16 rfl
            refine fz_callV (d' := 3) (M' := mX11_isP) (As := []) (st := []) kX11_isS rfl rfl vX11_isP rfl rfl rfl rfl (Nat.le_of_ble_eq_true rfl) (Nat.le_of_ble_eq_true rfl) (by decide) (sX11_isP_6 H119 hI120  (by omega) (by omega) (by omega)) (fun H133 r134 q135 o136 => ?_)
            obtain ⟨hI137, hf138, y146, rfl, p147, f139, f140, f141, f142, f143, f144, f145⟩ := q135
            clear o136
            have hf148 := fz_fr_tr hf121 hf138 (show fz_su [(53, 24), (53, 25), (53, 26), (73, 99999)] [(53, 24), (53, 25), (53, 26), (73, 99999)] = true from rfl)
            refine fz_if_ne (tgt := 64) kX11_isS rfl (by decide) (fun c149 => ?_) (fun c149 => ?_)
            · have k150 := f145 (by omega)
              refine fz_aload_n kX11_isS rfl rfl ?_
              refine fz_iload_n kX11_isS rfl rfl ?_
              have b152 : 0 ≤ H133 53 26 ∧ H133 53 26 ≤ 200 := hI137.1 53 _
              refine fz_callV (d' := 0) (M' := mX11_codes) (As := [fz_i 11]) (st := []) kX11_isS rfl rfl vX11_codes rfl rfl rfl rfl (Nat.le_of_ble_eq_true rfl) (Nat.le_of_ble_eq_true rfl) (by decide) (sX11_codes H133 hI137 11 (by omega)) (fun H153 r154 q155 o156 => ?_)
              obtain ⟨hI157, hf158, y162, rfl, p163, f159, f160, f161⟩ := q155
              clear o156
              have hf164 := fz_fr_tr hf148 hf158 (show fz_su [(53, 26), (73, 99999)] [(53, 24), (53, 25), (53, 26), (73, 99999)] = true from rfl)
              have k165 : H153 53 25 = 6 := (hf158 53 25 rfl).trans f139
              have t166 : H153 53 24 = H133 53 24 := hf158 53 24 rfl
              refine fz_eqi (show y162 = 1 by omega) ?_
              have hPa167 : fz_Pa h H153 := fz_Pa_b k127 k150 f161 (by omega)
              refine fz_pop rfl kX11_isS rfl ?_
              refine fz_goto (tgt := 9) kX11_isS rfl (by decide) ?_
              refine fz_sub (fz_pk_sub (ls' := [(0, fz_r 53)]) [1] rfl) ?_
              exact ih30  H153 hI157 hf164 hPa167 (by omega) (by omega) (by omega) (by omega) (by omega) (by omega)
            · refine fz_iconst ⟨by decide, by decide⟩ kX11_isS rfl ?_
              exact fz_zret kX11_isS rfl rfl (by omega) ⟨hI137, hf148, _, rfl, (by omega), (by omega), (by omega), (by omega), (by omega), (by omega), (by omega), (by first | (intro z; exfalso; omega) | (intro _; exact lost))⟩
          · exfalso; omega
    exact lp29 _  H5 hI9 hf20 hPa22 (by omega) (by omega) (by omega) (by omega) (by omega) (Nat.lt_succ_self _)
  · refine fz_iconst ⟨by decide, by decide⟩ kX11_isS rfl ?_
    exact fz_zret kX11_isS rfl rfl (by omega) ⟨hI9, hf20, _, rfl, (by omega), (by omega), (by omega), (by omega), (by omega), (by omega), (by omega), (by first | (intro z; exfalso; omega) | (intro _; exact lost))⟩

abbrev qX11_isB_6 (h : fz_H) : fz_H → Option fz_V → Prop := fun h' r0 => fz_Iv h' ∧ fz_fr [(53, 24), (53, 25), (53, 26), (73, 99999)] h h' ∧ ∃ r : Int, r0 = some (fz_i r) ∧ (r = 0 ∨ r = 1) ∧ (h' 53 25 = 6) ∧ (h 53 24 ≤ h' 53 24) ∧ (h' 53 24 ≤ h 53 16) ∧ (h 53 26 ≤ h' 53 26) ∧ (h' 53 26 - h 53 26 ≤ h' 53 24 - h 53 24) ∧ (r = 1 → h 53 24 + 1 ≤ h' 53 24) ∧ (r = 1 → fz_Pa h h')
set_option maxHeartbeats 1000000 in
set_option maxRecDepth 100000 in
theorem sX11_isB_6 (h : fz_H) (hI : fz_Iv h) (hp0 : h 53 25 = 6) (hp1 : h 53 24 ≤ h 53 16) (hp2 : h 53 26 ≤ h 53 24) : fz_R 5 mX11_isB 0 [(0, fz_r 53)] [] h (qX11_isB_6 h) := by
  have hf : fz_fr [(53, 24), (53, 25), (53, 26), (73, 99999)] h h := fz_fr_rf
  have b1 : 0 ≤ h 53 25 ∧ h 53 25 ≤ 6 := hI.1 53 _
  have b2 : 0 ≤ h 53 24 ∧ h 53 24 ≤ 120 := hI.1 53 _
  have b3 : 0 ≤ h 53 16 ∧ h 53 16 ≤ 120 := hI.1 53 _
  have b4 : 0 ≤ h 53 26 ∧ h 53 26 ≤ 200 := hI.1 53 _
  refine fz_aload_n kX11_isB rfl rfl ?_
  refine fz_callV (d' := 4) (M' := mX11_isS) (As := []) (st := []) kX11_isB rfl rfl vX11_isS rfl rfl rfl rfl (Nat.le_of_ble_eq_true rfl) (Nat.le_of_ble_eq_true rfl) (by decide) (sX11_isS_6 h hI  (by omega) (by omega) (by omega)) (fun H5 r6 q7 o8 => ?_)
  obtain ⟨hI9, hf10, y18, rfl, p19, f11, f12, f13, f14, f15, f16, f17⟩ := q7
  clear o8
  have hf20 := fz_fr_tr hf hf10 (show fz_su [(53, 24), (53, 25), (53, 26), (73, 99999)] [(53, 24), (53, 25), (53, 26), (73, 99999)] = true from rfl)
  refine fz_if_ne (tgt := 9) kX11_isB rfl (by decide) (fun c21 => ?_) (fun c21 => ?_)
  · have hPa22 : fz_Pa h H5 := f17 (by omega)
    refine fz_aload_n kX11_isB rfl rfl ?_
    have b24 : 0 ≤ H5 53 24 ∧ H5 53 24 ≤ 120 := hI9.1 53 _
    have e25 : H5 53 16 = h 53 16 := hf20 53 16 rfl
    refine fz_callV (d' := 0) (M' := mX11_sign) (As := []) (st := []) kX11_isB rfl rfl vX11_sign rfl rfl rfl rfl (Nat.le_of_ble_eq_true rfl) (Nat.le_of_ble_eq_true rfl) (by decide) (sX11_sign H5 hI9  (by omega)) (fun H26 r27 q28 o29 => ?_)
    obtain ⟨e30, y33, rfl, f31, f32⟩ := q28
    subst H26
    clear o29
    refine fz_bipush ⟨by decide, by decide⟩ kX11_isB rfl ?_
    refine fz_icmp_ne (tgt := 23) kX11_isB rfl (by decide) (fun c34 => ?_) (fun c34 => ?_)
    · refine fz_aload_n kX11_isB rfl rfl ?_
      refine fz_callV (d' := 0) (M' := mX11_sign) (As := []) (st := []) kX11_isB rfl rfl vX11_sign rfl rfl rfl rfl (Nat.le_of_ble_eq_true rfl) (Nat.le_of_ble_eq_true rfl) (by decide) (sX11_sign H5 hI9  (by omega)) (fun H35 r36 q37 o38 => ?_)
      obtain ⟨e39, y42, rfl, f40, f41⟩ := q37
      subst H35
      clear o38
      refine fz_bipush ⟨by decide, by decide⟩ kX11_isB rfl ?_
      refine fz_icmp_ne (tgt := 37) kX11_isB rfl (by decide) (fun c43 => ?_) (fun c43 => ?_)
      · refine fz_aload_n kX11_isB rfl rfl ?_
        refine fz_callV (d' := 0) (M' := mX11_sign) (As := []) (st := []) kX11_isB rfl rfl vX11_sign rfl rfl rfl rfl (Nat.le_of_ble_eq_true rfl) (Nat.le_of_ble_eq_true rfl) (by decide) (sX11_sign H5 hI9  (by omega)) (fun H44 r45 q46 o47 => ?_)
        obtain ⟨e48, y51, rfl, f49, f50⟩ := q46
        subst H44
        clear o47
        refine fz_bipush ⟨by decide, by decide⟩ kX11_isB rfl ?_
        refine fz_icmp_ne (tgt := 51) kX11_isB rfl (by decide) (fun c52 => ?_) (fun c52 => ?_)
        · refine fz_iconst ⟨by decide, by decide⟩ kX11_isB rfl ?_
          refine fz_istore_n (ls' := [(1, fz_i (-1)), (0, fz_r 53)]) kX11_isB rfl (by decide) rfl ?_
          refine fz_iload_n kX11_isB rfl rfl ?_
          refine fz_if_ge (tgt := 59) kX11_isB rfl (by decide) (fun c53 => ?_) (fun c53 => ?_)
          · exfalso; omega
          · refine fz_iconst ⟨by decide, by decide⟩ kX11_isB rfl ?_
            exact fz_zret kX11_isB rfl rfl (by omega) ⟨hI9, hf20, _, rfl, (by omega), (by omega), (by omega), (by omega), (by omega), (by omega), (by omega), (by first | (intro z; exfalso; omega) | (intro _; exact hPa22))⟩
        · refine fz_bipush ⟨by decide, by decide⟩ kX11_isB rfl ?_
          refine fz_goto (tgt := 52) kX11_isB rfl (by decide) ?_
          refine fz_istore_n (ls' := [(1, fz_i 10), (0, fz_r 53)]) kX11_isB rfl (by decide) rfl ?_
          refine fz_iload_n kX11_isB rfl rfl ?_
          refine fz_if_ge (tgt := 59) kX11_isB rfl (by decide) (fun c55 => ?_) (fun c55 => ?_)
          · refine fz_aload_n kX11_isB rfl rfl ?_
            refine fz_dup rfl kX11_isB rfl ?_
            obtain ⟨v56, e57⟩ : ∃ z, H5 53 (24) = z := ⟨_, rfl⟩
            refine fz_getV (v := v56) kX11_isB rfl rfl e57 ?_
            have b58 : 0 ≤ v56 ∧ v56 ≤ 120 := by rw [← e57]; exact hI9.1 53 _
            refine fz_iconst ⟨by decide, by decide⟩ kX11_isB rfl ?_
            refine fz_iaddN kX11_isB rfl (by omega) ?_
            refine fz_putI kX11_isB rfl rfl rfl ?_
            refine fz_nmu (S := [(53, 24), (53, 25), (53, 26), (73, 99999)]) (h0 := h) (fz_Iv_up hI9 (by decide) (show (0 : Int) ≤ (v56 + 1) by omega) (show ((v56 + 1) : Int) ≤ 120 by omega)) (fz_fr_up hf20 rfl) (fun H59 hI60 hf61 e62 => ?_)
            have k63 : H59 53 25 = 6 := by rw [e62]; exact (fz_up_s (by decide)).trans f11
            have k64 : H59 53 24 = (v56 + 1) := by rw [e62]; exact fz_up_e
            have t65 : H59 53 26 = H5 53 26 := by rw [e62]; exact fz_up_s (by decide)
            have hPa66 : fz_Pa h H59 := fz_Pa_eq (by rw [e62]; exact fz_up_ne (by decide)) (by rw [e62]; exact fz_up_s (by decide)) hPa22
            refine fz_aload_n kX11_isB rfl rfl ?_
            have k67 := hPa66
            have b69 : 0 ≤ H59 53 25 ∧ H59 53 25 ≤ 6 := hI60.1 53 _
            have b70 : 0 ≤ H59 53 24 ∧ H59 53 24 ≤ 120 := hI60.1 53 _
            have b71 : 0 ≤ H59 53 26 ∧ H59 53 26 ≤ 200 := hI60.1 53 _
            have e72 : H59 53 16 = h 53 16 := hf61 53 16 rfl
            refine fz_callV (d' := 4) (M' := mX11_isS) (As := []) (st := []) kX11_isB rfl rfl vX11_isS rfl rfl rfl rfl (Nat.le_of_ble_eq_true rfl) (Nat.le_of_ble_eq_true rfl) (by decide) (sX11_isS_6 H59 hI60  (by omega) (by omega) (by omega)) (fun H73 r74 q75 o76 => ?_)
            obtain ⟨hI77, hf78, y86, rfl, p87, f79, f80, f81, f82, f83, f84, f85⟩ := q75
            clear o76
            have hf88 := fz_fr_tr hf61 hf78 (show fz_su [(53, 24), (53, 25), (53, 26), (73, 99999)] [(53, 24), (53, 25), (53, 26), (73, 99999)] = true from rfl)
            refine fz_if_eq (tgt := 88) kX11_isB rfl (by decide) (fun c89 => ?_) (fun c89 => ?_)
            · refine fz_iconst ⟨by decide, by decide⟩ kX11_isB rfl ?_
              exact fz_zret kX11_isB rfl rfl (by omega) ⟨hI77, hf88, _, rfl, (by omega), (by omega), (by omega), (by omega), (by omega), (by omega), (by omega), (by first | (intro z; exfalso; omega) | (intro _; exact lost))⟩
            · have k91 := f85 (by omega)
              refine fz_aload_n kX11_isB rfl rfl ?_
              refine fz_iload_n kX11_isB rfl rfl ?_
              have b93 : 0 ≤ H73 53 26 ∧ H73 53 26 ≤ 200 := hI77.1 53 _
              refine fz_callV (d' := 0) (M' := mX11_codes) (As := [fz_i 10]) (st := []) kX11_isB rfl rfl vX11_codes rfl rfl rfl rfl (Nat.le_of_ble_eq_true rfl) (Nat.le_of_ble_eq_true rfl) (by decide) (sX11_codes H73 hI77 10 (by omega)) (fun H94 r95 q96 o97 => ?_)
              obtain ⟨hI98, hf99, y103, rfl, p104, f100, f101, f102⟩ := q96
              clear o97
              have hf105 := fz_fr_tr hf88 hf99 (show fz_su [(53, 26), (73, 99999)] [(53, 24), (53, 25), (53, 26), (73, 99999)] = true from rfl)
              have k106 : H94 53 25 = 6 := (hf99 53 25 rfl).trans f79
              have t107 : H94 53 24 = H73 53 24 := hf99 53 24 rfl
              refine fz_eqi (show y103 = 1 by omega) ?_
              have hPa108 : fz_Pa h H94 := fz_Pa_b k67 k91 f102 (by omega)
              refine fz_if_eq (tgt := 88) kX11_isB rfl (by decide) (fun c110 => ?_) (fun c110 => ?_)
              · exfalso; omega
              · refine fz_iconst ⟨by decide, by decide⟩ kX11_isB rfl ?_
                refine fz_goto (tgt := 89) kX11_isB rfl (by decide) ?_
                exact fz_zret kX11_isB rfl rfl (by omega) ⟨hI98, hf105, _, rfl, (by omega), (by omega), (by omega), (by omega), (by omega), (by omega), (by omega), (by first | (intro z; exfalso; omega) | (intro _; exact hPa108))⟩
          · exfalso; omega
      · refine fz_bipush ⟨by decide, by decide⟩ kX11_isB rfl ?_
        refine fz_goto (tgt := 52) kX11_isB rfl (by decide) ?_
        refine fz_istore_n (ls' := [(1, fz_i 9), (0, fz_r 53)]) kX11_isB rfl (by decide) rfl ?_
        refine fz_iload_n kX11_isB rfl rfl ?_
        refine fz_if_ge (tgt := 59) kX11_isB rfl (by decide) (fun c112 => ?_) (fun c112 => ?_)
        · refine fz_aload_n kX11_isB rfl rfl ?_
          refine fz_dup rfl kX11_isB rfl ?_
          obtain ⟨v113, e114⟩ : ∃ z, H5 53 (24) = z := ⟨_, rfl⟩
          refine fz_getV (v := v113) kX11_isB rfl rfl e114 ?_
          have b115 : 0 ≤ v113 ∧ v113 ≤ 120 := by rw [← e114]; exact hI9.1 53 _
          refine fz_iconst ⟨by decide, by decide⟩ kX11_isB rfl ?_
          refine fz_iaddN kX11_isB rfl (by omega) ?_
          refine fz_putI kX11_isB rfl rfl rfl ?_
          refine fz_nmu (S := [(53, 24), (53, 25), (53, 26), (73, 99999)]) (h0 := h) (fz_Iv_up hI9 (by decide) (show (0 : Int) ≤ (v113 + 1) by omega) (show ((v113 + 1) : Int) ≤ 120 by omega)) (fz_fr_up hf20 rfl) (fun H116 hI117 hf118 e119 => ?_)
          have k120 : H116 53 25 = 6 := by rw [e119]; exact (fz_up_s (by decide)).trans f11
          have k121 : H116 53 24 = (v113 + 1) := by rw [e119]; exact fz_up_e
          have t122 : H116 53 26 = H5 53 26 := by rw [e119]; exact fz_up_s (by decide)
          have hPa123 : fz_Pa h H116 := fz_Pa_eq (by rw [e119]; exact fz_up_ne (by decide)) (by rw [e119]; exact fz_up_s (by decide)) hPa22
          refine fz_aload_n kX11_isB rfl rfl ?_
          have k124 := hPa123
          have b126 : 0 ≤ H116 53 25 ∧ H116 53 25 ≤ 6 := hI117.1 53 _
          have b127 : 0 ≤ H116 53 24 ∧ H116 53 24 ≤ 120 := hI117.1 53 _
          have b128 : 0 ≤ H116 53 26 ∧ H116 53 26 ≤ 200 := hI117.1 53 _
          have e129 : H116 53 16 = h 53 16 := hf118 53 16 rfl
          refine fz_callV (d' := 4) (M' := mX11_isS) (As := []) (st := []) kX11_isB rfl rfl vX11_isS rfl rfl rfl rfl (Nat.le_of_ble_eq_true rfl) (Nat.le_of_ble_eq_true rfl) (by decide) (sX11_isS_6 H116 hI117  (by omega) (by omega) (by omega)) (fun H130 r131 q132 o133 => ?_)
          obtain ⟨hI134, hf135, y143, rfl, p144, f136, f137, f138, f139, f140, f141, f142⟩ := q132
          clear o133
          have hf145 := fz_fr_tr hf118 hf135 (show fz_su [(53, 24), (53, 25), (53, 26), (73, 99999)] [(53, 24), (53, 25), (53, 26), (73, 99999)] = true from rfl)
          refine fz_if_eq (tgt := 88) kX11_isB rfl (by decide) (fun c146 => ?_) (fun c146 => ?_)
          · refine fz_iconst ⟨by decide, by decide⟩ kX11_isB rfl ?_
            exact fz_zret kX11_isB rfl rfl (by omega) ⟨hI134, hf145, _, rfl, (by omega), (by omega), (by omega), (by omega), (by omega), (by omega), (by omega), (by first | (intro z; exfalso; omega) | (intro _; exact lost))⟩
          · have k148 := f142 (by omega)
            refine fz_aload_n kX11_isB rfl rfl ?_
            refine fz_iload_n kX11_isB rfl rfl ?_
            have b150 : 0 ≤ H130 53 26 ∧ H130 53 26 ≤ 200 := hI134.1 53 _
            refine fz_callV (d' := 0) (M' := mX11_codes) (As := [fz_i 9]) (st := []) kX11_isB rfl rfl vX11_codes rfl rfl rfl rfl (Nat.le_of_ble_eq_true rfl) (Nat.le_of_ble_eq_true rfl) (by decide) (sX11_codes H130 hI134 9 (by omega)) (fun H151 r152 q153 o154 => ?_)
            obtain ⟨hI155, hf156, y160, rfl, p161, f157, f158, f159⟩ := q153
            clear o154
            have hf162 := fz_fr_tr hf145 hf156 (show fz_su [(53, 26), (73, 99999)] [(53, 24), (53, 25), (53, 26), (73, 99999)] = true from rfl)
            have k163 : H151 53 25 = 6 := (hf156 53 25 rfl).trans f136
            have t164 : H151 53 24 = H130 53 24 := hf156 53 24 rfl
            refine fz_eqi (show y160 = 1 by omega) ?_
            have hPa165 : fz_Pa h H151 := fz_Pa_b k124 k148 f159 (by omega)
            refine fz_if_eq (tgt := 88) kX11_isB rfl (by decide) (fun c167 => ?_) (fun c167 => ?_)
            · exfalso; omega
            · refine fz_iconst ⟨by decide, by decide⟩ kX11_isB rfl ?_
              refine fz_goto (tgt := 89) kX11_isB rfl (by decide) ?_
              exact fz_zret kX11_isB rfl rfl (by omega) ⟨hI155, hf162, _, rfl, (by omega), (by omega), (by omega), (by omega), (by omega), (by omega), (by omega), (by first | (intro z; exfalso; omega) | (intro _; exact hPa165))⟩
        · exfalso; omega
    · refine fz_bipush ⟨by decide, by decide⟩ kX11_isB rfl ?_
      refine fz_goto (tgt := 52) kX11_isB rfl (by decide) ?_
      refine fz_istore_n (ls' := [(1, fz_i 8), (0, fz_r 53)]) kX11_isB rfl (by decide) rfl ?_
      refine fz_iload_n kX11_isB rfl rfl ?_
      refine fz_if_ge (tgt := 59) kX11_isB rfl (by decide) (fun c169 => ?_) (fun c169 => ?_)
      · refine fz_aload_n kX11_isB rfl rfl ?_
        refine fz_dup rfl kX11_isB rfl ?_
        obtain ⟨v170, e171⟩ : ∃ z, H5 53 (24) = z := ⟨_, rfl⟩
        refine fz_getV (v := v170) kX11_isB rfl rfl e171 ?_
        have b172 : 0 ≤ v170 ∧ v170 ≤ 120 := by rw [← e171]; exact hI9.1 53 _
        refine fz_iconst ⟨by decide, by decide⟩ kX11_isB rfl ?_
        refine fz_iaddN kX11_isB rfl (by omega) ?_
        refine fz_putI kX11_isB rfl rfl rfl ?_
        refine fz_nmu (S := [(53, 24), (53, 25), (53, 26), (73, 99999)]) (h0 := h) (fz_Iv_up hI9 (by decide) (show (0 : Int) ≤ (v170 + 1) by omega) (show ((v170 + 1) : Int) ≤ 120 by omega)) (fz_fr_up hf20 rfl) (fun H173 hI174 hf175 e176 => ?_)
        have k177 : H173 53 25 = 6 := by rw [e176]; exact (fz_up_s (by decide)).trans f11
        have k178 : H173 53 24 = (v170 + 1) := by rw [e176]; exact fz_up_e
        have t179 : H173 53 26 = H5 53 26 := by rw [e176]; exact fz_up_s (by decide)
        have hPa180 : fz_Pa h H173 := fz_Pa_eq (by rw [e176]; exact fz_up_ne (by decide)) (by rw [e176]; exact fz_up_s (by decide)) hPa22
        refine fz_aload_n kX11_isB rfl rfl ?_
        have k181 := hPa180
        have b183 : 0 ≤ H173 53 25 ∧ H173 53 25 ≤ 6 := hI174.1 53 _
        have b184 : 0 ≤ H173 53 24 ∧ H173 53 24 ≤ 120 := hI174.1 53 _
        have b185 : 0 ≤ H173 53 26 ∧ H173 53 26 ≤ 200 := hI174.1 53 _
        have e186 : H173 53 16 = h 53 16 := hf175 53 16 rfl
        refine fz_callV (d' := 4) (M' := mX11_isS) (As := []) (st := []) kX11_isB rfl rfl vX11_isS rfl rfl rfl rfl (Nat.le_of_ble_eq_true rfl) (Nat.le_of_ble_eq_true rfl) (by decide) (sX11_isS_6 H173 hI174  (by omega) (by omega) (by omega)) (fun H187 r188 q189 o190 => ?_)
        obtain ⟨hI191, hf192, y200, rfl, p201, f193, f194, f195, f196, f197, f198, f199⟩ := q189
        clear o190
        have hf202 := fz_fr_tr hf175 hf192 (show fz_su [(53, 24), (53, 25), (53, 26), (73, 99999)] [(53, 24), (53, 25), (53, 26), (73, 99999)] = true from rfl)
        refine fz_if_eq (tgt := 88) kX11_isB rfl (by decide) (fun c203 => ?_) (fun c203 => ?_)
        · refine fz_iconst ⟨by decide, by decide⟩ kX11_isB rfl ?_
          exact fz_zret kX11_isB rfl rfl (by omega) ⟨hI191, hf202, _, rfl, (by omega), (by omega), (by omega), (by omega), (by omega), (by omega), (by omega), (by first | (intro z; exfalso; omega) | (intro _; exact lost))⟩
        · have k205 := f199 (by omega)
          refine fz_aload_n kX11_isB rfl rfl ?_
          refine fz_iload_n kX11_isB rfl rfl ?_
          have b207 : 0 ≤ H187 53 26 ∧ H187 53 26 ≤ 200 := hI191.1 53 _
          refine fz_callV (d' := 0) (M' := mX11_codes) (As := [fz_i 8]) (st := []) kX11_isB rfl rfl vX11_codes rfl rfl rfl rfl (Nat.le_of_ble_eq_true rfl) (Nat.le_of_ble_eq_true rfl) (by decide) (sX11_codes H187 hI191 8 (by omega)) (fun H208 r209 q210 o211 => ?_)
          obtain ⟨hI212, hf213, y217, rfl, p218, f214, f215, f216⟩ := q210
          clear o211
          have hf219 := fz_fr_tr hf202 hf213 (show fz_su [(53, 26), (73, 99999)] [(53, 24), (53, 25), (53, 26), (73, 99999)] = true from rfl)
          have k220 : H208 53 25 = 6 := (hf213 53 25 rfl).trans f193
          have t221 : H208 53 24 = H187 53 24 := hf213 53 24 rfl
          refine fz_eqi (show y217 = 1 by omega) ?_
          have hPa222 : fz_Pa h H208 := fz_Pa_b k181 k205 f216 (by omega)
          refine fz_if_eq (tgt := 88) kX11_isB rfl (by decide) (fun c224 => ?_) (fun c224 => ?_)
          · exfalso; omega
          · refine fz_iconst ⟨by decide, by decide⟩ kX11_isB rfl ?_
            refine fz_goto (tgt := 89) kX11_isB rfl (by decide) ?_
            exact fz_zret kX11_isB rfl rfl (by omega) ⟨hI212, hf219, _, rfl, (by omega), (by omega), (by omega), (by omega), (by omega), (by omega), (by omega), (by first | (intro z; exfalso; omega) | (intro _; exact hPa222))⟩
      · exfalso; omega
  · refine fz_iconst ⟨by decide, by decide⟩ kX11_isB rfl ?_
    exact fz_zret kX11_isB rfl rfl (by omega) ⟨hI9, hf20, _, rfl, (by omega), (by omega), (by omega), (by omega), (by omega), (by omega), (by omega), (by first | (intro z; exfalso; omega) | (intro _; exact lost))⟩

abbrev qX11_isA_6 (h : fz_H) : fz_H → Option fz_V → Prop := fun h' r0 => fz_Iv h' ∧ fz_fr [(53, 24), (53, 25), (53, 26), (73, 99999)] h h' ∧ ∃ r : Int, r0 = some (fz_i r) ∧ (r = 0 ∨ r = 1) ∧ (h' 53 25 = 6) ∧ (h 53 24 ≤ h' 53 24) ∧ (h' 53 24 ≤ h 53 16) ∧ (h 53 26 ≤ h' 53 26) ∧ (h' 53 26 - h 53 26 ≤ h' 53 24 - h 53 24) ∧ (r = 1 → h 53 24 + 1 ≤ h' 53 24) ∧ (r = 1 → fz_Pa h h')
set_option maxHeartbeats 1000000 in
set_option maxRecDepth 100000 in
theorem sX11_isA_6 (h : fz_H) (hI : fz_Iv h) (hp0 : h 53 25 = 6) (hp1 : h 53 24 ≤ h 53 16) (hp2 : h 53 26 ≤ h 53 24) : fz_R 6 mX11_isA 0 [(0, fz_r 53)] [] h (qX11_isA_6 h) := by
  have hf : fz_fr [(53, 24), (53, 25), (53, 26), (73, 99999)] h h := fz_fr_rf
  have b1 : 0 ≤ h 53 25 ∧ h 53 25 ≤ 6 := hI.1 53 _
  have b2 : 0 ≤ h 53 24 ∧ h 53 24 ≤ 120 := hI.1 53 _
  have b3 : 0 ≤ h 53 16 ∧ h 53 16 ≤ 120 := hI.1 53 _
  have b4 : 0 ≤ h 53 26 ∧ h 53 26 ≤ 200 := hI.1 53 _
  refine fz_aload_n kX11_isA rfl rfl ?_
  refine fz_callV (d' := 5) (M' := mX11_isB) (As := []) (st := []) kX11_isA rfl rfl vX11_isB rfl rfl rfl rfl (Nat.le_of_ble_eq_true rfl) (Nat.le_of_ble_eq_true rfl) (by decide) (sX11_isB_6 h hI  (by omega) (by omega) (by omega)) (fun H5 r6 q7 o8 => ?_)
  obtain ⟨hI9, hf10, y18, rfl, p19, f11, f12, f13, f14, f15, f16, f17⟩ := q7
  clear o8
  have hf20 := fz_fr_tr hf hf10 (show fz_su [(53, 24), (53, 25), (53, 26), (73, 99999)] [(53, 24), (53, 25), (53, 26), (73, 99999)] = true from rfl)
  refine fz_if_ne (tgt := 9) kX11_isA rfl (by decide) (fun c21 => ?_) (fun c21 => ?_)
  · have hPa22 : fz_Pa h H5 := f17 (by omega)
    have lp29 : ∀ (n28 : Nat) (H25 : fz_H), fz_Iv H25 → fz_fr [(53, 24), (53, 25), (53, 26), (73, 99999)] h H25 → fz_Pa h H25 → (H25 53 25 = 6) → (h 53 24 + 1 ≤ H25 53 24) → (H25 53 24 ≤ h 53 16) → (h 53 26 ≤ H25 53 26) → (H25 53 26 - h 53 26 ≤ H25 53 24 - h 53 24) → (h 53 16 - H25 53 24).toNat < n28 → fz_R 6 mX11_isA 9 [(0, fz_r 53)] [] H25 (qX11_isA_6 h) := by
      intro n28
      induction n28 with
      | zero => intro H25 hI26 hf27 hPa24 hv32 hv33 hv34 hv35 hv36 hm31; exact absurd hm31 (by omega)
      | succ n28 ih30 =>
        intro H25 hI26 hf27 hPa24 hv32 hv33 hv34 hv35 hv36 hm31
        refine fz_aload_n kX11_isA rfl rfl ?_
        refine fz_bipush ⟨by decide, by decide⟩ kX11_isA rfl ?_
        have b37 : 0 ≤ H25 53 24 ∧ H25 53 24 ≤ 120 := hI26.1 53 _
        have b38 : 0 ≤ h 53 16 ∧ h 53 16 ≤ 120 := hI.1 53 _
        have e39 : H25 53 16 = h 53 16 := hf27 53 16 rfl
        refine fz_callV (d' := 1) (M' := mX11_is) (As := [fz_i 38]) (st := []) kX11_isA rfl rfl vX11_is rfl rfl rfl rfl (Nat.le_of_ble_eq_true rfl) (Nat.le_of_ble_eq_true rfl) (by decide) (sX11_is H25 hI26 38 (by omega) (by omega)) (fun H40 r41 q42 o43 => ?_)
        obtain ⟨hI44, hf45, y47, rfl, p48, f46⟩ := q42
        clear o43
        have hf49 := fz_fr_tr hf27 hf45 (show fz_su [(53, 24)] [(53, 24), (53, 25), (53, 26), (73, 99999)] = true from rfl)
        have k50 : H40 53 25 = 6 := (hf45 53 25 rfl).trans hv32
        have hPa51 : fz_Pa h H40 := fz_Pa_eq (funext fun s => hf45 73 s rfl) (hf45 53 26 rfl) hPa24
        have t52 : H40 53 26 = H25 53 26 := hf45 53 26 rfl
        refine fz_if_eq (tgt := 37) kX11_isA rfl (by decide) (fun c53 => ?_) (fun c53 => ?_)
        · refine fz_iconst ⟨by decide, by decide⟩ kX11_isA rfl ?_
          exact fz_zret kX11_isA rfl rfl (by omega) ⟨hI44, hf49, _, rfl, (by omega), (by omega), (by omega), (by omega), (by omega), (by omega), (by omega), (by first | (intro z; exfalso; omega) | (intro _; exact hPa51))⟩
        · refine fz_aload_n kX11_isA rfl rfl ?_
          have k55 := hPa51
          have b57 : 0 ≤ H40 53 25 ∧ H40 53 25 ≤ 6 := hI44.1 53 _
          have b58 : 0 ≤ H40 53 24 ∧ H40 53 24 ≤ 120 := hI44.1 53 _
          have b59 : 0 ≤ H40 53 26 ∧ H40 53 26 ≤ 200 := hI44.1 53 _
          have e60 : H40 53 16 = h 53 16 := hf49 53 16 rfl
          refine fz_callV (d' := 5) (M' := mX11_isB) (As := []) (st := []) kX11_isA rfl rfl vX11_isB rfl rfl rfl rfl (Nat.le_of_ble_eq_true rfl) (Nat.le_of_ble_eq_true rfl) (by decide) (sX11_isB_6 H40 hI44  (by omega) (by omega) (by omega)) (fun H61 r62 q63 o64 => ?_)
          obtain ⟨hI65, hf66, y74, rfl, p75, f67, f68, f69, f70, f71, f72, f73⟩ := q63
          clear o64
          have hf76 := fz_fr_tr hf49 hf66 (show fz_su [(53, 24), (53, 25), (53, 26), (73, 99999)] [(53, 24), (53, 25), (53, 26), (73, 99999)] = true from rfl)
          refine fz_if_ne (tgt := 27) kX11_isA rfl (by decide) (fun c77 => ?_) (fun c77 => ?_)
          · have k78 := f73 (by omega)
            refine fz_aload_n kX11_isA rfl rfl ?_
            refine fz_bipush ⟨by decide, by decide⟩ kX11_isA rfl ?_
            have b80 : 0 ≤ H61 53 26 ∧ H61 53 26 ≤ 200 := hI65.1 53 _
            refine fz_callV (d' := 0) (M' := mX11_codes) (As := [fz_i 7]) (st := []) kX11_isA rfl rfl vX11_codes rfl rfl rfl rfl (Nat.le_of_ble_eq_true rfl) (Nat.le_of_ble_eq_true rfl) (by decide) (sX11_codes H61 hI65 7 (by omega)) (fun H81 r82 q83 o84 => ?_)
            obtain ⟨hI85, hf86, y90, rfl, p91, f87, f88, f89⟩ := q83
            clear o84
            have hf92 := fz_fr_tr hf76 hf86 (show fz_su [(53, 26), (73, 99999)] [(53, 24), (53, 25), (53, 26), (73, 99999)] = true from rfl)
            have k93 : H81 53 25 = 6 := (hf86 53 25 rfl).trans f67
            have t94 : H81 53 24 = H61 53 24 := hf86 53 24 rfl
            refine fz_eqi (show y90 = 1 by omega) ?_
            have hPa95 : fz_Pa h H81 := fz_Pa_b k55 k78 f89 (by omega)
            refine fz_pop rfl kX11_isA rfl ?_
            refine fz_goto (tgt := 9) kX11_isA rfl (by decide) ?_
            exact ih30  H81 hI85 hf92 hPa95 (by omega) (by omega) (by omega) (by omega) (by omega) (by omega)
          · refine fz_iconst ⟨by decide, by decide⟩ kX11_isA rfl ?_
            exact fz_zret kX11_isA rfl rfl (by omega) ⟨hI65, hf76, _, rfl, (by omega), (by omega), (by omega), (by omega), (by omega), (by omega), (by omega), (by first | (intro z; exfalso; omega) | (intro _; exact lost))⟩
    exact lp29 _  H5 hI9 hf20 hPa22 (by omega) (by omega) (by omega) (by omega) (by omega) (Nat.lt_succ_self _)
  · refine fz_iconst ⟨by decide, by decide⟩ kX11_isA rfl ?_
    exact fz_zret kX11_isA rfl rfl (by omega) ⟨hI9, hf20, _, rfl, (by omega), (by omega), (by omega), (by omega), (by omega), (by omega), (by omega), (by first | (intro z; exfalso; omega) | (intro _; exact lost))⟩

abbrev qX11_isE_6 (h : fz_H) : fz_H → Option fz_V → Prop := fun h' r0 => fz_Iv h' ∧ fz_fr [(53, 24), (53, 25), (53, 26), (73, 99999)] h h' ∧ ∃ r : Int, r0 = some (fz_i r) ∧ (r = 0 ∨ r = 1) ∧ (h' 53 25 = 6) ∧ (h 53 24 ≤ h' 53 24) ∧ (h' 53 24 ≤ h 53 16) ∧ (h 53 26 ≤ h' 53 26) ∧ (h' 53 26 - h 53 26 ≤ h' 53 24 - h 53 24) ∧ (r = 1 → h 53 24 + 1 ≤ h' 53 24) ∧ (r = 1 → fz_Pa h h')
set_option maxHeartbeats 1000000 in
set_option maxRecDepth 100000 in
theorem sX11_isE_6 (h : fz_H) (hI : fz_Iv h) (hp0 : h 53 25 = 6) (hp1 : h 53 24 ≤ h 53 16) (hp2 : h 53 26 ≤ h 53 24) : fz_R 7 mX11_isE 0 [(0, fz_r 53)] [] h (qX11_isE_6 h) := by
  have hf : fz_fr [(53, 24), (53, 25), (53, 26), (73, 99999)] h h := fz_fr_rf
  have b1 : 0 ≤ h 53 25 ∧ h 53 25 ≤ 6 := hI.1 53 _
  have b2 : 0 ≤ h 53 24 ∧ h 53 24 ≤ 120 := hI.1 53 _
  have b3 : 0 ≤ h 53 16 ∧ h 53 16 ≤ 120 := hI.1 53 _
  have b4 : 0 ≤ h 53 26 ∧ h 53 26 ≤ 200 := hI.1 53 _
  refine fz_aload_n kX11_isE rfl rfl ?_
  refine fz_callV (d' := 6) (M' := mX11_isA) (As := []) (st := []) kX11_isE rfl rfl vX11_isA rfl rfl rfl rfl (Nat.le_of_ble_eq_true rfl) (Nat.le_of_ble_eq_true rfl) (by decide) (sX11_isA_6 h hI  (by omega) (by omega) (by omega)) (fun H5 r6 q7 o8 => ?_)
  obtain ⟨hI9, hf10, y18, rfl, p19, f11, f12, f13, f14, f15, f16, f17⟩ := q7
  clear o8
  have hf20 := fz_fr_tr hf hf10 (show fz_su [(53, 24), (53, 25), (53, 26), (73, 99999)] [(53, 24), (53, 25), (53, 26), (73, 99999)] = true from rfl)
  refine fz_if_ne (tgt := 9) kX11_isE rfl (by decide) (fun c21 => ?_) (fun c21 => ?_)
  · have hPa22 : fz_Pa h H5 := f17 (by omega)
    have lp29 : ∀ (n28 : Nat) (H25 : fz_H), fz_Iv H25 → fz_fr [(53, 24), (53, 25), (53, 26), (73, 99999)] h H25 → fz_Pa h H25 → (H25 53 25 = 6) → (h 53 24 + 1 ≤ H25 53 24) → (H25 53 24 ≤ h 53 16) → (h 53 26 ≤ H25 53 26) → (H25 53 26 - h 53 26 ≤ H25 53 24 - h 53 24) → (h 53 16 - H25 53 24).toNat < n28 → fz_R 7 mX11_isE 9 [(0, fz_r 53)] [] H25 (qX11_isE_6 h) := by
      intro n28
      induction n28 with
      | zero => intro H25 hI26 hf27 hPa24 hv32 hv33 hv34 hv35 hv36 hm31; exact absurd hm31 (by omega)
      | succ n28 ih30 =>
        intro H25 hI26 hf27 hPa24 hv32 hv33 hv34 hv35 hv36 hm31
        refine fz_aload_n kX11_isE rfl rfl ?_
        refine fz_bipush ⟨by decide, by decide⟩ kX11_isE rfl ?_
        have b37 : 0 ≤ H25 53 24 ∧ H25 53 24 ≤ 120 := hI26.1 53 _
        have b38 : 0 ≤ h 53 16 ∧ h 53 16 ≤ 120 := hI.1 53 _
        have e39 : H25 53 16 = h 53 16 := hf27 53 16 rfl
        refine fz_callV (d' := 1) (M' := mX11_is) (As := [fz_i 124]) (st := []) kX11_isE rfl rfl vX11_is rfl rfl rfl rfl (Nat.le_of_ble_eq_true rfl) (Nat.le_of_ble_eq_true rfl) (by decide) (sX11_is H25 hI26 124 (by omega) (by omega)) (fun H40 r41 q42 o43 => ?_)
        obtain ⟨hI44, hf45, y47, rfl, p48, f46⟩ := q42
        clear o43
        have hf49 := fz_fr_tr hf27 hf45 (show fz_su [(53, 24)] [(53, 24), (53, 25), (53, 26), (73, 99999)] = true from rfl)
        have k50 : H40 53 25 = 6 := (hf45 53 25 rfl).trans hv32
        have hPa51 : fz_Pa h H40 := fz_Pa_eq (funext fun s => hf45 73 s rfl) (hf45 53 26 rfl) hPa24
        have t52 : H40 53 26 = H25 53 26 := hf45 53 26 rfl
        refine fz_if_eq (tgt := 37) kX11_isE rfl (by decide) (fun c53 => ?_) (fun c53 => ?_)
        · refine fz_iconst ⟨by decide, by decide⟩ kX11_isE rfl ?_
          exact fz_zret kX11_isE rfl rfl (by omega) ⟨hI44, hf49, _, rfl, (by omega), (by omega), (by omega), (by omega), (by omega), (by omega), (by omega), (by first | (intro z; exfalso; omega) | (intro _; exact hPa51))⟩
        · refine fz_aload_n kX11_isE rfl rfl ?_
          have k55 := hPa51
          have b57 : 0 ≤ H40 53 25 ∧ H40 53 25 ≤ 6 := hI44.1 53 _
          have b58 : 0 ≤ H40 53 24 ∧ H40 53 24 ≤ 120 := hI44.1 53 _
          have b59 : 0 ≤ H40 53 26 ∧ H40 53 26 ≤ 200 := hI44.1 53 _
          have e60 : H40 53 16 = h 53 16 := hf49 53 16 rfl
          refine fz_callV (d' := 6) (M' := mX11_isA) (As := []) (st := []) kX11_isE rfl rfl vX11_isA rfl rfl rfl rfl (Nat.le_of_ble_eq_true rfl) (Nat.le_of_ble_eq_true rfl) (by decide) (sX11_isA_6 H40 hI44  (by omega) (by omega) (by omega)) (fun H61 r62 q63 o64 => ?_)
          obtain ⟨hI65, hf66, y74, rfl, p75, f67, f68, f69, f70, f71, f72, f73⟩ := q63
          clear o64
          have hf76 := fz_fr_tr hf49 hf66 (show fz_su [(53, 24), (53, 25), (53, 26), (73, 99999)] [(53, 24), (53, 25), (53, 26), (73, 99999)] = true from rfl)
          refine fz_if_ne (tgt := 27) kX11_isE rfl (by decide) (fun c77 => ?_) (fun c77 => ?_)
          · have k78 := f73 (by omega)
            refine fz_aload_n kX11_isE rfl rfl ?_
            refine fz_bipush ⟨by decide, by decide⟩ kX11_isE rfl ?_
            have b80 : 0 ≤ H61 53 26 ∧ H61 53 26 ≤ 200 := hI65.1 53 _
            refine fz_callV (d' := 0) (M' := mX11_codes) (As := [fz_i 6]) (st := []) kX11_isE rfl rfl vX11_codes rfl rfl rfl rfl (Nat.le_of_ble_eq_true rfl) (Nat.le_of_ble_eq_true rfl) (by decide) (sX11_codes H61 hI65 6 (by omega)) (fun H81 r82 q83 o84 => ?_)
            obtain ⟨hI85, hf86, y90, rfl, p91, f87, f88, f89⟩ := q83
            clear o84
            have hf92 := fz_fr_tr hf76 hf86 (show fz_su [(53, 26), (73, 99999)] [(53, 24), (53, 25), (53, 26), (73, 99999)] = true from rfl)
            have k93 : H81 53 25 = 6 := (hf86 53 25 rfl).trans f67
            have t94 : H81 53 24 = H61 53 24 := hf86 53 24 rfl
            refine fz_eqi (show y90 = 1 by omega) ?_
            have hPa95 : fz_Pa h H81 := fz_Pa_b k55 k78 f89 (by omega)
            refine fz_pop rfl kX11_isE rfl ?_
            refine fz_goto (tgt := 9) kX11_isE rfl (by decide) ?_
            exact ih30  H81 hI85 hf92 hPa95 (by omega) (by omega) (by omega) (by omega) (by omega) (by omega)
          · refine fz_iconst ⟨by decide, by decide⟩ kX11_isE rfl ?_
            exact fz_zret kX11_isE rfl rfl (by omega) ⟨hI65, hf76, _, rfl, (by omega), (by omega), (by omega), (by omega), (by omega), (by omega), (by omega), (by first | (intro z; exfalso; omega) | (intro _; exact lost))⟩
    exact lp29 _  H5 hI9 hf20 hPa22 (by omega) (by omega) (by omega) (by omega) (by omega) (Nat.lt_succ_self _)
  · refine fz_iconst ⟨by decide, by decide⟩ kX11_isE rfl ?_
    exact fz_zret kX11_isE rfl rfl (by omega) ⟨hI9, hf20, _, rfl, (by omega), (by omega), (by omega), (by omega), (by omega), (by omega), (by omega), (by first | (intro z; exfalso; omega) | (intro _; exact lost))⟩

abbrev qX11_isO_g (f : Nat) (L : Int) (h : fz_H) : fz_H → Option fz_V → Prop := fun h' r0 => fz_Iv h' ∧ fz_fr [(53, 24), (53, 25), (53, 26), (73, 99999)] h h' ∧ ∃ r : Int, r0 = some (fz_i r) ∧ (r = 0 ∨ r = 1) ∧ (h' 53 25 = L) ∧ (h 53 24 ≤ h' 53 24) ∧ (h' 53 24 ≤ h 53 16) ∧ (h 53 26 ≤ h' 53 26) ∧ (h' 53 26 - h 53 26 ≤ h' 53 24 - h 53 24) ∧ (r = 1 → h 53 24 + 1 ≤ h' 53 24) ∧ (r = 1 → fz_Pa h h')
abbrev qX11_isP_g (f : Nat) (L : Int) (h : fz_H) : fz_H → Option fz_V → Prop := fun h' r0 => fz_Iv h' ∧ fz_fr [(53, 24), (53, 25), (53, 26), (73, 99999)] h h' ∧ ∃ r : Int, r0 = some (fz_i r) ∧ (r = 0 ∨ r = 1) ∧ (h' 53 25 = L) ∧ (h 53 24 ≤ h' 53 24) ∧ (h' 53 24 ≤ h 53 16) ∧ (h 53 26 ≤ h' 53 26) ∧ (h' 53 26 - h 53 26 ≤ h' 53 24 - h 53 24) ∧ (r = 1 → h 53 24 + 1 ≤ h' 53 24) ∧ (r = 1 → fz_Pa h h')
abbrev qX11_isS_g (f : Nat) (L : Int) (h : fz_H) : fz_H → Option fz_V → Prop := fun h' r0 => fz_Iv h' ∧ fz_fr [(53, 24), (53, 25), (53, 26), (73, 99999)] h h' ∧ ∃ r : Int, r0 = some (fz_i r) ∧ (r = 0 ∨ r = 1) ∧ (h' 53 25 = L) ∧ (h 53 24 ≤ h' 53 24) ∧ (h' 53 24 ≤ h 53 16) ∧ (h 53 26 ≤ h' 53 26) ∧ (h' 53 26 - h 53 26 ≤ h' 53 24 - h 53 24) ∧ (r = 1 → h 53 24 + 1 ≤ h' 53 24) ∧ (r = 1 → fz_Pa h h')
abbrev qX11_isB_g (f : Nat) (L : Int) (h : fz_H) : fz_H → Option fz_V → Prop := fun h' r0 => fz_Iv h' ∧ fz_fr [(53, 24), (53, 25), (53, 26), (73, 99999)] h h' ∧ ∃ r : Int, r0 = some (fz_i r) ∧ (r = 0 ∨ r = 1) ∧ (h' 53 25 = L) ∧ (h 53 24 ≤ h' 53 24) ∧ (h' 53 24 ≤ h 53 16) ∧ (h 53 26 ≤ h' 53 26) ∧ (h' 53 26 - h 53 26 ≤ h' 53 24 - h 53 24) ∧ (r = 1 → h 53 24 + 1 ≤ h' 53 24) ∧ (r = 1 → fz_Pa h h')
abbrev qX11_isA_g (f : Nat) (L : Int) (h : fz_H) : fz_H → Option fz_V → Prop := fun h' r0 => fz_Iv h' ∧ fz_fr [(53, 24), (53, 25), (53, 26), (73, 99999)] h h' ∧ ∃ r : Int, r0 = some (fz_i r) ∧ (r = 0 ∨ r = 1) ∧ (h' 53 25 = L) ∧ (h 53 24 ≤ h' 53 24) ∧ (h' 53 24 ≤ h 53 16) ∧ (h 53 26 ≤ h' 53 26) ∧ (h' 53 26 - h 53 26 ≤ h' 53 24 - h 53 24) ∧ (r = 1 → h 53 24 + 1 ≤ h' 53 24) ∧ (r = 1 → fz_Pa h h')
abbrev qX11_isE_g (f : Nat) (L : Int) (h : fz_H) : fz_H → Option fz_V → Prop := fun h' r0 => fz_Iv h' ∧ fz_fr [(53, 24), (53, 25), (53, 26), (73, 99999)] h h' ∧ ∃ r : Int, r0 = some (fz_i r) ∧ (r = 0 ∨ r = 1) ∧ (h' 53 25 = L) ∧ (h 53 24 ≤ h' 53 24) ∧ (h' 53 24 ≤ h 53 16) ∧ (h 53 26 ≤ h' 53 26) ∧ (h' 53 26 - h 53 26 ≤ h' 53 24 - h 53 24) ∧ (r = 1 → h 53 24 + 1 ≤ h' 53 24) ∧ (r = 1 → fz_Pa h h')

set_option maxHeartbeats 1000000 in
set_option maxRecDepth 100000 in
theorem sX11_isO_g (k : Nat) (L : Int) (D : Nat) (hL : 0 ≤ L ∧ L ≤ 5) (ihO : ∀ (h : fz_H) (hI : fz_Iv h) (hp0 : h 53 25 = L + 1) (hp1 : h 53 24 ≤ h 53 16) (hp2 : h 53 26 ≤ h 53 24), fz_R (D + 2) mX11_isO 0 [(0, fz_r 53)] [] h (qX11_isO_g k (L + 1) h)) (ihE : ∀ (h : fz_H) (hI : fz_Iv h) (hp0 : h 53 25 = L + 1) (hp1 : h 53 24 ≤ h 53 16) (hp2 : h 53 26 ≤ h 53 24), fz_R (D + 7) mX11_isE 0 [(0, fz_r 53)] [] h (qX11_isE_g k (L + 1) h)) (h : fz_H) (hI : fz_Iv h) (hp0 : h 53 25 = L) (hp1 : h 53 24 ≤ h 53 16) (hp2 : h 53 26 ≤ h 53 24) : fz_R (D + 8) mX11_isO 0 [(0, fz_r 53)] [] h (qX11_isO_g (k + 1) L h) := by
  have hf : fz_fr [(53, 24), (53, 25), (53, 26), (73, 99999)] h h := fz_fr_rf
  have b1 : 0 ≤ h 53 25 ∧ h 53 25 ≤ 6 := hI.1 53 _
  have b2 : 0 ≤ h 53 24 ∧ h 53 24 ≤ 120 := hI.1 53 _
  have b3 : 0 ≤ h 53 16 ∧ h 53 16 ≤ 120 := hI.1 53 _
  have b4 : 0 ≤ h 53 26 ∧ h 53 26 ≤ 200 := hI.1 53 _
  have hCa5 : fz_Ca h h := ⟨rfl, rfl⟩
  refine fz_aload_n kX11_isO rfl rfl ?_
  refine fz_callV (d' := 1) (M' := mX11_isDigit) (As := []) (st := []) kX11_isO rfl rfl vX11_isDigit rfl rfl rfl rfl (Nat.le_of_ble_eq_true rfl) (Nat.le_of_ble_eq_true rfl) (by omega) (sX11_isDigit h hI  (by omega)) (fun H7 r8 q9 o10 => ?_)
  obtain ⟨e11, y12, rfl, p13⟩ := q9
  subst H7
  clear o10
  rcases p13 with ⟨rfl, c14⟩ | ⟨rfl, c14⟩
  · refine fz_if_eq (tgt := 66) kX11_isO rfl (by decide) (fun c15 => ?_) (fun c15 => ?_)
    · exfalso; omega
    · have k16 := c14
      refine fz_iconst ⟨by decide, by decide⟩ kX11_isO rfl ?_
      refine fz_istore_n (ls' := [(1, fz_i 0), (0, fz_r 53)]) kX11_isO rfl (by decide) rfl ?_
      refine fz_iconst ⟨by decide, by decide⟩ kX11_isO rfl ?_
      refine fz_istore_n (ls' := [(2, fz_i 0), (1, fz_i 0), (0, fz_r 53)]) kX11_isO rfl (by decide) rfl ?_
      have lp25 : ∀ (n24 : Nat) (x18 : Int) (x19 : Int) (H21 : fz_H), fz_Iv H21 → fz_fr [(53, 24), (53, 25), (53, 26), (73, 99999)] h H21 → fz_Ca h H21 → (0 ≤ x18 ∧ x18 ≤ 4) → (0 ≤ x19 ∧ x19 ≤ 9999) → ((x18 = 0 ∧ x19 = 0) ∨ (x18 = 1 ∧ x19 ≤ 9) ∨ (x18 = 2 ∧ x19 ≤ 99) ∨ (x18 = 3 ∧ x19 ≤ 999) ∨ x18 = 4) → (H21 53 25 = L) → (H21 53 24 = h 53 24 + x18) → (H21 53 24 ≤ h 53 16) → (H21 53 26 = h 53 26) → (4 - x18).toNat < n24 → fz_R (D + 8) mX11_isO 11 [(2, fz_i x18), (1, fz_i x19), (0, fz_r 53)] [] H21 (qX11_isO_g (k + 1) L h) := by
        intro n24
        induction n24 with
        | zero => intro x18 x19 H21 hI22 hf23 hCa20 hv28 hv29 hv30 hv31 hv32 hv33 hv34 hm27; exact absurd hm27 (by omega)
        | succ n24 ih26 =>
          intro x18 x19 H21 hI22 hf23 hCa20 hv28 hv29 hv30 hv31 hv32 hv33 hv34 hm27
          refine fz_iload_n kX11_isO rfl rfl ?_
          refine fz_iconst ⟨by decide, by decide⟩ kX11_isO rfl ?_
          refine fz_icmp_ge (tgt := 57) kX11_isO rfl (by decide) (fun c35 => ?_) (fun c35 => ?_)
          · have k36 : 1 ≤ x18 := by first | omega | (refine Classical.byContradiction (fun z => ?_); have e : H21 53 24 = h 53 24 := (by omega); have zz := c14; rw [e, hf23 53 16 rfl, hf23 65 _ rfl] at zz; exact zz k16)
            have k38 : 1 ≤ x18 := by omega
            refine fz_aload_n kX11_isO rfl rfl ?_
            refine fz_bipush ⟨by decide, by decide⟩ kX11_isO rfl ?_
            refine fz_iload_n kX11_isO rfl rfl ?_
            refine fz_iaddN kX11_isO rfl (by omega) ?_
            have k39 := hCa20
            have b41 : 0 ≤ H21 53 26 ∧ H21 53 26 ≤ 200 := hI22.1 53 _
            refine fz_callV (d' := 0) (M' := mX11_codes) (As := [fz_i (18 + x19)]) (st := []) kX11_isO rfl rfl vX11_codes rfl rfl rfl rfl (Nat.le_of_ble_eq_true rfl) (Nat.le_of_ble_eq_true rfl) (by omega) (sX11_codes H21 hI22 (18 + x19) (by omega)) (fun H42 r43 q44 o45 => ?_)
            obtain ⟨hI46, hf47, y51, rfl, p52, f48, f49, f50⟩ := q44
            clear o45
            have hf53 := fz_fr_tr hf23 hf47 (show fz_su [(53, 26), (73, 99999)] [(53, 24), (53, 25), (53, 26), (73, 99999)] = true from rfl)
            have k54 : H42 53 25 = L := (hf47 53 25 rfl).trans hv31
            have t55 : H42 53 24 = H21 53 24 := hf47 53 24 rfl
            refine fz_eqi (show y51 = 1 by omega) ?_
            have hPa56 : fz_Pa h H42 := fz_Pa_n k39 f50 (by omega) (by omega)
            exact fz_zret kX11_isO rfl rfl (by omega) ⟨hI46, hf53, _, rfl, (by omega), (by omega), (by omega), (by omega), (by omega), (by omega), (by omega), (by first | (intro z; exfalso; omega) | (intro _; exact hPa56))⟩
          · refine fz_aload_n kX11_isO rfl rfl ?_
            have b59 : 0 ≤ H21 53 24 ∧ H21 53 24 ≤ 120 := hI22.1 53 _
            have b60 : 0 ≤ h 53 16 ∧ h 53 16 ≤ 120 := hI.1 53 _
            have e61 : H21 53 16 = h 53 16 := hf23 53 16 rfl
            refine fz_callV (d' := 1) (M' := mX11_isDigit) (As := []) (st := []) kX11_isO rfl rfl vX11_isDigit rfl rfl rfl rfl (Nat.le_of_ble_eq_true rfl) (Nat.le_of_ble_eq_true rfl) (by omega) (sX11_isDigit H21 hI22  (by omega)) (fun H62 r63 q64 o65 => ?_)
            obtain ⟨e66, y67, rfl, p68⟩ := q64
            subst H62
            clear o65
            rcases p68 with ⟨rfl, c69⟩ | ⟨rfl, c69⟩
            · refine fz_if_eq (tgt := 57) kX11_isO rfl (by decide) (fun c70 => ?_) (fun c70 => ?_)
              · exfalso; omega
              · refine fz_bipush ⟨by decide, by decide⟩ kX11_isO rfl ?_
                refine fz_iload_n kX11_isO rfl rfl ?_
                refine fz_imulN kX11_isO rfl (by omega) ?_
                refine fz_aload_n kX11_isO rfl rfl ?_
                refine fz_getR (t := 65) kX11_isO rfl rfl ?_
                refine fz_aload_n kX11_isO rfl rfl ?_
                obtain ⟨v71, e72⟩ : ∃ z, H21 53 (24) = z := ⟨_, rfl⟩
                refine fz_getV (v := v71) kX11_isO rfl rfl e72 ?_
                have b73 : 0 ≤ v71 ∧ v71 ≤ 120 := by rw [← e72]; exact hI22.1 53 _
                refine fz_ialdV (n := 120) (v := h 65 (v71.toNat)) kX11_isO rfl rfl (by omega) (by omega) (hf23 65 _ rfl) ?_
                have b74 : 0 ≤ h 65 (v71.toNat) ∧ h 65 (v71.toNat) ≤ 255 := hI.1 65 _
                have k75 : 48 ≤ (h 65 (v71.toNat)) ∧ (h 65 (v71.toNat)) ≤ 57 := by have z := c69; rw [e72, hf23 65 _ rfl] at z; exact z.2
                have k78 : 48 ≤ (h 65 (v71.toNat)) ∧ (h 65 (v71.toNat)) ≤ 57 := by omega
                refine fz_iaddN kX11_isO rfl (by omega) ?_
                refine fz_bipush ⟨by decide, by decide⟩ kX11_isO rfl ?_
                refine fz_isubN kX11_isO rfl (by omega) ?_
                refine fz_istore_n (ls' := [(1, fz_i (((10 * x19) + (h 65 (v71.toNat))) - 48)), (2, fz_i x18), (0, fz_r 53)]) kX11_isO rfl (by decide) rfl ?_
                refine fz_aload_n kX11_isO rfl rfl ?_
                refine fz_dup rfl kX11_isO rfl ?_
                refine fz_getV (v := v71) kX11_isO rfl rfl e72 ?_
                refine fz_iconst ⟨by decide, by decide⟩ kX11_isO rfl ?_
                refine fz_iaddN kX11_isO rfl (by omega) ?_
                refine fz_putI kX11_isO rfl rfl rfl ?_
                refine fz_nmu (S := [(53, 24), (53, 25), (53, 26), (73, 99999)]) (h0 := h) (fz_Iv_up hI22 (by decide) (show (0 : Int) ≤ (v71 + 1) by omega) (show ((v71 + 1) : Int) ≤ 120 by omega)) (fz_fr_up hf23 rfl) (fun H79 hI80 hf81 e82 => ?_)
                have k83 : H79 53 25 = L := by rw [e82]; exact (fz_up_s (by decide)).trans hv31
                have k84 : H79 53 24 = (v71 + 1) := by rw [e82]; exact fz_up_e
                have t85 : H79 53 26 = H21 53 26 := by rw [e82]; exact fz_up_s (by decide)
                have hCa86 : fz_Ca h H79 := fz_Ca_eq (by rw [e82]; exact fz_up_ne (by decide)) (by rw [e82]; exact fz_up_s (by decide)) hCa20
                refine fz_iincN (ls' := [(2, fz_i (x18 + 1)), (1, fz_i (((10 * x19) + (h 65 (v71.toNat))) - 48)), (0, fz_r 53)]) kX11_isO rfl (by decide) rfl (by omega) rfl ?_
                refine fz_goto (tgt := 11) kX11_isO rfl (by decide) ?_
                exact ih26 (x18 + 1) (((10 * x19) + (h 65 (v71.toNat))) - 48) H79 hI80 hf81 hCa86 (by omega) (by omega) (by omega) (by omega) (by omega) (by omega) (by omega) (by omega)
            · refine fz_if_eq (tgt := 57) kX11_isO rfl (by decide) (fun c87 => ?_) (fun c87 => ?_)
              · have k88 : 1 ≤ x18 := by first | omega | (refine Classical.byContradiction (fun z => ?_); have e : H21 53 24 = h 53 24 := (by omega); have zz := c69; rw [e, hf23 53 16 rfl, hf23 65 _ rfl] at zz; exact zz k16)
                have k90 : 1 ≤ x18 := by omega
                refine fz_aload_n kX11_isO rfl rfl ?_
                refine fz_bipush ⟨by decide, by decide⟩ kX11_isO rfl ?_
                refine fz_iload_n kX11_isO rfl rfl ?_
                refine fz_iaddN kX11_isO rfl (by omega) ?_
                have k91 := hCa20
                have b93 : 0 ≤ H21 53 26 ∧ H21 53 26 ≤ 200 := hI22.1 53 _
                refine fz_callV (d' := 0) (M' := mX11_codes) (As := [fz_i (18 + x19)]) (st := []) kX11_isO rfl rfl vX11_codes rfl rfl rfl rfl (Nat.le_of_ble_eq_true rfl) (Nat.le_of_ble_eq_true rfl) (by omega) (sX11_codes H21 hI22 (18 + x19) (by omega)) (fun H94 r95 q96 o97 => ?_)
                obtain ⟨hI98, hf99, y103, rfl, p104, f100, f101, f102⟩ := q96
                clear o97
                have hf105 := fz_fr_tr hf23 hf99 (show fz_su [(53, 26), (73, 99999)] [(53, 24), (53, 25), (53, 26), (73, 99999)] = true from rfl)
                have k106 : H94 53 25 = L := (hf99 53 25 rfl).trans hv31
                have t107 : H94 53 24 = H21 53 24 := hf99 53 24 rfl
                refine fz_eqi (show y103 = 1 by omega) ?_
                have hPa108 : fz_Pa h H94 := fz_Pa_n k91 f102 (by omega) (by omega)
                exact fz_zret kX11_isO rfl rfl (by omega) ⟨hI98, hf105, _, rfl, (by omega), (by omega), (by omega), (by omega), (by omega), (by omega), (by omega), (by first | (intro z; exfalso; omega) | (intro _; exact hPa108))⟩
              · exfalso; omega
      exact lp25 _ 0 0 h hI hf hCa5 (by omega) (by omega) (by omega) (by omega) (by omega) (by omega) (by omega) (Nat.lt_succ_self _)
  · refine fz_if_eq (tgt := 66) kX11_isO rfl (by decide) (fun c111 => ?_) (fun c111 => ?_)
    · refine fz_aload_n kX11_isO rfl rfl ?_
      refine fz_callV (d' := 0) (M' := mX11_sign) (As := []) (st := []) kX11_isO rfl rfl vX11_sign rfl rfl rfl rfl (Nat.le_of_ble_eq_true rfl) (Nat.le_of_ble_eq_true rfl) (by omega) (sX11_sign h hI  (by omega)) (fun H112 r113 q114 o115 => ?_)
      obtain ⟨e116, y119, rfl, f117, f118⟩ := q114
      subst H112
      clear o115
      refine fz_callS (d' := 0) (M' := mX11_nameOf) (As := [fz_i y119]) (st := []) kX11_isO rfl rfl vX11_nameOf rfl rfl (Nat.le_of_ble_eq_true rfl) (Nat.le_of_ble_eq_true rfl) (by omega) (sX11_nameOf h hI y119 ) (fun H120 r121 q122 o123 => ?_)
      obtain ⟨e124, y127, rfl, f125, f126⟩ := q122
      subst H120
      clear o123
      refine fz_istore_n (ls' := [(1, fz_i y127), (0, fz_r 53)]) kX11_isO rfl (by decide) rfl ?_
      refine fz_iload_n kX11_isO rfl rfl ?_
      refine fz_if_lt (tgt := 94) kX11_isO rfl (by decide) (fun c128 => ?_) (fun c128 => ?_)
      · refine fz_aload_n kX11_isO rfl rfl ?_
        refine fz_getV (v := h 53 25) kX11_isO rfl rfl rfl ?_
        have b129 : 0 ≤ h 53 25 ∧ h 53 25 ≤ 6 := hI.1 53 _
        refine fz_eqi (show (h 53 25) = L by omega) ?_
        refine fz_bipush ⟨by decide, by decide⟩ kX11_isO rfl ?_
        refine fz_icmp_ne (tgt := 105) kX11_isO rfl (by decide) (fun c130 => ?_) (fun c130 => ?_)
        · refine fz_aload_n kX11_isO rfl rfl ?_
          refine fz_dup rfl kX11_isO rfl ?_
          refine fz_getV (v := h 53 25) kX11_isO rfl rfl rfl ?_
          refine fz_eqi (show (h 53 25) = L by omega) ?_
          refine fz_iconst ⟨by decide, by decide⟩ kX11_isO rfl ?_
          refine fz_iaddN kX11_isO rfl (by omega) ?_
          refine fz_eqi (y := (L + 1)) (by omega) ?_
          refine fz_putI kX11_isO rfl rfl rfl ?_
          refine fz_nmu (S := [(53, 24), (53, 25), (53, 26), (73, 99999)]) (h0 := h) (fz_Iv_up hI (by decide) (show (0 : Int) ≤ (L + 1) by omega) (show ((L + 1) : Int) ≤ 6 by omega)) (fz_fr_up hf rfl) (fun H131 hI132 hf133 e134 => ?_)
          have k135 : H131 53 24 = (h 53 24) := by rw [e134]; exact (fz_up_s (by decide)).trans rfl
          have k136 : H131 53 26 = (h 53 26) := by rw [e134]; exact (fz_up_s (by decide)).trans rfl
          have k137 : H131 53 25 = (L + 1) := by rw [e134]; exact fz_up_e
          have t138 : H131 53 24 = h 53 24 := by rw [e134]; exact fz_up_s (by decide)
          have t139 : H131 53 26 = h 53 26 := by rw [e134]; exact fz_up_s (by decide)
          have hCa140 : fz_Ca h H131 := fz_Ca_eq (by rw [e134]; exact fz_up_ne (by decide)) (by rw [e134]; exact fz_up_s (by decide)) hCa5
          refine fz_aload_n kX11_isO rfl rfl ?_
          refine fz_bipush ⟨by decide, by decide⟩ kX11_isO rfl ?_
          have b141 : 0 ≤ H131 53 24 ∧ H131 53 24 ≤ 120 := hI132.1 53 _
          have e142 : H131 53 16 = h 53 16 := hf133 53 16 rfl
          refine fz_callV (d' := 1) (M' := mX11_is) (As := [fz_i 33]) (st := []) kX11_isO rfl rfl vX11_is rfl rfl rfl rfl (Nat.le_of_ble_eq_true rfl) (Nat.le_of_ble_eq_true rfl) (by omega) (sX11_is H131 hI132 33 (by omega) (by omega)) (fun H143 r144 q145 o146 => ?_)
          obtain ⟨hI147, hf148, y150, rfl, p151, f149⟩ := q145
          clear o146
          have hf152 := fz_fr_tr hf133 hf148 (show fz_su [(53, 24)] [(53, 24), (53, 25), (53, 26), (73, 99999)] = true from rfl)
          have k153 : H143 53 26 = (h 53 26) := (hf148 53 26 rfl).trans k136
          have k154 : H143 53 25 = (L + 1) := (hf148 53 25 rfl).trans k137
          have hCa155 : fz_Ca h H143 := fz_Ca_eq (funext fun s => hf148 73 s rfl) (hf148 53 26 rfl) hCa140
          have t156 : H143 53 26 = H131 53 26 := hf148 53 26 rfl
          refine fz_if_eq (tgt := 149) kX11_isO rfl (by decide) (fun c157 => ?_) (fun c157 => ?_)
          · refine fz_aload_n kX11_isO rfl rfl ?_
            refine fz_bipush ⟨by decide, by decide⟩ kX11_isO rfl ?_
            have b158 : 0 ≤ H143 53 24 ∧ H143 53 24 ≤ 120 := hI147.1 53 _
            have e159 : H143 53 16 = h 53 16 := hf152 53 16 rfl
            refine fz_callV (d' := 1) (M' := mX11_is) (As := [fz_i 45]) (st := []) kX11_isO rfl rfl vX11_is rfl rfl rfl rfl (Nat.le_of_ble_eq_true rfl) (Nat.le_of_ble_eq_true rfl) (by omega) (sX11_is H143 hI147 45 (by omega) (by omega)) (fun H160 r161 q162 o163 => ?_)
            obtain ⟨hI164, hf165, y167, rfl, p168, f166⟩ := q162
            clear o163
            have hf169 := fz_fr_tr hf152 hf165 (show fz_su [(53, 24)] [(53, 24), (53, 25), (53, 26), (73, 99999)] = true from rfl)
            have k170 : H160 53 26 = (h 53 26) := (hf165 53 26 rfl).trans k153
            have k171 : H160 53 25 = (L + 1) := (hf165 53 25 rfl).trans k154
            have hCa172 : fz_Ca h H160 := fz_Ca_eq (funext fun s => hf165 73 s rfl) (hf165 53 26 rfl) hCa155
            have t173 : H160 53 26 = H143 53 26 := hf165 53 26 rfl
            refine fz_if_eq (tgt := 183) kX11_isO rfl (by decide) (fun c174 => ?_) (fun c174 => ?_)
            · refine fz_aload_n kX11_isO rfl rfl ?_
              refine fz_bipush ⟨by decide, by decide⟩ kX11_isO rfl ?_
              have b175 : 0 ≤ H160 53 24 ∧ H160 53 24 ≤ 120 := hI164.1 53 _
              have e176 : H160 53 16 = h 53 16 := hf169 53 16 rfl
              refine fz_callV (d' := 1) (M' := mX11_is) (As := [fz_i 40]) (st := []) kX11_isO rfl rfl vX11_is rfl rfl rfl rfl (Nat.le_of_ble_eq_true rfl) (Nat.le_of_ble_eq_true rfl) (by omega) (sX11_is H160 hI164 40 (by omega) (by omega)) (fun H177 r178 q179 o180 => ?_)
              obtain ⟨hI181, hf182, y184, rfl, p185, f183⟩ := q179
              clear o180
              have hf186 := fz_fr_tr hf169 hf182 (show fz_su [(53, 24)] [(53, 24), (53, 25), (53, 26), (73, 99999)] = true from rfl)
              have k187 : H177 53 26 = (h 53 26) := (hf182 53 26 rfl).trans k170
              have k188 : H177 53 25 = (L + 1) := (hf182 53 25 rfl).trans k171
              have hCa189 : fz_Ca h H177 := fz_Ca_eq (funext fun s => hf182 73 s rfl) (hf182 53 26 rfl) hCa172
              have t190 : H177 53 26 = H160 53 26 := hf182 53 26 rfl
              refine fz_if_eq (tgt := 212) kX11_isO rfl (by decide) (fun c191 => ?_) (fun c191 => ?_)
              · refine fz_iconst ⟨by decide, by decide⟩ kX11_isO rfl ?_
                refine fz_istore_n (ls' := [(2, fz_i 0), (1, fz_i y127), (0, fz_r 53)]) kX11_isO rfl (by decide) rfl ?_
                refine fz_aload_n kX11_isO rfl rfl ?_
                refine fz_dup rfl kX11_isO rfl ?_
                refine fz_getV (v := (L + 1)) kX11_isO rfl rfl k188 ?_
                refine fz_iconst ⟨by decide, by decide⟩ kX11_isO rfl ?_
                refine fz_isubN kX11_isO rfl (by omega) ?_
                refine fz_eqi (y := L) (by omega) ?_
                refine fz_putI kX11_isO rfl rfl rfl ?_
                refine fz_nmu (S := [(53, 24), (53, 25), (53, 26), (73, 99999)]) (h0 := h) (fz_Iv_up hI181 (by decide) (show (0 : Int) ≤ L by omega) (show (L : Int) ≤ 6 by omega)) (fz_fr_up hf186 rfl) (fun H192 hI193 hf194 e195 => ?_)
                have k196 : H192 53 26 = (h 53 26) := by rw [e195]; exact (fz_up_s (by decide)).trans k187
                have k197 : H192 53 25 = L := by rw [e195]; exact fz_up_e
                have t198 : H192 53 24 = H177 53 24 := by rw [e195]; exact fz_up_s (by decide)
                have t199 : H192 53 26 = H177 53 26 := by rw [e195]; exact fz_up_s (by decide)
                have hCa200 : fz_Ca h H192 := fz_Ca_eq (by rw [e195]; exact fz_up_ne (by decide)) (by rw [e195]; exact fz_up_s (by decide)) hCa189
                refine fz_iload_n kX11_isO rfl rfl ?_
                exact fz_zret kX11_isO rfl rfl (by omega) ⟨hI193, hf194, _, rfl, (by omega), (by omega), (by omega), (by omega), (by omega), (by omega), (by omega), (by first | (intro z; exfalso; omega) | (intro _; exact lost))⟩
              · refine fz_aload_n kX11_isO rfl rfl ?_
                have k202 := hCa189
                have b204 : 0 ≤ H177 53 25 ∧ H177 53 25 ≤ 6 := hI181.1 53 _
                have b205 : 0 ≤ H177 53 24 ∧ H177 53 24 ≤ 120 := hI181.1 53 _
                have b206 : 0 ≤ H177 53 26 ∧ H177 53 26 ≤ 200 := hI181.1 53 _
                have e207 : H177 53 16 = h 53 16 := hf186 53 16 rfl
                refine fz_callV (d' := (D + 7)) (M' := mX11_isE) (As := []) (st := []) kX11_isO rfl rfl vX11_isE rfl rfl rfl rfl (Nat.le_of_ble_eq_true rfl) (Nat.le_of_ble_eq_true rfl) (by omega) (ihE H177 hI181  (by omega) (by omega) (by omega)) (fun H208 r209 q210 o211 => ?_)
                obtain ⟨hI212, hf213, y221, rfl, p222, f214, f215, f216, f217, f218, f219, f220⟩ := q210
                clear o211
                have hf223 := fz_fr_tr hf186 hf213 (show fz_su [(53, 24), (53, 25), (53, 26), (73, 99999)] [(53, 24), (53, 25), (53, 26), (73, 99999)] = true from rfl)
                refine fz_if_eq (tgt := 212) kX11_isO rfl (by decide) (fun c224 => ?_) (fun c224 => ?_)
                · refine fz_iconst ⟨by decide, by decide⟩ kX11_isO rfl ?_
                  refine fz_istore_n (ls' := [(2, fz_i 0), (1, fz_i y127), (0, fz_r 53)]) kX11_isO rfl (by decide) rfl ?_
                  refine fz_aload_n kX11_isO rfl rfl ?_
                  refine fz_dup rfl kX11_isO rfl ?_
                  refine fz_getV (v := (L + 1)) kX11_isO rfl rfl f214 ?_
                  refine fz_iconst ⟨by decide, by decide⟩ kX11_isO rfl ?_
                  refine fz_isubN kX11_isO rfl (by omega) ?_
                  refine fz_eqi (y := L) (by omega) ?_
                  refine fz_putI kX11_isO rfl rfl rfl ?_
                  refine fz_nmu (S := [(53, 24), (53, 25), (53, 26), (73, 99999)]) (h0 := h) (fz_Iv_up hI212 (by decide) (show (0 : Int) ≤ L by omega) (show (L : Int) ≤ 6 by omega)) (fz_fr_up hf223 rfl) (fun H225 hI226 hf227 e228 => ?_)
                  have k229 : H225 53 25 = L := by rw [e228]; exact fz_up_e
                  have t230 : H225 53 24 = H208 53 24 := by rw [e228]; exact fz_up_s (by decide)
                  have t231 : H225 53 26 = H208 53 26 := by rw [e228]; exact fz_up_s (by decide)
                  refine fz_iload_n kX11_isO rfl rfl ?_
                  exact fz_zret kX11_isO rfl rfl (by omega) ⟨hI226, hf227, _, rfl, (by omega), (by omega), (by omega), (by omega), (by omega), (by omega), (by omega), (by first | (intro z; exfalso; omega) | (intro _; exact lost))⟩
                · have hPa233 : fz_Pa h H208 := fz_Pa_of k202 (f220 (by omega))
                  refine fz_aload_n kX11_isO rfl rfl ?_
                  refine fz_bipush ⟨by decide, by decide⟩ kX11_isO rfl ?_
                  have b235 : 0 ≤ H208 53 24 ∧ H208 53 24 ≤ 120 := hI212.1 53 _
                  have e236 : H208 53 16 = h 53 16 := hf223 53 16 rfl
                  refine fz_callV (d' := 1) (M' := mX11_is) (As := [fz_i 41]) (st := []) kX11_isO rfl rfl vX11_is rfl rfl rfl rfl (Nat.le_of_ble_eq_true rfl) (Nat.le_of_ble_eq_true rfl) (by omega) (sX11_is H208 hI212 41 (by omega) (by omega)) (fun H237 r238 q239 o240 => ?_)
                  obtain ⟨hI241, hf242, y244, rfl, p245, f243⟩ := q239
                  clear o240
                  have hf246 := fz_fr_tr hf223 hf242 (show fz_su [(53, 24)] [(53, 24), (53, 25), (53, 26), (73, 99999)] = true from rfl)
                  have k247 : H237 53 25 = (L + 1) := (hf242 53 25 rfl).trans f214
                  have hPa248 : fz_Pa h H237 := fz_Pa_eq (funext fun s => hf242 73 s rfl) (hf242 53 26 rfl) hPa233
                  have t249 : H237 53 26 = H208 53 26 := hf242 53 26 rfl
                  refine fz_if_eq (tgt := 212) kX11_isO rfl (by decide) (fun c250 => ?_) (fun c250 => ?_)
                  · refine fz_iconst ⟨by decide, by decide⟩ kX11_isO rfl ?_
                    refine fz_istore_n (ls' := [(2, fz_i 0), (1, fz_i y127), (0, fz_r 53)]) kX11_isO rfl (by decide) rfl ?_
                    refine fz_aload_n kX11_isO rfl rfl ?_
                    refine fz_dup rfl kX11_isO rfl ?_
                    refine fz_getV (v := (L + 1)) kX11_isO rfl rfl k247 ?_
                    refine fz_iconst ⟨by decide, by decide⟩ kX11_isO rfl ?_
                    refine fz_isubN kX11_isO rfl (by omega) ?_
                    refine fz_eqi (y := L) (by omega) ?_
                    refine fz_putI kX11_isO rfl rfl rfl ?_
                    refine fz_nmu (S := [(53, 24), (53, 25), (53, 26), (73, 99999)]) (h0 := h) (fz_Iv_up hI241 (by decide) (show (0 : Int) ≤ L by omega) (show (L : Int) ≤ 6 by omega)) (fz_fr_up hf246 rfl) (fun H251 hI252 hf253 e254 => ?_)
                    have k255 : H251 53 25 = L := by rw [e254]; exact fz_up_e
                    have t256 : H251 53 24 = H237 53 24 := by rw [e254]; exact fz_up_s (by decide)
                    have t257 : H251 53 26 = H237 53 26 := by rw [e254]; exact fz_up_s (by decide)
                    have hPa258 : fz_Pa h H251 := fz_Pa_eq (by rw [e254]; exact fz_up_ne (by decide)) (by rw [e254]; exact fz_up_s (by decide)) hPa248
                    refine fz_iload_n kX11_isO rfl rfl ?_
                    exact fz_zret kX11_isO rfl rfl (by omega) ⟨hI252, hf253, _, rfl, (by omega), (by omega), (by omega), (by omega), (by omega), (by omega), (by omega), (by first | (intro z; exfalso; omega) | (intro _; exact hPa258))⟩
                  · refine fz_iconst ⟨by decide, by decide⟩ kX11_isO rfl ?_
                    refine fz_goto (tgt := 213) kX11_isO rfl (by decide) ?_
                    refine fz_istore_n (ls' := [(2, fz_i 1), (1, fz_i y127), (0, fz_r 53)]) kX11_isO rfl (by decide) rfl ?_
                    refine fz_aload_n kX11_isO rfl rfl ?_
                    refine fz_dup rfl kX11_isO rfl ?_
                    refine fz_getV (v := (L + 1)) kX11_isO rfl rfl k247 ?_
                    refine fz_iconst ⟨by decide, by decide⟩ kX11_isO rfl ?_
                    refine fz_isubN kX11_isO rfl (by omega) ?_
                    refine fz_eqi (y := L) (by omega) ?_
                    refine fz_putI kX11_isO rfl rfl rfl ?_
                    refine fz_nmu (S := [(53, 24), (53, 25), (53, 26), (73, 99999)]) (h0 := h) (fz_Iv_up hI241 (by decide) (show (0 : Int) ≤ L by omega) (show (L : Int) ≤ 6 by omega)) (fz_fr_up hf246 rfl) (fun H260 hI261 hf262 e263 => ?_)
                    have k264 : H260 53 25 = L := by rw [e263]; exact fz_up_e
                    have t265 : H260 53 24 = H237 53 24 := by rw [e263]; exact fz_up_s (by decide)
                    have t266 : H260 53 26 = H237 53 26 := by rw [e263]; exact fz_up_s (by decide)
                    have hPa267 : fz_Pa h H260 := fz_Pa_eq (by rw [e263]; exact fz_up_ne (by decide)) (by rw [e263]; exact fz_up_s (by decide)) hPa248
                    refine fz_iload_n kX11_isO rfl rfl ?_
                    exact fz_zret kX11_isO rfl rfl (by omega) ⟨hI261, hf262, _, rfl, (by omega), (by omega), (by omega), (by omega), (by omega), (by omega), (by omega), (by first | (intro z; exfalso; omega) | (intro _; exact hPa267))⟩
            · refine fz_aload_n kX11_isO rfl rfl ?_
              have k269 := hCa172
              have b271 : 0 ≤ H160 53 25 ∧ H160 53 25 ≤ 6 := hI164.1 53 _
              have b272 : 0 ≤ H160 53 24 ∧ H160 53 24 ≤ 120 := hI164.1 53 _
              have b273 : 0 ≤ H160 53 26 ∧ H160 53 26 ≤ 200 := hI164.1 53 _
              have e274 : H160 53 16 = h 53 16 := hf169 53 16 rfl
              refine fz_callV (d' := (D + 2)) (M' := mX11_isO) (As := []) (st := []) kX11_isO rfl rfl vX11_isO rfl rfl rfl rfl (Nat.le_of_ble_eq_true rfl) (Nat.le_of_ble_eq_true rfl) (by omega) (ihO H160 hI164  (by omega) (by omega) (by omega)) (fun H275 r276 q277 o278 => ?_)
              obtain ⟨hI279, hf280, y288, rfl, p289, f281, f282, f283, f284, f285, f286, f287⟩ := q277
              clear o278
              have hf290 := fz_fr_tr hf169 hf280 (show fz_su [(53, 24), (53, 25), (53, 26), (73, 99999)] [(53, 24), (53, 25), (53, 26), (73, 99999)] = true from rfl)
              refine fz_if_eq (tgt := 178) kX11_isO rfl (by decide) (fun c291 => ?_) (fun c291 => ?_)
              · refine fz_iconst ⟨by decide, by decide⟩ kX11_isO rfl ?_
                refine fz_istore_n (ls' := [(2, fz_i 0), (1, fz_i y127), (0, fz_r 53)]) kX11_isO rfl (by decide) rfl ?_
                refine fz_goto (tgt := 214) kX11_isO rfl (by decide) ?_
                refine fz_aload_n kX11_isO rfl rfl ?_
                refine fz_dup rfl kX11_isO rfl ?_
                refine fz_getV (v := (L + 1)) kX11_isO rfl rfl f281 ?_
                refine fz_iconst ⟨by decide, by decide⟩ kX11_isO rfl ?_
                refine fz_isubN kX11_isO rfl (by omega) ?_
                refine fz_eqi (y := L) (by omega) ?_
                refine fz_putI kX11_isO rfl rfl rfl ?_
                refine fz_nmu (S := [(53, 24), (53, 25), (53, 26), (73, 99999)]) (h0 := h) (fz_Iv_up hI279 (by decide) (show (0 : Int) ≤ L by omega) (show (L : Int) ≤ 6 by omega)) (fz_fr_up hf290 rfl) (fun H292 hI293 hf294 e295 => ?_)
                have k296 : H292 53 25 = L := by rw [e295]; exact fz_up_e
                have t297 : H292 53 24 = H275 53 24 := by rw [e295]; exact fz_up_s (by decide)
                have t298 : H292 53 26 = H275 53 26 := by rw [e295]; exact fz_up_s (by decide)
                refine fz_iload_n kX11_isO rfl rfl ?_
                exact fz_zret kX11_isO rfl rfl (by omega) ⟨hI293, hf294, _, rfl, (by omega), (by omega), (by omega), (by omega), (by omega), (by omega), (by omega), (by first | (intro z; exfalso; omega) | (intro _; exact lost))⟩
              · have hPa300 : fz_Pa h H275 := fz_Pa_of k269 (f287 (by omega))
                have k302 := hPa300
                refine fz_aload_n kX11_isO rfl rfl ?_
                refine fz_bipush ⟨by decide, by decide⟩ kX11_isO rfl ?_
                have b304 : 0 ≤ H275 53 26 ∧ H275 53 26 ≤ 200 := hI279.1 53 _
                refine fz_callV (d' := 0) (M' := mX11_codes) (As := [fz_i 17]) (st := []) kX11_isO rfl rfl vX11_codes rfl rfl rfl rfl (Nat.le_of_ble_eq_true rfl) (Nat.le_of_ble_eq_true rfl) (by omega) (sX11_codes H275 hI279 17 (by omega)) (fun H305 r306 q307 o308 => ?_)
                obtain ⟨hI309, hf310, y314, rfl, p315, f311, f312, f313⟩ := q307
                clear o308
                have hf316 := fz_fr_tr hf290 hf310 (show fz_su [(53, 26), (73, 99999)] [(53, 24), (53, 25), (53, 26), (73, 99999)] = true from rfl)
                have k317 : H305 53 25 = (L + 1) := (hf310 53 25 rfl).trans f281
                have t318 : H305 53 24 = H275 53 24 := hf310 53 24 rfl
                refine fz_eqi (show y314 = 1 by omega) ?_
                have hPa319 : fz_Pa h H305 := fz_Pa_u k302 f313 (by omega)
                refine fz_if_eq (tgt := 178) kX11_isO rfl (by decide) (fun c321 => ?_) (fun c321 => ?_)
                · exfalso; omega
                · refine fz_iconst ⟨by decide, by decide⟩ kX11_isO rfl ?_
                  refine fz_goto (tgt := 179) kX11_isO rfl (by decide) ?_
                  refine fz_istore_n (ls' := [(2, fz_i 1), (1, fz_i y127), (0, fz_r 53)]) kX11_isO rfl (by decide) rfl ?_
                  refine fz_goto (tgt := 214) kX11_isO rfl (by decide) ?_
                  refine fz_aload_n kX11_isO rfl rfl ?_
                  refine fz_dup rfl kX11_isO rfl ?_
                  refine fz_getV (v := (L + 1)) kX11_isO rfl rfl k317 ?_
                  refine fz_iconst ⟨by decide, by decide⟩ kX11_isO rfl ?_
                  refine fz_isubN kX11_isO rfl (by omega) ?_
                  refine fz_eqi (y := L) (by omega) ?_
                  refine fz_putI kX11_isO rfl rfl rfl ?_
                  refine fz_nmu (S := [(53, 24), (53, 25), (53, 26), (73, 99999)]) (h0 := h) (fz_Iv_up hI309 (by decide) (show (0 : Int) ≤ L by omega) (show (L : Int) ≤ 6 by omega)) (fz_fr_up hf316 rfl) (fun H322 hI323 hf324 e325 => ?_)
                  have k326 : H322 53 25 = L := by rw [e325]; exact fz_up_e
                  have t327 : H322 53 24 = H305 53 24 := by rw [e325]; exact fz_up_s (by decide)
                  have t328 : H322 53 26 = H305 53 26 := by rw [e325]; exact fz_up_s (by decide)
                  have hPa329 : fz_Pa h H322 := fz_Pa_eq (by rw [e325]; exact fz_up_ne (by decide)) (by rw [e325]; exact fz_up_s (by decide)) hPa319
                  refine fz_iload_n kX11_isO rfl rfl ?_
                  exact fz_zret kX11_isO rfl rfl (by omega) ⟨hI323, hf324, _, rfl, (by omega), (by omega), (by omega), (by omega), (by omega), (by omega), (by omega), (by first | (intro z; exfalso; omega) | (intro _; exact hPa329))⟩
          · refine fz_aload_n kX11_isO rfl rfl ?_
            have k331 := hCa155
            have b333 : 0 ≤ H143 53 25 ∧ H143 53 25 ≤ 6 := hI147.1 53 _
            have b334 : 0 ≤ H143 53 24 ∧ H143 53 24 ≤ 120 := hI147.1 53 _
            have b335 : 0 ≤ H143 53 26 ∧ H143 53 26 ≤ 200 := hI147.1 53 _
            have e336 : H143 53 16 = h 53 16 := hf152 53 16 rfl
            refine fz_callV (d' := (D + 2)) (M' := mX11_isO) (As := []) (st := []) kX11_isO rfl rfl vX11_isO rfl rfl rfl rfl (Nat.le_of_ble_eq_true rfl) (Nat.le_of_ble_eq_true rfl) (by omega) (ihO H143 hI147  (by omega) (by omega) (by omega)) (fun H337 r338 q339 o340 => ?_)
            obtain ⟨hI341, hf342, y350, rfl, p351, f343, f344, f345, f346, f347, f348, f349⟩ := q339
            clear o340
            have hf352 := fz_fr_tr hf152 hf342 (show fz_su [(53, 24), (53, 25), (53, 26), (73, 99999)] [(53, 24), (53, 25), (53, 26), (73, 99999)] = true from rfl)
            refine fz_if_eq (tgt := 144) kX11_isO rfl (by decide) (fun c353 => ?_) (fun c353 => ?_)
            · refine fz_iconst ⟨by decide, by decide⟩ kX11_isO rfl ?_
              refine fz_istore_n (ls' := [(2, fz_i 0), (1, fz_i y127), (0, fz_r 53)]) kX11_isO rfl (by decide) rfl ?_
              refine fz_goto (tgt := 214) kX11_isO rfl (by decide) ?_
              refine fz_aload_n kX11_isO rfl rfl ?_
              refine fz_dup rfl kX11_isO rfl ?_
              refine fz_getV (v := (L + 1)) kX11_isO rfl rfl f343 ?_
              refine fz_iconst ⟨by decide, by decide⟩ kX11_isO rfl ?_
              refine fz_isubN kX11_isO rfl (by omega) ?_
              refine fz_eqi (y := L) (by omega) ?_
              refine fz_putI kX11_isO rfl rfl rfl ?_
              refine fz_nmu (S := [(53, 24), (53, 25), (53, 26), (73, 99999)]) (h0 := h) (fz_Iv_up hI341 (by decide) (show (0 : Int) ≤ L by omega) (show (L : Int) ≤ 6 by omega)) (fz_fr_up hf352 rfl) (fun H354 hI355 hf356 e357 => ?_)
              have k358 : H354 53 25 = L := by rw [e357]; exact fz_up_e
              have t359 : H354 53 24 = H337 53 24 := by rw [e357]; exact fz_up_s (by decide)
              have t360 : H354 53 26 = H337 53 26 := by rw [e357]; exact fz_up_s (by decide)
              refine fz_iload_n kX11_isO rfl rfl ?_
              exact fz_zret kX11_isO rfl rfl (by omega) ⟨hI355, hf356, _, rfl, (by omega), (by omega), (by omega), (by omega), (by omega), (by omega), (by omega), (by first | (intro z; exfalso; omega) | (intro _; exact lost))⟩
            · have hPa362 : fz_Pa h H337 := fz_Pa_of k331 (f349 (by omega))
              have k364 := hPa362
              refine fz_aload_n kX11_isO rfl rfl ?_
              refine fz_bipush ⟨by decide, by decide⟩ kX11_isO rfl ?_
              have b366 : 0 ≤ H337 53 26 ∧ H337 53 26 ≤ 200 := hI341.1 53 _
              refine fz_callV (d' := 0) (M' := mX11_codes) (As := [fz_i 16]) (st := []) kX11_isO rfl rfl vX11_codes rfl rfl rfl rfl (Nat.le_of_ble_eq_true rfl) (Nat.le_of_ble_eq_true rfl) (by omega) (sX11_codes H337 hI341 16 (by omega)) (fun H367 r368 q369 o370 => ?_)
              obtain ⟨hI371, hf372, y376, rfl, p377, f373, f374, f375⟩ := q369
              clear o370
              have hf378 := fz_fr_tr hf352 hf372 (show fz_su [(53, 26), (73, 99999)] [(53, 24), (53, 25), (53, 26), (73, 99999)] = true from rfl)
              have k379 : H367 53 25 = (L + 1) := (hf372 53 25 rfl).trans f343
              have t380 : H367 53 24 = H337 53 24 := hf372 53 24 rfl
              refine fz_eqi (show y376 = 1 by omega) ?_
              have hPa381 : fz_Pa h H367 := fz_Pa_u k364 f375 (by omega)
              refine fz_if_eq (tgt := 144) kX11_isO rfl (by decide) (fun c383 => ?_) (fun c383 => ?_)
              · exfalso; omega
              · refine fz_iconst ⟨by decide, by decide⟩ kX11_isO rfl ?_
                refine fz_goto (tgt := 145) kX11_isO rfl (by decide) ?_
                refine fz_istore_n (ls' := [(2, fz_i 1), (1, fz_i y127), (0, fz_r 53)]) kX11_isO rfl (by decide) rfl ?_
                refine fz_goto (tgt := 214) kX11_isO rfl (by decide) ?_
                refine fz_aload_n kX11_isO rfl rfl ?_
                refine fz_dup rfl kX11_isO rfl ?_
                refine fz_getV (v := (L + 1)) kX11_isO rfl rfl k379 ?_
                refine fz_iconst ⟨by decide, by decide⟩ kX11_isO rfl ?_
                refine fz_isubN kX11_isO rfl (by omega) ?_
                refine fz_eqi (y := L) (by omega) ?_
                refine fz_putI kX11_isO rfl rfl rfl ?_
                refine fz_nmu (S := [(53, 24), (53, 25), (53, 26), (73, 99999)]) (h0 := h) (fz_Iv_up hI371 (by decide) (show (0 : Int) ≤ L by omega) (show (L : Int) ≤ 6 by omega)) (fz_fr_up hf378 rfl) (fun H384 hI385 hf386 e387 => ?_)
                have k388 : H384 53 25 = L := by rw [e387]; exact fz_up_e
                have t389 : H384 53 24 = H367 53 24 := by rw [e387]; exact fz_up_s (by decide)
                have t390 : H384 53 26 = H367 53 26 := by rw [e387]; exact fz_up_s (by decide)
                have hPa391 : fz_Pa h H384 := fz_Pa_eq (by rw [e387]; exact fz_up_ne (by decide)) (by rw [e387]; exact fz_up_s (by decide)) hPa381
                refine fz_iload_n kX11_isO rfl rfl ?_
                exact fz_zret kX11_isO rfl rfl (by omega) ⟨hI385, hf386, _, rfl, (by omega), (by omega), (by omega), (by omega), (by omega), (by omega), (by omega), (by first | (intro z; exfalso; omega) | (intro _; exact hPa391))⟩
        · exfalso; omega
      · refine fz_aload_n kX11_isO rfl rfl ?_
        refine fz_dup rfl kX11_isO rfl ?_
        refine fz_getV (v := h 53 24) kX11_isO rfl rfl rfl ?_
        have b393 : 0 ≤ h 53 24 ∧ h 53 24 ≤ 120 := hI.1 53 _
        refine fz_iconst ⟨by decide, by decide⟩ kX11_isO rfl ?_
        refine fz_iaddN kX11_isO rfl (by omega) ?_
        refine fz_putI kX11_isO rfl rfl rfl ?_
        refine fz_nmu (S := [(53, 24), (53, 25), (53, 26), (73, 99999)]) (h0 := h) (fz_Iv_up hI (by decide) (show (0 : Int) ≤ ((h 53 24) + 1) by omega) (show (((h 53 24) + 1) : Int) ≤ 120 by omega)) (fz_fr_up hf rfl) (fun H394 hI395 hf396 e397 => ?_)
        have k398 : H394 53 25 = (h 53 25) := by rw [e397]; exact (fz_up_s (by decide)).trans rfl
        have k399 : H394 53 26 = (h 53 26) := by rw [e397]; exact (fz_up_s (by decide)).trans rfl
        have k400 : H394 53 24 = ((h 53 24) + 1) := by rw [e397]; exact fz_up_e
        have t401 : H394 53 26 = h 53 26 := by rw [e397]; exact fz_up_s (by decide)
        have hCa402 : fz_Ca h H394 := fz_Ca_eq (by rw [e397]; exact fz_up_ne (by decide)) (by rw [e397]; exact fz_up_s (by decide)) hCa5
        refine fz_aload_n kX11_isO rfl rfl ?_
        refine fz_iload_n kX11_isO rfl rfl ?_
        have k403 := hCa402
        have b405 : 0 ≤ H394 53 26 ∧ H394 53 26 ≤ 200 := hI395.1 53 _
        refine fz_callV (d' := 0) (M' := mX11_codes) (As := [fz_i y127]) (st := []) kX11_isO rfl rfl vX11_codes rfl rfl rfl rfl (Nat.le_of_ble_eq_true rfl) (Nat.le_of_ble_eq_true rfl) (by omega) (sX11_codes H394 hI395 y127 (by omega)) (fun H406 r407 q408 o409 => ?_)
        obtain ⟨hI410, hf411, y415, rfl, p416, f412, f413, f414⟩ := q408
        clear o409
        have hf417 := fz_fr_tr hf396 hf411 (show fz_su [(53, 26), (73, 99999)] [(53, 24), (53, 25), (53, 26), (73, 99999)] = true from rfl)
        have k418 : H406 53 25 = (h 53 25) := (hf411 53 25 rfl).trans k398
        have k419 : H406 53 24 = ((h 53 24) + 1) := (hf411 53 24 rfl).trans k400
        have t420 : H406 53 24 = H394 53 24 := hf411 53 24 rfl
        refine fz_eqi (show y415 = 1 by omega) ?_
        have hPa421 : fz_Pa h H406 := fz_Pa_n k403 f414 (by omega) (by omega)
        exact fz_zret kX11_isO rfl rfl (by omega) ⟨hI410, hf417, _, rfl, (by omega), (by omega), (by omega), (by omega), (by omega), (by omega), (by omega), (by first | (intro z; exfalso; omega) | (intro _; exact hPa421))⟩
    · exfalso; omega

set_option maxHeartbeats 1000000 in
set_option maxRecDepth 100000 in
theorem sX11_isP_g (k : Nat) (L : Int) (D : Nat) (hL : 0 ≤ L ∧ L ≤ 5) (ihO : ∀ (h : fz_H) (hI : fz_Iv h) (hp0 : h 53 25 = L + 1) (hp1 : h 53 24 ≤ h 53 16) (hp2 : h 53 26 ≤ h 53 24), fz_R (D + 2) mX11_isO 0 [(0, fz_r 53)] [] h (qX11_isO_g k (L + 1) h)) (ihE : ∀ (h : fz_H) (hI : fz_Iv h) (hp0 : h 53 25 = L + 1) (hp1 : h 53 24 ≤ h 53 16) (hp2 : h 53 26 ≤ h 53 24), fz_R (D + 7) mX11_isE 0 [(0, fz_r 53)] [] h (qX11_isE_g k (L + 1) h)) (h : fz_H) (hI : fz_Iv h) (hp0 : h 53 25 = L) (hp1 : h 53 24 ≤ h 53 16) (hp2 : h 53 26 ≤ h 53 24) : fz_R (D + 9) mX11_isP 0 [(0, fz_r 53)] [] h (qX11_isP_g (k + 1) L h) := by
  have hf : fz_fr [(53, 24), (53, 25), (53, 26), (73, 99999)] h h := fz_fr_rf
  have b1 : 0 ≤ h 53 25 ∧ h 53 25 ≤ 6 := hI.1 53 _
  have b2 : 0 ≤ h 53 24 ∧ h 53 24 ≤ 120 := hI.1 53 _
  have b3 : 0 ≤ h 53 16 ∧ h 53 16 ≤ 120 := hI.1 53 _
  have b4 : 0 ≤ h 53 26 ∧ h 53 26 ≤ 200 := hI.1 53 _
  refine fz_aload_n kX11_isP rfl rfl ?_
  refine fz_callV (d' := (D + 8)) (M' := mX11_isO) (As := []) (st := []) kX11_isP rfl rfl vX11_isO rfl rfl rfl rfl (Nat.le_of_ble_eq_true rfl) (Nat.le_of_ble_eq_true rfl) (by omega) (sX11_isO_g k L D hL ihO ihE h hI  (by omega) (by omega) (by omega)) (fun H5 r6 q7 o8 => ?_)
  obtain ⟨hI9, hf10, y18, rfl, p19, f11, f12, f13, f14, f15, f16, f17⟩ := q7
  clear o8
  have hf20 := fz_fr_tr hf hf10 (show fz_su [(53, 24), (53, 25), (53, 26), (73, 99999)] [(53, 24), (53, 25), (53, 26), (73, 99999)] = true from rfl)
  refine fz_if_ne (tgt := 9) kX11_isP rfl (by decide) (fun c21 => ?_) (fun c21 => ?_)
  · have hPa22 : fz_Pa h H5 := f17 (by omega)
    have lp29 : ∀ (n28 : Nat) (H25 : fz_H), fz_Iv H25 → fz_fr [(53, 24), (53, 25), (53, 26), (73, 99999)] h H25 → fz_Pa h H25 → (H25 53 25 = L) → (h 53 24 + 1 ≤ H25 53 24) → (H25 53 24 ≤ h 53 16) → (h 53 26 ≤ H25 53 26) → (H25 53 26 - h 53 26 ≤ H25 53 24 - h 53 24) → (h 53 16 - H25 53 24).toNat < n28 → fz_R (D + 9) mX11_isP 9 [(0, fz_r 53)] [] H25 (qX11_isP_g (k + 1) L h) := by
      intro n28
      induction n28 with
      | zero => intro H25 hI26 hf27 hPa24 hv32 hv33 hv34 hv35 hv36 hm31; exact absurd hm31 (by omega)
      | succ n28 ih30 =>
        intro H25 hI26 hf27 hPa24 hv32 hv33 hv34 hv35 hv36 hm31
        refine fz_aload_n kX11_isP rfl rfl ?_
        have b37 : 0 ≤ H25 53 24 ∧ H25 53 24 ≤ 120 := hI26.1 53 _
        have b38 : 0 ≤ h 53 16 ∧ h 53 16 ≤ 120 := hI.1 53 _
        have e39 : H25 53 16 = h 53 16 := hf27 53 16 rfl
        refine fz_callV (d' := 0) (M' := mX11_sign) (As := []) (st := []) kX11_isP rfl rfl vX11_sign rfl rfl rfl rfl (Nat.le_of_ble_eq_true rfl) (Nat.le_of_ble_eq_true rfl) (by omega) (sX11_sign H25 hI26  (by omega)) (fun H40 r41 q42 o43 => ?_)
        obtain ⟨e44, y47, rfl, f45, f46⟩ := q42
        subst H40
        clear o43
        refine fz_bipush ⟨by decide, by decide⟩ kX11_isP rfl ?_
        refine fz_icmp_ne (tgt := 23) kX11_isP rfl (by decide) (fun c48 => ?_) (fun c48 => ?_)
        · refine fz_aload_n kX11_isP rfl rfl ?_
          refine fz_callV (d' := 0) (M' := mX11_sign) (As := []) (st := []) kX11_isP rfl rfl vX11_sign rfl rfl rfl rfl (Nat.le_of_ble_eq_true rfl) (Nat.le_of_ble_eq_true rfl) (by omega) (sX11_sign H25 hI26  (by omega)) (fun H49 r50 q51 o52 => ?_)
          obtain ⟨e53, y56, rfl, f54, f55⟩ := q51
          subst H49
          clear o52
          refine fz_bipush ⟨by decide, by decide⟩ kX11_isP rfl ?_
          refine fz_icmp_ne (tgt := 37) kX11_isP rfl (by decide) (fun c57 => ?_) (fun c57 => ?_)
          · refine fz_aload_n kX11_isP rfl rfl ?_
            refine fz_callV (d' := 0) (M' := mX11_sign) (As := []) (st := []) kX11_isP rfl rfl vX11_sign rfl rfl rfl rfl (Nat.le_of_ble_eq_true rfl) (Nat.le_of_ble_eq_true rfl) (by omega) (sX11_sign H25 hI26  (by omega)) (fun H58 r59 q60 o61 => ?_)
            obtain ⟨e62, y65, rfl, f63, f64⟩ := q60
            subst H58
            clear o61
            refine fz_bipush ⟨by decide, by decide⟩ kX11_isP rfl ?_
            refine fz_icmp_ne (tgt := 51) kX11_isP rfl (by decide) (fun c66 => ?_) (fun c66 => ?_)
            · refine fz_iconst ⟨by decide, by decide⟩ kX11_isP rfl ?_
              refine fz_istore_n (ls' := [(1, fz_i (-1)), (0, fz_r 53)]) kX11_isP rfl (by decide) rfl ?_
              refine fz_iload_n kX11_isP rfl rfl ?_
              refine fz_if_ge (tgt := 59) kX11_isP rfl (by decide) (fun c67 => ?_) (fun c67 => ?_)
              · exfalso; omega
              · refine fz_iconst ⟨by decide, by decide⟩ kX11_isP rfl ?_
                exact fz_zret kX11_isP rfl rfl (by omega) ⟨hI26, hf27, _, rfl, (by omega), (by omega), (by omega), (by omega), (by omega), (by omega), (by omega), (by first | (intro z; exfalso; omega) | (intro _; exact hPa24))⟩
            · refine fz_bipush ⟨by decide, by decide⟩ kX11_isP rfl ?_
              refine fz_goto (tgt := 52) kX11_isP rfl (by decide) ?_
              refine fz_istore_n (ls' := [(1, fz_i 15), (0, fz_r 53)]) kX11_isP rfl (by decide) rfl ?_
              refine fz_iload_n kX11_isP rfl rfl ?_
              refine fz_if_ge (tgt := 59) kX11_isP rfl (by decide) (fun c69 => ?_) (fun c69 => ?_)
              · refine fz_aload_n kX11_isP rfl rfl ?_
                refine fz_dup rfl kX11_isP rfl ?_
                obtain ⟨v70, e71⟩ : ∃ z, H25 53 (24) = z := ⟨_, rfl⟩
                refine fz_getV (v := v70) kX11_isP rfl rfl e71 ?_
                have b72 : 0 ≤ v70 ∧ v70 ≤ 120 := by rw [← e71]; exact hI26.1 53 _
                refine fz_iconst ⟨by decide, by decide⟩ kX11_isP rfl ?_
                refine fz_iaddN kX11_isP rfl (by omega) ?_
                refine fz_putI kX11_isP rfl rfl rfl ?_
                refine fz_nmu (S := [(53, 24), (53, 25), (53, 26), (73, 99999)]) (h0 := h) (fz_Iv_up hI26 (by decide) (show (0 : Int) ≤ (v70 + 1) by omega) (show ((v70 + 1) : Int) ≤ 120 by omega)) (fz_fr_up hf27 rfl) (fun H73 hI74 hf75 e76 => ?_)
                have k77 : H73 53 25 = L := by rw [e76]; exact (fz_up_s (by decide)).trans hv32
                have k78 : H73 53 24 = (v70 + 1) := by rw [e76]; exact fz_up_e
                have t79 : H73 53 26 = H25 53 26 := by rw [e76]; exact fz_up_s (by decide)
                have hPa80 : fz_Pa h H73 := fz_Pa_eq (by rw [e76]; exact fz_up_ne (by decide)) (by rw [e76]; exact fz_up_s (by decide)) hPa24
                refine fz_aload_n kX11_isP rfl rfl ?_
                have k81 := hPa80
                have b83 : 0 ≤ H73 53 25 ∧ H73 53 25 ≤ 6 := hI74.1 53 _
                have b84 : 0 ≤ H73 53 24 ∧ H73 53 24 ≤ 120 := hI74.1 53 _
                have b85 : 0 ≤ H73 53 26 ∧ H73 53 26 ≤ 200 := hI74.1 53 _
                have e86 : H73 53 16 = h 53 16 := hf75 53 16 rfl
                refine fz_callV (d' := (D + 8)) (M' := mX11_isO) (As := []) (st := []) kX11_isP rfl rfl vX11_isO rfl rfl rfl rfl (Nat.le_of_ble_eq_true rfl) (Nat.le_of_ble_eq_true rfl) (by omega) (sX11_isO_g k L D hL ihO ihE H73 hI74  (by omega) (by omega) (by omega)) (fun H87 r88 q89 o90 => ?_)
                obtain ⟨hI91, hf92, y100, rfl, p101, f93, f94, f95, f96, f97, f98, f99⟩ := q89
                clear o90
                have hf102 := fz_fr_tr hf75 hf92 (show fz_su [(53, 24), (53, 25), (53, 26), (73, 99999)] [(53, 24), (53, 25), (53, 26), (73, 99999)] = true from rfl)
                refine fz_if_ne (tgt := 78) kX11_isP rfl (by decide) (fun c103 => ?_) (fun c103 => ?_)
                · have k104 := f99 (by omega)
                  refine fz_aload_n kX11_isP rfl rfl ?_
                  refine fz_iload_n kX11_isP rfl rfl ?_
                  have b106 : 0 ≤ H87 53 26 ∧ H87 53 26 ≤ 200 := hI91.1 53 _
                  refine fz_callV (d' := 0) (M' := mX11_codes) (As := [fz_i 15]) (st := []) kX11_isP rfl rfl vX11_codes rfl rfl rfl rfl (Nat.le_of_ble_eq_true rfl) (Nat.le_of_ble_eq_true rfl) (by omega) (sX11_codes H87 hI91 15 (by omega)) (fun H107 r108 q109 o110 => ?_)
                  obtain ⟨hI111, hf112, y116, rfl, p117, f113, f114, f115⟩ := q109
                  clear o110
                  have hf118 := fz_fr_tr hf102 hf112 (show fz_su [(53, 26), (73, 99999)] [(53, 24), (53, 25), (53, 26), (73, 99999)] = true from rfl)
                  have k119 : H107 53 25 = L := (hf112 53 25 rfl).trans f93
                  have t120 : H107 53 24 = H87 53 24 := hf112 53 24 rfl
                  refine fz_eqi (show y116 = 1 by omega) ?_
                  have hPa121 : fz_Pa h H107 := fz_Pa_b k81 k104 f115 (by omega)
                  refine fz_pop rfl kX11_isP rfl ?_
                  refine fz_goto (tgt := 9) kX11_isP rfl (by decide) ?_
                  refine fz_sub (fz_pk_sub (ls' := [(0, fz_r 53)]) [1] rfl) ?_
                  exact ih30  H107 hI111 hf118 hPa121 (by omega) (by omega) (by omega) (by omega) (by omega) (by omega)
                · refine fz_iconst ⟨by decide, by decide⟩ kX11_isP rfl ?_
                  exact fz_zret kX11_isP rfl rfl (by omega) ⟨hI91, hf102, _, rfl, (by omega), (by omega), (by omega), (by omega), (by omega), (by omega), (by omega), (by first | (intro z; exfalso; omega) | (intro _; exact lost))⟩
              · exfalso; omega
          · refine fz_bipush ⟨by decide, by decide⟩ kX11_isP rfl ?_
            refine fz_goto (tgt := 52) kX11_isP rfl (by decide) ?_
            refine fz_istore_n (ls' := [(1, fz_i 14), (0, fz_r 53)]) kX11_isP rfl (by decide) rfl ?_
            refine fz_iload_n kX11_isP rfl rfl ?_
            refine fz_if_ge (tgt := 59) kX11_isP rfl (by decide) (fun c124 => ?_) (fun c124 => ?_)
            · refine fz_aload_n kX11_isP rfl rfl ?_
              refine fz_dup rfl kX11_isP rfl ?_
              obtain ⟨v125, e126⟩ : ∃ z, H25 53 (24) = z := ⟨_, rfl⟩
              refine fz_getV (v := v125) kX11_isP rfl rfl e126 ?_
              have b127 : 0 ≤ v125 ∧ v125 ≤ 120 := by rw [← e126]; exact hI26.1 53 _
              refine fz_iconst ⟨by decide, by decide⟩ kX11_isP rfl ?_
              refine fz_iaddN kX11_isP rfl (by omega) ?_
              refine fz_putI kX11_isP rfl rfl rfl ?_
              refine fz_nmu (S := [(53, 24), (53, 25), (53, 26), (73, 99999)]) (h0 := h) (fz_Iv_up hI26 (by decide) (show (0 : Int) ≤ (v125 + 1) by omega) (show ((v125 + 1) : Int) ≤ 120 by omega)) (fz_fr_up hf27 rfl) (fun H128 hI129 hf130 e131 => ?_)
              have k132 : H128 53 25 = L := by rw [e131]; exact (fz_up_s (by decide)).trans hv32
              have k133 : H128 53 24 = (v125 + 1) := by rw [e131]; exact fz_up_e
              have t134 : H128 53 26 = H25 53 26 := by rw [e131]; exact fz_up_s (by decide)
              have hPa135 : fz_Pa h H128 := fz_Pa_eq (by rw [e131]; exact fz_up_ne (by decide)) (by rw [e131]; exact fz_up_s (by decide)) hPa24
              refine fz_aload_n kX11_isP rfl rfl ?_
              have k136 := hPa135
              have b138 : 0 ≤ H128 53 25 ∧ H128 53 25 ≤ 6 := hI129.1 53 _
              have b139 : 0 ≤ H128 53 24 ∧ H128 53 24 ≤ 120 := hI129.1 53 _
              have b140 : 0 ≤ H128 53 26 ∧ H128 53 26 ≤ 200 := hI129.1 53 _
              have e141 : H128 53 16 = h 53 16 := hf130 53 16 rfl
              refine fz_callV (d' := (D + 8)) (M' := mX11_isO) (As := []) (st := []) kX11_isP rfl rfl vX11_isO rfl rfl rfl rfl (Nat.le_of_ble_eq_true rfl) (Nat.le_of_ble_eq_true rfl) (by omega) (sX11_isO_g k L D hL ihO ihE H128 hI129  (by omega) (by omega) (by omega)) (fun H142 r143 q144 o145 => ?_)
              obtain ⟨hI146, hf147, y155, rfl, p156, f148, f149, f150, f151, f152, f153, f154⟩ := q144
              clear o145
              have hf157 := fz_fr_tr hf130 hf147 (show fz_su [(53, 24), (53, 25), (53, 26), (73, 99999)] [(53, 24), (53, 25), (53, 26), (73, 99999)] = true from rfl)
              refine fz_if_ne (tgt := 78) kX11_isP rfl (by decide) (fun c158 => ?_) (fun c158 => ?_)
              · have k159 := f154 (by omega)
                refine fz_aload_n kX11_isP rfl rfl ?_
                refine fz_iload_n kX11_isP rfl rfl ?_
                have b161 : 0 ≤ H142 53 26 ∧ H142 53 26 ≤ 200 := hI146.1 53 _
                refine fz_callV (d' := 0) (M' := mX11_codes) (As := [fz_i 14]) (st := []) kX11_isP rfl rfl vX11_codes rfl rfl rfl rfl (Nat.le_of_ble_eq_true rfl) (Nat.le_of_ble_eq_true rfl) (by omega) (sX11_codes H142 hI146 14 (by omega)) (fun H162 r163 q164 o165 => ?_)
                obtain ⟨hI166, hf167, y171, rfl, p172, f168, f169, f170⟩ := q164
                clear o165
                have hf173 := fz_fr_tr hf157 hf167 (show fz_su [(53, 26), (73, 99999)] [(53, 24), (53, 25), (53, 26), (73, 99999)] = true from rfl)
                have k174 : H162 53 25 = L := (hf167 53 25 rfl).trans f148
                have t175 : H162 53 24 = H142 53 24 := hf167 53 24 rfl
                refine fz_eqi (show y171 = 1 by omega) ?_
                have hPa176 : fz_Pa h H162 := fz_Pa_b k136 k159 f170 (by omega)
                refine fz_pop rfl kX11_isP rfl ?_
                refine fz_goto (tgt := 9) kX11_isP rfl (by decide) ?_
                refine fz_sub (fz_pk_sub (ls' := [(0, fz_r 53)]) [1] rfl) ?_
                exact ih30  H162 hI166 hf173 hPa176 (by omega) (by omega) (by omega) (by omega) (by omega) (by omega)
              · refine fz_iconst ⟨by decide, by decide⟩ kX11_isP rfl ?_
                exact fz_zret kX11_isP rfl rfl (by omega) ⟨hI146, hf157, _, rfl, (by omega), (by omega), (by omega), (by omega), (by omega), (by omega), (by omega), (by first | (intro z; exfalso; omega) | (intro _; exact lost))⟩
            · exfalso; omega
        · refine fz_bipush ⟨by decide, by decide⟩ kX11_isP rfl ?_
          refine fz_goto (tgt := 52) kX11_isP rfl (by decide) ?_
          refine fz_istore_n (ls' := [(1, fz_i 13), (0, fz_r 53)]) kX11_isP rfl (by decide) rfl ?_
          refine fz_iload_n kX11_isP rfl rfl ?_
          refine fz_if_ge (tgt := 59) kX11_isP rfl (by decide) (fun c179 => ?_) (fun c179 => ?_)
          · refine fz_aload_n kX11_isP rfl rfl ?_
            refine fz_dup rfl kX11_isP rfl ?_
            obtain ⟨v180, e181⟩ : ∃ z, H25 53 (24) = z := ⟨_, rfl⟩
            refine fz_getV (v := v180) kX11_isP rfl rfl e181 ?_
            have b182 : 0 ≤ v180 ∧ v180 ≤ 120 := by rw [← e181]; exact hI26.1 53 _
            refine fz_iconst ⟨by decide, by decide⟩ kX11_isP rfl ?_
            refine fz_iaddN kX11_isP rfl (by omega) ?_
            refine fz_putI kX11_isP rfl rfl rfl ?_
            refine fz_nmu (S := [(53, 24), (53, 25), (53, 26), (73, 99999)]) (h0 := h) (fz_Iv_up hI26 (by decide) (show (0 : Int) ≤ (v180 + 1) by omega) (show ((v180 + 1) : Int) ≤ 120 by omega)) (fz_fr_up hf27 rfl) (fun H183 hI184 hf185 e186 => ?_)
            have k187 : H183 53 25 = L := by rw [e186]; exact (fz_up_s (by decide)).trans hv32
            have k188 : H183 53 24 = (v180 + 1) := by rw [e186]; exact fz_up_e
            have t189 : H183 53 26 = H25 53 26 := by rw [e186]; exact fz_up_s (by decide)
            have hPa190 : fz_Pa h H183 := fz_Pa_eq (by rw [e186]; exact fz_up_ne (by decide)) (by rw [e186]; exact fz_up_s (by decide)) hPa24
            refine fz_aload_n kX11_isP rfl rfl ?_
            have k191 := hPa190
            have b193 : 0 ≤ H183 53 25 ∧ H183 53 25 ≤ 6 := hI184.1 53 _
            have b194 : 0 ≤ H183 53 24 ∧ H183 53 24 ≤ 120 := hI184.1 53 _
            have b195 : 0 ≤ H183 53 26 ∧ H183 53 26 ≤ 200 := hI184.1 53 _
            have e196 : H183 53 16 = h 53 16 := hf185 53 16 rfl
            refine fz_callV (d' := (D + 8)) (M' := mX11_isO) (As := []) (st := []) kX11_isP rfl rfl vX11_isO rfl rfl rfl rfl (Nat.le_of_ble_eq_true rfl) (Nat.le_of_ble_eq_true rfl) (by omega) (sX11_isO_g k L D hL ihO ihE H183 hI184  (by omega) (by omega) (by omega)) (fun H197 r198 q199 o200 => ?_)
            obtain ⟨hI201, hf202, y210, rfl, p211, f203, f204, f205, f206, f207, f208, f209⟩ := q199
            clear o200
            have hf212 := fz_fr_tr hf185 hf202 (show fz_su [(53, 24), (53, 25), (53, 26), (73, 99999)] [(53, 24), (53, 25), (53, 26), (73, 99999)] = true from rfl)
            refine fz_if_ne (tgt := 78) kX11_isP rfl (by decide) (fun c213 => ?_) (fun c213 => ?_)
            · have k214 := f209 (by omega)
              refine fz_aload_n kX11_isP rfl rfl ?_
              refine fz_iload_n kX11_isP rfl rfl ?_
              have b216 : 0 ≤ H197 53 26 ∧ H197 53 26 ≤ 200 := hI201.1 53 _
              refine fz_callV (d' := 0) (M' := mX11_codes) (As := [fz_i 13]) (st := []) kX11_isP rfl rfl vX11_codes rfl rfl rfl rfl (Nat.le_of_ble_eq_true rfl) (Nat.le_of_ble_eq_true rfl) (by omega) (sX11_codes H197 hI201 13 (by omega)) (fun H217 r218 q219 o220 => ?_)
              obtain ⟨hI221, hf222, y226, rfl, p227, f223, f224, f225⟩ := q219
              clear o220
              have hf228 := fz_fr_tr hf212 hf222 (show fz_su [(53, 26), (73, 99999)] [(53, 24), (53, 25), (53, 26), (73, 99999)] = true from rfl)
              have k229 : H217 53 25 = L := (hf222 53 25 rfl).trans f203
              have t230 : H217 53 24 = H197 53 24 := hf222 53 24 rfl
              refine fz_eqi (show y226 = 1 by omega) ?_
              have hPa231 : fz_Pa h H217 := fz_Pa_b k191 k214 f225 (by omega)
              refine fz_pop rfl kX11_isP rfl ?_
              refine fz_goto (tgt := 9) kX11_isP rfl (by decide) ?_
              refine fz_sub (fz_pk_sub (ls' := [(0, fz_r 53)]) [1] rfl) ?_
              exact ih30  H217 hI221 hf228 hPa231 (by omega) (by omega) (by omega) (by omega) (by omega) (by omega)
            · refine fz_iconst ⟨by decide, by decide⟩ kX11_isP rfl ?_
              exact fz_zret kX11_isP rfl rfl (by omega) ⟨hI201, hf212, _, rfl, (by omega), (by omega), (by omega), (by omega), (by omega), (by omega), (by omega), (by first | (intro z; exfalso; omega) | (intro _; exact lost))⟩
          · exfalso; omega
    exact lp29 _  H5 hI9 hf20 hPa22 (by omega) (by omega) (by omega) (by omega) (by omega) (Nat.lt_succ_self _)
  · refine fz_iconst ⟨by decide, by decide⟩ kX11_isP rfl ?_
    exact fz_zret kX11_isP rfl rfl (by omega) ⟨hI9, hf20, _, rfl, (by omega), (by omega), (by omega), (by omega), (by omega), (by omega), (by omega), (by first | (intro z; exfalso; omega) | (intro _; exact lost))⟩

set_option maxHeartbeats 1000000 in
set_option maxRecDepth 100000 in
theorem sX11_isS_g (k : Nat) (L : Int) (D : Nat) (hL : 0 ≤ L ∧ L ≤ 5) (ihO : ∀ (h : fz_H) (hI : fz_Iv h) (hp0 : h 53 25 = L + 1) (hp1 : h 53 24 ≤ h 53 16) (hp2 : h 53 26 ≤ h 53 24), fz_R (D + 2) mX11_isO 0 [(0, fz_r 53)] [] h (qX11_isO_g k (L + 1) h)) (ihE : ∀ (h : fz_H) (hI : fz_Iv h) (hp0 : h 53 25 = L + 1) (hp1 : h 53 24 ≤ h 53 16) (hp2 : h 53 26 ≤ h 53 24), fz_R (D + 7) mX11_isE 0 [(0, fz_r 53)] [] h (qX11_isE_g k (L + 1) h)) (h : fz_H) (hI : fz_Iv h) (hp0 : h 53 25 = L) (hp1 : h 53 24 ≤ h 53 16) (hp2 : h 53 26 ≤ h 53 24) : fz_R (D + 10) mX11_isS 0 [(0, fz_r 53)] [] h (qX11_isS_g (k + 1) L h) := by
  have hf : fz_fr [(53, 24), (53, 25), (53, 26), (73, 99999)] h h := fz_fr_rf
  have b1 : 0 ≤ h 53 25 ∧ h 53 25 ≤ 6 := hI.1 53 _
  have b2 : 0 ≤ h 53 24 ∧ h 53 24 ≤ 120 := hI.1 53 _
  have b3 : 0 ≤ h 53 16 ∧ h 53 16 ≤ 120 := hI.1 53 _
  have b4 : 0 ≤ h 53 26 ∧ h 53 26 ≤ 200 := hI.1 53 _
  refine fz_aload_n kX11_isS rfl rfl ?_
  refine fz_callV (d' := (D + 9)) (M' := mX11_isP) (As := []) (st := []) kX11_isS rfl rfl vX11_isP rfl rfl rfl rfl (Nat.le_of_ble_eq_true rfl) (Nat.le_of_ble_eq_true rfl) (by omega) (sX11_isP_g k L D hL ihO ihE h hI  (by omega) (by omega) (by omega)) (fun H5 r6 q7 o8 => ?_)
  obtain ⟨hI9, hf10, y18, rfl, p19, f11, f12, f13, f14, f15, f16, f17⟩ := q7
  clear o8
  have hf20 := fz_fr_tr hf hf10 (show fz_su [(53, 24), (53, 25), (53, 26), (73, 99999)] [(53, 24), (53, 25), (53, 26), (73, 99999)] = true from rfl)
  refine fz_if_ne (tgt := 9) kX11_isS rfl (by decide) (fun c21 => ?_) (fun c21 => ?_)
  · have hPa22 : fz_Pa h H5 := f17 (by omega)
    have lp29 : ∀ (n28 : Nat) (H25 : fz_H), fz_Iv H25 → fz_fr [(53, 24), (53, 25), (53, 26), (73, 99999)] h H25 → fz_Pa h H25 → (H25 53 25 = L) → (h 53 24 + 1 ≤ H25 53 24) → (H25 53 24 ≤ h 53 16) → (h 53 26 ≤ H25 53 26) → (H25 53 26 - h 53 26 ≤ H25 53 24 - h 53 24) → (h 53 16 - H25 53 24).toNat < n28 → fz_R (D + 10) mX11_isS 9 [(0, fz_r 53)] [] H25 (qX11_isS_g (k + 1) L h) := by
      intro n28
      induction n28 with
      | zero => intro H25 hI26 hf27 hPa24 hv32 hv33 hv34 hv35 hv36 hm31; exact absurd hm31 (by omega)
      | succ n28 ih30 =>
        intro H25 hI26 hf27 hPa24 hv32 hv33 hv34 hv35 hv36 hm31
        refine fz_aload_n kX11_isS rfl rfl ?_
        have b37 : 0 ≤ H25 53 24 ∧ H25 53 24 ≤ 120 := hI26.1 53 _
        have b38 : 0 ≤ h 53 16 ∧ h 53 16 ≤ 120 := hI.1 53 _
        have e39 : H25 53 16 = h 53 16 := hf27 53 16 rfl
        refine fz_callV (d' := 0) (M' := mX11_sign) (As := []) (st := []) kX11_isS rfl rfl vX11_sign rfl rfl rfl rfl (Nat.le_of_ble_eq_true rfl) (Nat.le_of_ble_eq_true rfl) (by omega) (sX11_sign H25 hI26  (by omega)) (fun H40 r41 q42 o43 => ?_)
        obtain ⟨e44, y47, rfl, f45, f46⟩ := q42
        subst H40
        clear o43
        refine fz_bipush ⟨by decide, by decide⟩ kX11_isS rfl ?_
        refine fz_icmp_ne (tgt := 23) kX11_isS rfl (by decide) (fun c48 => ?_) (fun c48 => ?_)
        · refine fz_aload_n kX11_isS rfl rfl ?_
          refine fz_callV (d' := 0) (M' := mX11_sign) (As := []) (st := []) kX11_isS rfl rfl vX11_sign rfl rfl rfl rfl (Nat.le_of_ble_eq_true rfl) (Nat.le_of_ble_eq_true rfl) (by omega) (sX11_sign H25 hI26  (by omega)) (fun H49 r50 q51 o52 => ?_)
          obtain ⟨e53, y56, rfl, f54, f55⟩ := q51
          subst H49
          clear o52
          refine fz_bipush ⟨by decide, by decide⟩ kX11_isS rfl ?_
          refine fz_icmp_ne (tgt := 37) kX11_isS rfl (by decide) (fun c57 => ?_) (fun c57 => ?_)
          · refine fz_iconst ⟨by decide, by decide⟩ kX11_isS rfl ?_
            refine fz_istore_n (ls' := [(1, fz_i (-1)), (0, fz_r 53)]) kX11_isS rfl (by decide) rfl ?_
            refine fz_iload_n kX11_isS rfl rfl ?_
            refine fz_if_ge (tgt := 45) kX11_isS rfl (by decide) (fun c58 => ?_) (fun c58 => ?_)
            · exfalso; omega
            · refine fz_iconst ⟨by decide, by decide⟩ kX11_isS rfl ?_
              exact fz_zret kX11_isS rfl rfl (by omega) ⟨hI26, hf27, _, rfl, (by omega), (by omega), (by omega), (by omega), (by omega), (by omega), (by omega), (by first | (intro z; exfalso; omega) | (intro _; exact hPa24))⟩
          · refine fz_bipush ⟨by decide, by decide⟩ kX11_isS rfl ?_
            refine fz_goto (tgt := 38) kX11_isS rfl (by decide) ?_
            refine fz_istore_n (ls' := [(1, fz_i 12), (0, fz_r 53)]) kX11_isS rfl (by decide) rfl ?_
            refine fz_iload_n kX11_isS rfl rfl ?_
            refine fz_if_ge (tgt := 45) kX11_isS rfl (by decide) (fun c60 => ?_) (fun c60 => ?_)
            · refine fz_aload_n kX11_isS rfl rfl ?_
              refine fz_dup rfl kX11_isS rfl ?_
              obtain ⟨v61, e62⟩ : ∃ z, H25 53 (24) = z := ⟨_, rfl⟩
              refine fz_getV (v := v61) kX11_isS rfl rfl e62 ?_
              have b63 : 0 ≤ v61 ∧ v61 ≤ 120 := by rw [← e62]; exact hI26.1 53 _
              refine fz_iconst ⟨by decide, by decide⟩ kX11_isS rfl ?_
              refine fz_iaddN kX11_isS rfl (by omega) ?_
              refine fz_putI kX11_isS rfl rfl rfl ?_
              refine fz_nmu (S := [(53, 24), (53, 25), (53, 26), (73, 99999)]) (h0 := h) (fz_Iv_up hI26 (by decide) (show (0 : Int) ≤ (v61 + 1) by omega) (show ((v61 + 1) : Int) ≤ 120 by omega)) (fz_fr_up hf27 rfl) (fun H64 hI65 hf66 e67 => ?_)
              have k68 : H64 53 25 = L := by rw [e67]; exact (fz_up_s (by decide)).trans hv32
              have k69 : H64 53 24 = (v61 + 1) := by rw [e67]; exact fz_up_e
              have t70 : H64 53 26 = H25 53 26 := by rw [e67]; exact fz_up_s (by decide)
              have hPa71 : fz_Pa h H64 := fz_Pa_eq (by rw [e67]; exact fz_up_ne (by decide)) (by rw [e67]; exact fz_up_s (by decide)) hPa24
              refine fz_aload_n kX11_isS rfl rfl ?_
              have k72 := hPa71
              have b74 : 0 ≤ H64 53 25 ∧ H64 53 25 ≤ 6 := hI65.1 53 _
              have b75 : 0 ≤ H64 53 24 ∧ H64 53 24 ≤ 120 := hI65.1 53 _
              have b76 : 0 ≤ H64 53 26 ∧ H64 53 26 ≤ 200 := hI65.1 53 _
              have e77 : H64 53 16 = h 53 16 := hf66 53 16 rfl
              refine fz_callV (d' := (D + 9)) (M' := mX11_isP) (As := []) (st := []) kX11_isS rfl rfl vX11_isP rfl rfl rfl rfl (Nat.le_of_ble_eq_true rfl) (Nat.le_of_ble_eq_true rfl) (by omega) (sX11_isP_g k L D hL ihO ihE H64 hI65  (by omega) (by omega) (by omega)) (fun H78 r79 q80 o81 => ?_)
              obtain ⟨hI82, hf83, y91, rfl, p92, f84, f85, f86, f87, f88, f89, f90⟩ := q80
              clear o81
              have hf93 := fz_fr_tr hf66 hf83 (show fz_su [(53, 24), (53, 25), (53, 26), (73, 99999)] [(53, 24), (53, 25), (53, 26), (73, 99999)] = true from rfl)
              refine fz_if_ne (tgt := 64) kX11_isS rfl (by decide) (fun c94 => ?_) (fun c94 => ?_)
              · have k95 := f90 (by omega)
                refine fz_aload_n kX11_isS rfl rfl ?_
                refine fz_iload_n kX11_isS rfl rfl ?_
                have b97 : 0 ≤ H78 53 26 ∧ H78 53 26 ≤ 200 := hI82.1 53 _
                refine fz_callV (d' := 0) (M' := mX11_codes) (As := [fz_i 12]) (st := []) kX11_isS rfl rfl vX11_codes rfl rfl rfl rfl (Nat.le_of_ble_eq_true rfl) (Nat.le_of_ble_eq_true rfl) (by omega) (sX11_codes H78 hI82 12 (by omega)) (fun H98 r99 q100 o101 => ?_)
                obtain ⟨hI102, hf103, y107, rfl, p108, f104, f105, f106⟩ := q100
                clear o101
                have hf109 := fz_fr_tr hf93 hf103 (show fz_su [(53, 26), (73, 99999)] [(53, 24), (53, 25), (53, 26), (73, 99999)] = true from rfl)
                have k110 : H98 53 25 = L := (hf103 53 25 rfl).trans f84
                have t111 : H98 53 24 = H78 53 24 := hf103 53 24 rfl
                refine fz_eqi (show y107 = 1 by omega) ?_
                have hPa112 : fz_Pa h H98 := fz_Pa_b k72 k95 f106 (by omega)
                refine fz_pop rfl kX11_isS rfl ?_
                refine fz_goto (tgt := 9) kX11_isS rfl (by decide) ?_
                refine fz_sub (fz_pk_sub (ls' := [(0, fz_r 53)]) [1] rfl) ?_
                exact ih30  H98 hI102 hf109 hPa112 (by omega) (by omega) (by omega) (by omega) (by omega) (by omega)
              · refine fz_iconst ⟨by decide, by decide⟩ kX11_isS rfl ?_
                exact fz_zret kX11_isS rfl rfl (by omega) ⟨hI82, hf93, _, rfl, (by omega), (by omega), (by omega), (by omega), (by omega), (by omega), (by omega), (by first | (intro z; exfalso; omega) | (intro _; exact lost))⟩
            · exfalso; omega
        · refine fz_bipush ⟨by decide, by decide⟩ kX11_isS rfl ?_
          refine fz_goto (tgt := 38) kX11_isS rfl (by decide) ?_
          refine fz_istore_n (ls' := [(1, fz_i 11), (0, fz_r 53)]) kX11_isS rfl (by decide) rfl ?_
          refine fz_iload_n kX11_isS rfl rfl ?_
          refine fz_if_ge (tgt := 45) kX11_isS rfl (by decide) (fun c115 => ?_) (fun c115 => ?_)
          · refine fz_aload_n kX11_isS rfl rfl ?_
            refine fz_dup rfl kX11_isS rfl ?_
            obtain ⟨v116, e117⟩ : ∃ z, H25 53 (24) = z := ⟨_, rfl⟩
            refine fz_getV (v := v116) kX11_isS rfl rfl e117 ?_
            have b118 : 0 ≤ v116 ∧ v116 ≤ 120 := by rw [← e117]; exact hI26.1 53 _
            refine fz_iconst ⟨by decide, by decide⟩ kX11_isS rfl ?_
            refine fz_iaddN kX11_isS rfl (by omega) ?_
            refine fz_putI kX11_isS rfl rfl rfl ?_
            refine fz_nmu (S := [(53, 24), (53, 25), (53, 26), (73, 99999)]) (h0 := h) (fz_Iv_up hI26 (by decide) (show (0 : Int) ≤ (v116 + 1) by omega) (show ((v116 + 1) : Int) ≤ 120 by omega)) (fz_fr_up hf27 rfl) (fun H119 hI120 hf121 e122 => ?_)
            have k123 : H119 53 25 = L := by rw [e122]; exact (fz_up_s (by decide)).trans hv32
            have k124 : H119 53 24 = (v116 + 1) := by rw [e122]; exact fz_up_e
            have t125 : H119 53 26 = H25 53 26 := by rw [e122]; exact fz_up_s (by decide)
            have hPa126 : fz_Pa h H119 := fz_Pa_eq (by rw [e122]; exact fz_up_ne (by decide)) (by rw [e122]; exact fz_up_s (by decide)) hPa24
            refine fz_aload_n kX11_isS rfl rfl ?_
            have k127 := hPa126
            have b129 : 0 ≤ H119 53 25 ∧ H119 53 25 ≤ 6 := hI120.1 53 _
            have b130 : 0 ≤ H119 53 24 ∧ H119 53 24 ≤ 120 := hI120.1 53 _
            have b131 : 0 ≤ H119 53 26 ∧ H119 53 26 ≤ 200 := hI120.1 53 _
            have e132 : H119 53 16 = h 53 16 := hf121 53 16 rfl
            refine fz_callV (d' := (D + 9)) (M' := mX11_isP) (As := []) (st := []) kX11_isS rfl rfl vX11_isP rfl rfl rfl rfl (Nat.le_of_ble_eq_true rfl) (Nat.le_of_ble_eq_true rfl) (by omega) (sX11_isP_g k L D hL ihO ihE H119 hI120  (by omega) (by omega) (by omega)) (fun H133 r134 q135 o136 => ?_)
            obtain ⟨hI137, hf138, y146, rfl, p147, f139, f140, f141, f142, f143, f144, f145⟩ := q135
            clear o136
            have hf148 := fz_fr_tr hf121 hf138 (show fz_su [(53, 24), (53, 25), (53, 26), (73, 99999)] [(53, 24), (53, 25), (53, 26), (73, 99999)] = true from rfl)
            refine fz_if_ne (tgt := 64) kX11_isS rfl (by decide) (fun c149 => ?_) (fun c149 => ?_)
            · have k150 := f145 (by omega)
              refine fz_aload_n kX11_isS rfl rfl ?_
              refine fz_iload_n kX11_isS rfl rfl ?_
              have b152 : 0 ≤ H133 53 26 ∧ H133 53 26 ≤ 200 := hI137.1 53 _
              refine fz_callV (d' := 0) (M' := mX11_codes) (As := [fz_i 11]) (st := []) kX11_isS rfl rfl vX11_codes rfl rfl rfl rfl (Nat.le_of_ble_eq_true rfl) (Nat.le_of_ble_eq_true rfl) (by omega) (sX11_codes H133 hI137 11 (by omega)) (fun H153 r154 q155 o156 => ?_)
              obtain ⟨hI157, hf158, y162, rfl, p163, f159, f160, f161⟩ := q155
              clear o156
              have hf164 := fz_fr_tr hf148 hf158 (show fz_su [(53, 26), (73, 99999)] [(53, 24), (53, 25), (53, 26), (73, 99999)] = true from rfl)
              have k165 : H153 53 25 = L := (hf158 53 25 rfl).trans f139
              have t166 : H153 53 24 = H133 53 24 := hf158 53 24 rfl
              refine fz_eqi (show y162 = 1 by omega) ?_
              have hPa167 : fz_Pa h H153 := fz_Pa_b k127 k150 f161 (by omega)
              refine fz_pop rfl kX11_isS rfl ?_
              refine fz_goto (tgt := 9) kX11_isS rfl (by decide) ?_
              refine fz_sub (fz_pk_sub (ls' := [(0, fz_r 53)]) [1] rfl) ?_
              exact ih30  H153 hI157 hf164 hPa167 (by omega) (by omega) (by omega) (by omega) (by omega) (by omega)
            · refine fz_iconst ⟨by decide, by decide⟩ kX11_isS rfl ?_
              exact fz_zret kX11_isS rfl rfl (by omega) ⟨hI137, hf148, _, rfl, (by omega), (by omega), (by omega), (by omega), (by omega), (by omega), (by omega), (by first | (intro z; exfalso; omega) | (intro _; exact lost))⟩
          · exfalso; omega
    exact lp29 _  H5 hI9 hf20 hPa22 (by omega) (by omega) (by omega) (by omega) (by omega) (Nat.lt_succ_self _)
  · refine fz_iconst ⟨by decide, by decide⟩ kX11_isS rfl ?_
    exact fz_zret kX11_isS rfl rfl (by omega) ⟨hI9, hf20, _, rfl, (by omega), (by omega), (by omega), (by omega), (by omega), (by omega), (by omega), (by first | (intro z; exfalso; omega) | (intro _; exact lost))⟩

set_option maxHeartbeats 1000000 in
set_option maxRecDepth 100000 in
theorem sX11_isB_g (k : Nat) (L : Int) (D : Nat) (hL : 0 ≤ L ∧ L ≤ 5) (ihO : ∀ (h : fz_H) (hI : fz_Iv h) (hp0 : h 53 25 = L + 1) (hp1 : h 53 24 ≤ h 53 16) (hp2 : h 53 26 ≤ h 53 24), fz_R (D + 2) mX11_isO 0 [(0, fz_r 53)] [] h (qX11_isO_g k (L + 1) h)) (ihE : ∀ (h : fz_H) (hI : fz_Iv h) (hp0 : h 53 25 = L + 1) (hp1 : h 53 24 ≤ h 53 16) (hp2 : h 53 26 ≤ h 53 24), fz_R (D + 7) mX11_isE 0 [(0, fz_r 53)] [] h (qX11_isE_g k (L + 1) h)) (h : fz_H) (hI : fz_Iv h) (hp0 : h 53 25 = L) (hp1 : h 53 24 ≤ h 53 16) (hp2 : h 53 26 ≤ h 53 24) : fz_R (D + 11) mX11_isB 0 [(0, fz_r 53)] [] h (qX11_isB_g (k + 1) L h) := by
  have hf : fz_fr [(53, 24), (53, 25), (53, 26), (73, 99999)] h h := fz_fr_rf
  have b1 : 0 ≤ h 53 25 ∧ h 53 25 ≤ 6 := hI.1 53 _
  have b2 : 0 ≤ h 53 24 ∧ h 53 24 ≤ 120 := hI.1 53 _
  have b3 : 0 ≤ h 53 16 ∧ h 53 16 ≤ 120 := hI.1 53 _
  have b4 : 0 ≤ h 53 26 ∧ h 53 26 ≤ 200 := hI.1 53 _
  refine fz_aload_n kX11_isB rfl rfl ?_
  refine fz_callV (d' := (D + 10)) (M' := mX11_isS) (As := []) (st := []) kX11_isB rfl rfl vX11_isS rfl rfl rfl rfl (Nat.le_of_ble_eq_true rfl) (Nat.le_of_ble_eq_true rfl) (by omega) (sX11_isS_g k L D hL ihO ihE h hI  (by omega) (by omega) (by omega)) (fun H5 r6 q7 o8 => ?_)
  obtain ⟨hI9, hf10, y18, rfl, p19, f11, f12, f13, f14, f15, f16, f17⟩ := q7
  clear o8
  have hf20 := fz_fr_tr hf hf10 (show fz_su [(53, 24), (53, 25), (53, 26), (73, 99999)] [(53, 24), (53, 25), (53, 26), (73, 99999)] = true from rfl)
  refine fz_if_ne (tgt := 9) kX11_isB rfl (by decide) (fun c21 => ?_) (fun c21 => ?_)
  · have hPa22 : fz_Pa h H5 := f17 (by omega)
    refine fz_aload_n kX11_isB rfl rfl ?_
    have b24 : 0 ≤ H5 53 24 ∧ H5 53 24 ≤ 120 := hI9.1 53 _
    have e25 : H5 53 16 = h 53 16 := hf20 53 16 rfl
    refine fz_callV (d' := 0) (M' := mX11_sign) (As := []) (st := []) kX11_isB rfl rfl vX11_sign rfl rfl rfl rfl (Nat.le_of_ble_eq_true rfl) (Nat.le_of_ble_eq_true rfl) (by omega) (sX11_sign H5 hI9  (by omega)) (fun H26 r27 q28 o29 => ?_)
    obtain ⟨e30, y33, rfl, f31, f32⟩ := q28
    subst H26
    clear o29
    refine fz_bipush ⟨by decide, by decide⟩ kX11_isB rfl ?_
    refine fz_icmp_ne (tgt := 23) kX11_isB rfl (by decide) (fun c34 => ?_) (fun c34 => ?_)
    · refine fz_aload_n kX11_isB rfl rfl ?_
      refine fz_callV (d' := 0) (M' := mX11_sign) (As := []) (st := []) kX11_isB rfl rfl vX11_sign rfl rfl rfl rfl (Nat.le_of_ble_eq_true rfl) (Nat.le_of_ble_eq_true rfl) (by omega) (sX11_sign H5 hI9  (by omega)) (fun H35 r36 q37 o38 => ?_)
      obtain ⟨e39, y42, rfl, f40, f41⟩ := q37
      subst H35
      clear o38
      refine fz_bipush ⟨by decide, by decide⟩ kX11_isB rfl ?_
      refine fz_icmp_ne (tgt := 37) kX11_isB rfl (by decide) (fun c43 => ?_) (fun c43 => ?_)
      · refine fz_aload_n kX11_isB rfl rfl ?_
        refine fz_callV (d' := 0) (M' := mX11_sign) (As := []) (st := []) kX11_isB rfl rfl vX11_sign rfl rfl rfl rfl (Nat.le_of_ble_eq_true rfl) (Nat.le_of_ble_eq_true rfl) (by omega) (sX11_sign H5 hI9  (by omega)) (fun H44 r45 q46 o47 => ?_)
        obtain ⟨e48, y51, rfl, f49, f50⟩ := q46
        subst H44
        clear o47
        refine fz_bipush ⟨by decide, by decide⟩ kX11_isB rfl ?_
        refine fz_icmp_ne (tgt := 51) kX11_isB rfl (by decide) (fun c52 => ?_) (fun c52 => ?_)
        · refine fz_iconst ⟨by decide, by decide⟩ kX11_isB rfl ?_
          refine fz_istore_n (ls' := [(1, fz_i (-1)), (0, fz_r 53)]) kX11_isB rfl (by decide) rfl ?_
          refine fz_iload_n kX11_isB rfl rfl ?_
          refine fz_if_ge (tgt := 59) kX11_isB rfl (by decide) (fun c53 => ?_) (fun c53 => ?_)
          · exfalso; omega
          · refine fz_iconst ⟨by decide, by decide⟩ kX11_isB rfl ?_
            exact fz_zret kX11_isB rfl rfl (by omega) ⟨hI9, hf20, _, rfl, (by omega), (by omega), (by omega), (by omega), (by omega), (by omega), (by omega), (by first | (intro z; exfalso; omega) | (intro _; exact hPa22))⟩
        · refine fz_bipush ⟨by decide, by decide⟩ kX11_isB rfl ?_
          refine fz_goto (tgt := 52) kX11_isB rfl (by decide) ?_
          refine fz_istore_n (ls' := [(1, fz_i 10), (0, fz_r 53)]) kX11_isB rfl (by decide) rfl ?_
          refine fz_iload_n kX11_isB rfl rfl ?_
          refine fz_if_ge (tgt := 59) kX11_isB rfl (by decide) (fun c55 => ?_) (fun c55 => ?_)
          · refine fz_aload_n kX11_isB rfl rfl ?_
            refine fz_dup rfl kX11_isB rfl ?_
            obtain ⟨v56, e57⟩ : ∃ z, H5 53 (24) = z := ⟨_, rfl⟩
            refine fz_getV (v := v56) kX11_isB rfl rfl e57 ?_
            have b58 : 0 ≤ v56 ∧ v56 ≤ 120 := by rw [← e57]; exact hI9.1 53 _
            refine fz_iconst ⟨by decide, by decide⟩ kX11_isB rfl ?_
            refine fz_iaddN kX11_isB rfl (by omega) ?_
            refine fz_putI kX11_isB rfl rfl rfl ?_
            refine fz_nmu (S := [(53, 24), (53, 25), (53, 26), (73, 99999)]) (h0 := h) (fz_Iv_up hI9 (by decide) (show (0 : Int) ≤ (v56 + 1) by omega) (show ((v56 + 1) : Int) ≤ 120 by omega)) (fz_fr_up hf20 rfl) (fun H59 hI60 hf61 e62 => ?_)
            have k63 : H59 53 25 = L := by rw [e62]; exact (fz_up_s (by decide)).trans f11
            have k64 : H59 53 24 = (v56 + 1) := by rw [e62]; exact fz_up_e
            have t65 : H59 53 26 = H5 53 26 := by rw [e62]; exact fz_up_s (by decide)
            have hPa66 : fz_Pa h H59 := fz_Pa_eq (by rw [e62]; exact fz_up_ne (by decide)) (by rw [e62]; exact fz_up_s (by decide)) hPa22
            refine fz_aload_n kX11_isB rfl rfl ?_
            have k67 := hPa66
            have b69 : 0 ≤ H59 53 25 ∧ H59 53 25 ≤ 6 := hI60.1 53 _
            have b70 : 0 ≤ H59 53 24 ∧ H59 53 24 ≤ 120 := hI60.1 53 _
            have b71 : 0 ≤ H59 53 26 ∧ H59 53 26 ≤ 200 := hI60.1 53 _
            have e72 : H59 53 16 = h 53 16 := hf61 53 16 rfl
            refine fz_callV (d' := (D + 10)) (M' := mX11_isS) (As := []) (st := []) kX11_isB rfl rfl vX11_isS rfl rfl rfl rfl (Nat.le_of_ble_eq_true rfl) (Nat.le_of_ble_eq_true rfl) (by omega) (sX11_isS_g k L D hL ihO ihE H59 hI60  (by omega) (by omega) (by omega)) (fun H73 r74 q75 o76 => ?_)
            obtain ⟨hI77, hf78, y86, rfl, p87, f79, f80, f81, f82, f83, f84, f85⟩ := q75
            clear o76
            have hf88 := fz_fr_tr hf61 hf78 (show fz_su [(53, 24), (53, 25), (53, 26), (73, 99999)] [(53, 24), (53, 25), (53, 26), (73, 99999)] = true from rfl)
            refine fz_if_eq (tgt := 88) kX11_isB rfl (by decide) (fun c89 => ?_) (fun c89 => ?_)
            · refine fz_iconst ⟨by decide, by decide⟩ kX11_isB rfl ?_
              exact fz_zret kX11_isB rfl rfl (by omega) ⟨hI77, hf88, _, rfl, (by omega), (by omega), (by omega), (by omega), (by omega), (by omega), (by omega), (by first | (intro z; exfalso; omega) | (intro _; exact lost))⟩
            · have k91 := f85 (by omega)
              refine fz_aload_n kX11_isB rfl rfl ?_
              refine fz_iload_n kX11_isB rfl rfl ?_
              have b93 : 0 ≤ H73 53 26 ∧ H73 53 26 ≤ 200 := hI77.1 53 _
              refine fz_callV (d' := 0) (M' := mX11_codes) (As := [fz_i 10]) (st := []) kX11_isB rfl rfl vX11_codes rfl rfl rfl rfl (Nat.le_of_ble_eq_true rfl) (Nat.le_of_ble_eq_true rfl) (by omega) (sX11_codes H73 hI77 10 (by omega)) (fun H94 r95 q96 o97 => ?_)
              obtain ⟨hI98, hf99, y103, rfl, p104, f100, f101, f102⟩ := q96
              clear o97
              have hf105 := fz_fr_tr hf88 hf99 (show fz_su [(53, 26), (73, 99999)] [(53, 24), (53, 25), (53, 26), (73, 99999)] = true from rfl)
              have k106 : H94 53 25 = L := (hf99 53 25 rfl).trans f79
              have t107 : H94 53 24 = H73 53 24 := hf99 53 24 rfl
              refine fz_eqi (show y103 = 1 by omega) ?_
              have hPa108 : fz_Pa h H94 := fz_Pa_b k67 k91 f102 (by omega)
              refine fz_if_eq (tgt := 88) kX11_isB rfl (by decide) (fun c110 => ?_) (fun c110 => ?_)
              · exfalso; omega
              · refine fz_iconst ⟨by decide, by decide⟩ kX11_isB rfl ?_
                refine fz_goto (tgt := 89) kX11_isB rfl (by decide) ?_
                exact fz_zret kX11_isB rfl rfl (by omega) ⟨hI98, hf105, _, rfl, (by omega), (by omega), (by omega), (by omega), (by omega), (by omega), (by omega), (by first | (intro z; exfalso; omega) | (intro _; exact hPa108))⟩
          · exfalso; omega
      · refine fz_bipush ⟨by decide, by decide⟩ kX11_isB rfl ?_
        refine fz_goto (tgt := 52) kX11_isB rfl (by decide) ?_
        refine fz_istore_n (ls' := [(1, fz_i 9), (0, fz_r 53)]) kX11_isB rfl (by decide) rfl ?_
        refine fz_iload_n kX11_isB rfl rfl ?_
        refine fz_if_ge (tgt := 59) kX11_isB rfl (by decide) (fun c112 => ?_) (fun c112 => ?_)
        · refine fz_aload_n kX11_isB rfl rfl ?_
          refine fz_dup rfl kX11_isB rfl ?_
          obtain ⟨v113, e114⟩ : ∃ z, H5 53 (24) = z := ⟨_, rfl⟩
          refine fz_getV (v := v113) kX11_isB rfl rfl e114 ?_
          have b115 : 0 ≤ v113 ∧ v113 ≤ 120 := by rw [← e114]; exact hI9.1 53 _
          refine fz_iconst ⟨by decide, by decide⟩ kX11_isB rfl ?_
          refine fz_iaddN kX11_isB rfl (by omega) ?_
          refine fz_putI kX11_isB rfl rfl rfl ?_
          refine fz_nmu (S := [(53, 24), (53, 25), (53, 26), (73, 99999)]) (h0 := h) (fz_Iv_up hI9 (by decide) (show (0 : Int) ≤ (v113 + 1) by omega) (show ((v113 + 1) : Int) ≤ 120 by omega)) (fz_fr_up hf20 rfl) (fun H116 hI117 hf118 e119 => ?_)
          have k120 : H116 53 25 = L := by rw [e119]; exact (fz_up_s (by decide)).trans f11
          have k121 : H116 53 24 = (v113 + 1) := by rw [e119]; exact fz_up_e
          have t122 : H116 53 26 = H5 53 26 := by rw [e119]; exact fz_up_s (by decide)
          have hPa123 : fz_Pa h H116 := fz_Pa_eq (by rw [e119]; exact fz_up_ne (by decide)) (by rw [e119]; exact fz_up_s (by decide)) hPa22
          refine fz_aload_n kX11_isB rfl rfl ?_
          have k124 := hPa123
          have b126 : 0 ≤ H116 53 25 ∧ H116 53 25 ≤ 6 := hI117.1 53 _
          have b127 : 0 ≤ H116 53 24 ∧ H116 53 24 ≤ 120 := hI117.1 53 _
          have b128 : 0 ≤ H116 53 26 ∧ H116 53 26 ≤ 200 := hI117.1 53 _
          have e129 : H116 53 16 = h 53 16 := hf118 53 16 rfl
          refine fz_callV (d' := (D + 10)) (M' := mX11_isS) (As := []) (st := []) kX11_isB rfl rfl vX11_isS rfl rfl rfl rfl (Nat.le_of_ble_eq_true rfl) (Nat.le_of_ble_eq_true rfl) (by omega) (sX11_isS_g k L D hL ihO ihE H116 hI117  (by omega) (by omega) (by omega)) (fun H130 r131 q132 o133 => ?_)
          obtain ⟨hI134, hf135, y143, rfl, p144, f136, f137, f138, f139, f140, f141, f142⟩ := q132
          clear o133
          have hf145 := fz_fr_tr hf118 hf135 (show fz_su [(53, 24), (53, 25), (53, 26), (73, 99999)] [(53, 24), (53, 25), (53, 26), (73, 99999)] = true from rfl)
          refine fz_if_eq (tgt := 88) kX11_isB rfl (by decide) (fun c146 => ?_) (fun c146 => ?_)
          · refine fz_iconst ⟨by decide, by decide⟩ kX11_isB rfl ?_
            exact fz_zret kX11_isB rfl rfl (by omega) ⟨hI134, hf145, _, rfl, (by omega), (by omega), (by omega), (by omega), (by omega), (by omega), (by omega), (by first | (intro z; exfalso; omega) | (intro _; exact lost))⟩
          · have k148 := f142 (by omega)
            refine fz_aload_n kX11_isB rfl rfl ?_
            refine fz_iload_n kX11_isB rfl rfl ?_
            have b150 : 0 ≤ H130 53 26 ∧ H130 53 26 ≤ 200 := hI134.1 53 _
            refine fz_callV (d' := 0) (M' := mX11_codes) (As := [fz_i 9]) (st := []) kX11_isB rfl rfl vX11_codes rfl rfl rfl rfl (Nat.le_of_ble_eq_true rfl) (Nat.le_of_ble_eq_true rfl) (by omega) (sX11_codes H130 hI134 9 (by omega)) (fun H151 r152 q153 o154 => ?_)
            obtain ⟨hI155, hf156, y160, rfl, p161, f157, f158, f159⟩ := q153
            clear o154
            have hf162 := fz_fr_tr hf145 hf156 (show fz_su [(53, 26), (73, 99999)] [(53, 24), (53, 25), (53, 26), (73, 99999)] = true from rfl)
            have k163 : H151 53 25 = L := (hf156 53 25 rfl).trans f136
            have t164 : H151 53 24 = H130 53 24 := hf156 53 24 rfl
            refine fz_eqi (show y160 = 1 by omega) ?_
            have hPa165 : fz_Pa h H151 := fz_Pa_b k124 k148 f159 (by omega)
            refine fz_if_eq (tgt := 88) kX11_isB rfl (by decide) (fun c167 => ?_) (fun c167 => ?_)
            · exfalso; omega
            · refine fz_iconst ⟨by decide, by decide⟩ kX11_isB rfl ?_
              refine fz_goto (tgt := 89) kX11_isB rfl (by decide) ?_
              exact fz_zret kX11_isB rfl rfl (by omega) ⟨hI155, hf162, _, rfl, (by omega), (by omega), (by omega), (by omega), (by omega), (by omega), (by omega), (by first | (intro z; exfalso; omega) | (intro _; exact hPa165))⟩
        · exfalso; omega
    · refine fz_bipush ⟨by decide, by decide⟩ kX11_isB rfl ?_
      refine fz_goto (tgt := 52) kX11_isB rfl (by decide) ?_
      refine fz_istore_n (ls' := [(1, fz_i 8), (0, fz_r 53)]) kX11_isB rfl (by decide) rfl ?_
      refine fz_iload_n kX11_isB rfl rfl ?_
      refine fz_if_ge (tgt := 59) kX11_isB rfl (by decide) (fun c169 => ?_) (fun c169 => ?_)
      · refine fz_aload_n kX11_isB rfl rfl ?_
        refine fz_dup rfl kX11_isB rfl ?_
        obtain ⟨v170, e171⟩ : ∃ z, H5 53 (24) = z := ⟨_, rfl⟩
        refine fz_getV (v := v170) kX11_isB rfl rfl e171 ?_
        have b172 : 0 ≤ v170 ∧ v170 ≤ 120 := by rw [← e171]; exact hI9.1 53 _
        refine fz_iconst ⟨by decide, by decide⟩ kX11_isB rfl ?_
        refine fz_iaddN kX11_isB rfl (by omega) ?_
        refine fz_putI kX11_isB rfl rfl rfl ?_
        refine fz_nmu (S := [(53, 24), (53, 25), (53, 26), (73, 99999)]) (h0 := h) (fz_Iv_up hI9 (by decide) (show (0 : Int) ≤ (v170 + 1) by omega) (show ((v170 + 1) : Int) ≤ 120 by omega)) (fz_fr_up hf20 rfl) (fun H173 hI174 hf175 e176 => ?_)
        have k177 : H173 53 25 = L := by rw [e176]; exact (fz_up_s (by decide)).trans f11
        have k178 : H173 53 24 = (v170 + 1) := by rw [e176]; exact fz_up_e
        have t179 : H173 53 26 = H5 53 26 := by rw [e176]; exact fz_up_s (by decide)
        have hPa180 : fz_Pa h H173 := fz_Pa_eq (by rw [e176]; exact fz_up_ne (by decide)) (by rw [e176]; exact fz_up_s (by decide)) hPa22
        refine fz_aload_n kX11_isB rfl rfl ?_
        have k181 := hPa180
        have b183 : 0 ≤ H173 53 25 ∧ H173 53 25 ≤ 6 := hI174.1 53 _
        have b184 : 0 ≤ H173 53 24 ∧ H173 53 24 ≤ 120 := hI174.1 53 _
        have b185 : 0 ≤ H173 53 26 ∧ H173 53 26 ≤ 200 := hI174.1 53 _
        have e186 : H173 53 16 = h 53 16 := hf175 53 16 rfl
        refine fz_callV (d' := (D + 10)) (M' := mX11_isS) (As := []) (st := []) kX11_isB rfl rfl vX11_isS rfl rfl rfl rfl (Nat.le_of_ble_eq_true rfl) (Nat.le_of_ble_eq_true rfl) (by omega) (sX11_isS_g k L D hL ihO ihE H173 hI174  (by omega) (by omega) (by omega)) (fun H187 r188 q189 o190 => ?_)
        obtain ⟨hI191, hf192, y200, rfl, p201, f193, f194, f195, f196, f197, f198, f199⟩ := q189
        clear o190
        have hf202 := fz_fr_tr hf175 hf192 (show fz_su [(53, 24), (53, 25), (53, 26), (73, 99999)] [(53, 24), (53, 25), (53, 26), (73, 99999)] = true from rfl)
        refine fz_if_eq (tgt := 88) kX11_isB rfl (by decide) (fun c203 => ?_) (fun c203 => ?_)
        · refine fz_iconst ⟨by decide, by decide⟩ kX11_isB rfl ?_
          exact fz_zret kX11_isB rfl rfl (by omega) ⟨hI191, hf202, _, rfl, (by omega), (by omega), (by omega), (by omega), (by omega), (by omega), (by omega), (by first | (intro z; exfalso; omega) | (intro _; exact lost))⟩
        · have k205 := f199 (by omega)
          refine fz_aload_n kX11_isB rfl rfl ?_
          refine fz_iload_n kX11_isB rfl rfl ?_
          have b207 : 0 ≤ H187 53 26 ∧ H187 53 26 ≤ 200 := hI191.1 53 _
          refine fz_callV (d' := 0) (M' := mX11_codes) (As := [fz_i 8]) (st := []) kX11_isB rfl rfl vX11_codes rfl rfl rfl rfl (Nat.le_of_ble_eq_true rfl) (Nat.le_of_ble_eq_true rfl) (by omega) (sX11_codes H187 hI191 8 (by omega)) (fun H208 r209 q210 o211 => ?_)
          obtain ⟨hI212, hf213, y217, rfl, p218, f214, f215, f216⟩ := q210
          clear o211
          have hf219 := fz_fr_tr hf202 hf213 (show fz_su [(53, 26), (73, 99999)] [(53, 24), (53, 25), (53, 26), (73, 99999)] = true from rfl)
          have k220 : H208 53 25 = L := (hf213 53 25 rfl).trans f193
          have t221 : H208 53 24 = H187 53 24 := hf213 53 24 rfl
          refine fz_eqi (show y217 = 1 by omega) ?_
          have hPa222 : fz_Pa h H208 := fz_Pa_b k181 k205 f216 (by omega)
          refine fz_if_eq (tgt := 88) kX11_isB rfl (by decide) (fun c224 => ?_) (fun c224 => ?_)
          · exfalso; omega
          · refine fz_iconst ⟨by decide, by decide⟩ kX11_isB rfl ?_
            refine fz_goto (tgt := 89) kX11_isB rfl (by decide) ?_
            exact fz_zret kX11_isB rfl rfl (by omega) ⟨hI212, hf219, _, rfl, (by omega), (by omega), (by omega), (by omega), (by omega), (by omega), (by omega), (by first | (intro z; exfalso; omega) | (intro _; exact hPa222))⟩
      · exfalso; omega
  · refine fz_iconst ⟨by decide, by decide⟩ kX11_isB rfl ?_
    exact fz_zret kX11_isB rfl rfl (by omega) ⟨hI9, hf20, _, rfl, (by omega), (by omega), (by omega), (by omega), (by omega), (by omega), (by omega), (by first | (intro z; exfalso; omega) | (intro _; exact lost))⟩

set_option maxHeartbeats 1000000 in
set_option maxRecDepth 100000 in
theorem sX11_isA_g (k : Nat) (L : Int) (D : Nat) (hL : 0 ≤ L ∧ L ≤ 5) (ihO : ∀ (h : fz_H) (hI : fz_Iv h) (hp0 : h 53 25 = L + 1) (hp1 : h 53 24 ≤ h 53 16) (hp2 : h 53 26 ≤ h 53 24), fz_R (D + 2) mX11_isO 0 [(0, fz_r 53)] [] h (qX11_isO_g k (L + 1) h)) (ihE : ∀ (h : fz_H) (hI : fz_Iv h) (hp0 : h 53 25 = L + 1) (hp1 : h 53 24 ≤ h 53 16) (hp2 : h 53 26 ≤ h 53 24), fz_R (D + 7) mX11_isE 0 [(0, fz_r 53)] [] h (qX11_isE_g k (L + 1) h)) (h : fz_H) (hI : fz_Iv h) (hp0 : h 53 25 = L) (hp1 : h 53 24 ≤ h 53 16) (hp2 : h 53 26 ≤ h 53 24) : fz_R (D + 12) mX11_isA 0 [(0, fz_r 53)] [] h (qX11_isA_g (k + 1) L h) := by
  have hf : fz_fr [(53, 24), (53, 25), (53, 26), (73, 99999)] h h := fz_fr_rf
  have b1 : 0 ≤ h 53 25 ∧ h 53 25 ≤ 6 := hI.1 53 _
  have b2 : 0 ≤ h 53 24 ∧ h 53 24 ≤ 120 := hI.1 53 _
  have b3 : 0 ≤ h 53 16 ∧ h 53 16 ≤ 120 := hI.1 53 _
  have b4 : 0 ≤ h 53 26 ∧ h 53 26 ≤ 200 := hI.1 53 _
  refine fz_aload_n kX11_isA rfl rfl ?_
  refine fz_callV (d' := (D + 11)) (M' := mX11_isB) (As := []) (st := []) kX11_isA rfl rfl vX11_isB rfl rfl rfl rfl (Nat.le_of_ble_eq_true rfl) (Nat.le_of_ble_eq_true rfl) (by omega) (sX11_isB_g k L D hL ihO ihE h hI  (by omega) (by omega) (by omega)) (fun H5 r6 q7 o8 => ?_)
  obtain ⟨hI9, hf10, y18, rfl, p19, f11, f12, f13, f14, f15, f16, f17⟩ := q7
  clear o8
  have hf20 := fz_fr_tr hf hf10 (show fz_su [(53, 24), (53, 25), (53, 26), (73, 99999)] [(53, 24), (53, 25), (53, 26), (73, 99999)] = true from rfl)
  refine fz_if_ne (tgt := 9) kX11_isA rfl (by decide) (fun c21 => ?_) (fun c21 => ?_)
  · have hPa22 : fz_Pa h H5 := f17 (by omega)
    have lp29 : ∀ (n28 : Nat) (H25 : fz_H), fz_Iv H25 → fz_fr [(53, 24), (53, 25), (53, 26), (73, 99999)] h H25 → fz_Pa h H25 → (H25 53 25 = L) → (h 53 24 + 1 ≤ H25 53 24) → (H25 53 24 ≤ h 53 16) → (h 53 26 ≤ H25 53 26) → (H25 53 26 - h 53 26 ≤ H25 53 24 - h 53 24) → (h 53 16 - H25 53 24).toNat < n28 → fz_R (D + 12) mX11_isA 9 [(0, fz_r 53)] [] H25 (qX11_isA_g (k + 1) L h) := by
      intro n28
      induction n28 with
      | zero => intro H25 hI26 hf27 hPa24 hv32 hv33 hv34 hv35 hv36 hm31; exact absurd hm31 (by omega)
      | succ n28 ih30 =>
        intro H25 hI26 hf27 hPa24 hv32 hv33 hv34 hv35 hv36 hm31
        refine fz_aload_n kX11_isA rfl rfl ?_
        refine fz_bipush ⟨by decide, by decide⟩ kX11_isA rfl ?_
        have b37 : 0 ≤ H25 53 24 ∧ H25 53 24 ≤ 120 := hI26.1 53 _
        have b38 : 0 ≤ h 53 16 ∧ h 53 16 ≤ 120 := hI.1 53 _
        have e39 : H25 53 16 = h 53 16 := hf27 53 16 rfl
        refine fz_callV (d' := 1) (M' := mX11_is) (As := [fz_i 38]) (st := []) kX11_isA rfl rfl vX11_is rfl rfl rfl rfl (Nat.le_of_ble_eq_true rfl) (Nat.le_of_ble_eq_true rfl) (by omega) (sX11_is H25 hI26 38 (by omega) (by omega)) (fun H40 r41 q42 o43 => ?_)
        obtain ⟨hI44, hf45, y47, rfl, p48, f46⟩ := q42
        clear o43
        have hf49 := fz_fr_tr hf27 hf45 (show fz_su [(53, 24)] [(53, 24), (53, 25), (53, 26), (73, 99999)] = true from rfl)
        have k50 : H40 53 25 = L := (hf45 53 25 rfl).trans hv32
        have hPa51 : fz_Pa h H40 := fz_Pa_eq (funext fun s => hf45 73 s rfl) (hf45 53 26 rfl) hPa24
        have t52 : H40 53 26 = H25 53 26 := hf45 53 26 rfl
        refine fz_if_eq (tgt := 37) kX11_isA rfl (by decide) (fun c53 => ?_) (fun c53 => ?_)
        · refine fz_iconst ⟨by decide, by decide⟩ kX11_isA rfl ?_
          exact fz_zret kX11_isA rfl rfl (by omega) ⟨hI44, hf49, _, rfl, (by omega), (by omega), (by omega), (by omega), (by omega), (by omega), (by omega), (by first | (intro z; exfalso; omega) | (intro _; exact hPa51))⟩
        · refine fz_aload_n kX11_isA rfl rfl ?_
          have k55 := hPa51
          have b57 : 0 ≤ H40 53 25 ∧ H40 53 25 ≤ 6 := hI44.1 53 _
          have b58 : 0 ≤ H40 53 24 ∧ H40 53 24 ≤ 120 := hI44.1 53 _
          have b59 : 0 ≤ H40 53 26 ∧ H40 53 26 ≤ 200 := hI44.1 53 _
          have e60 : H40 53 16 = h 53 16 := hf49 53 16 rfl
          refine fz_callV (d' := (D + 11)) (M' := mX11_isB) (As := []) (st := []) kX11_isA rfl rfl vX11_isB rfl rfl rfl rfl (Nat.le_of_ble_eq_true rfl) (Nat.le_of_ble_eq_true rfl) (by omega) (sX11_isB_g k L D hL ihO ihE H40 hI44  (by omega) (by omega) (by omega)) (fun H61 r62 q63 o64 => ?_)
          obtain ⟨hI65, hf66, y74, rfl, p75, f67, f68, f69, f70, f71, f72, f73⟩ := q63
          clear o64
          have hf76 := fz_fr_tr hf49 hf66 (show fz_su [(53, 24), (53, 25), (53, 26), (73, 99999)] [(53, 24), (53, 25), (53, 26), (73, 99999)] = true from rfl)
          refine fz_if_ne (tgt := 27) kX11_isA rfl (by decide) (fun c77 => ?_) (fun c77 => ?_)
          · have k78 := f73 (by omega)
            refine fz_aload_n kX11_isA rfl rfl ?_
            refine fz_bipush ⟨by decide, by decide⟩ kX11_isA rfl ?_
            have b80 : 0 ≤ H61 53 26 ∧ H61 53 26 ≤ 200 := hI65.1 53 _
            refine fz_callV (d' := 0) (M' := mX11_codes) (As := [fz_i 7]) (st := []) kX11_isA rfl rfl vX11_codes rfl rfl rfl rfl (Nat.le_of_ble_eq_true rfl) (Nat.le_of_ble_eq_true rfl) (by omega) (sX11_codes H61 hI65 7 (by omega)) (fun H81 r82 q83 o84 => ?_)
            obtain ⟨hI85, hf86, y90, rfl, p91, f87, f88, f89⟩ := q83
            clear o84
            have hf92 := fz_fr_tr hf76 hf86 (show fz_su [(53, 26), (73, 99999)] [(53, 24), (53, 25), (53, 26), (73, 99999)] = true from rfl)
            have k93 : H81 53 25 = L := (hf86 53 25 rfl).trans f67
            have t94 : H81 53 24 = H61 53 24 := hf86 53 24 rfl
            refine fz_eqi (show y90 = 1 by omega) ?_
            have hPa95 : fz_Pa h H81 := fz_Pa_b k55 k78 f89 (by omega)
            refine fz_pop rfl kX11_isA rfl ?_
            refine fz_goto (tgt := 9) kX11_isA rfl (by decide) ?_
            exact ih30  H81 hI85 hf92 hPa95 (by omega) (by omega) (by omega) (by omega) (by omega) (by omega)
          · refine fz_iconst ⟨by decide, by decide⟩ kX11_isA rfl ?_
            exact fz_zret kX11_isA rfl rfl (by omega) ⟨hI65, hf76, _, rfl, (by omega), (by omega), (by omega), (by omega), (by omega), (by omega), (by omega), (by first | (intro z; exfalso; omega) | (intro _; exact lost))⟩
    exact lp29 _  H5 hI9 hf20 hPa22 (by omega) (by omega) (by omega) (by omega) (by omega) (Nat.lt_succ_self _)
  · refine fz_iconst ⟨by decide, by decide⟩ kX11_isA rfl ?_
    exact fz_zret kX11_isA rfl rfl (by omega) ⟨hI9, hf20, _, rfl, (by omega), (by omega), (by omega), (by omega), (by omega), (by omega), (by omega), (by first | (intro z; exfalso; omega) | (intro _; exact lost))⟩

set_option maxHeartbeats 1000000 in
set_option maxRecDepth 100000 in
theorem sX11_isE_g (k : Nat) (L : Int) (D : Nat) (hL : 0 ≤ L ∧ L ≤ 5) (ihO : ∀ (h : fz_H) (hI : fz_Iv h) (hp0 : h 53 25 = L + 1) (hp1 : h 53 24 ≤ h 53 16) (hp2 : h 53 26 ≤ h 53 24), fz_R (D + 2) mX11_isO 0 [(0, fz_r 53)] [] h (qX11_isO_g k (L + 1) h)) (ihE : ∀ (h : fz_H) (hI : fz_Iv h) (hp0 : h 53 25 = L + 1) (hp1 : h 53 24 ≤ h 53 16) (hp2 : h 53 26 ≤ h 53 24), fz_R (D + 7) mX11_isE 0 [(0, fz_r 53)] [] h (qX11_isE_g k (L + 1) h)) (h : fz_H) (hI : fz_Iv h) (hp0 : h 53 25 = L) (hp1 : h 53 24 ≤ h 53 16) (hp2 : h 53 26 ≤ h 53 24) : fz_R (D + 13) mX11_isE 0 [(0, fz_r 53)] [] h (qX11_isE_g (k + 1) L h) := by
  have hf : fz_fr [(53, 24), (53, 25), (53, 26), (73, 99999)] h h := fz_fr_rf
  have b1 : 0 ≤ h 53 25 ∧ h 53 25 ≤ 6 := hI.1 53 _
  have b2 : 0 ≤ h 53 24 ∧ h 53 24 ≤ 120 := hI.1 53 _
  have b3 : 0 ≤ h 53 16 ∧ h 53 16 ≤ 120 := hI.1 53 _
  have b4 : 0 ≤ h 53 26 ∧ h 53 26 ≤ 200 := hI.1 53 _
  refine fz_aload_n kX11_isE rfl rfl ?_
  refine fz_callV (d' := (D + 12)) (M' := mX11_isA) (As := []) (st := []) kX11_isE rfl rfl vX11_isA rfl rfl rfl rfl (Nat.le_of_ble_eq_true rfl) (Nat.le_of_ble_eq_true rfl) (by omega) (sX11_isA_g k L D hL ihO ihE h hI  (by omega) (by omega) (by omega)) (fun H5 r6 q7 o8 => ?_)
  obtain ⟨hI9, hf10, y18, rfl, p19, f11, f12, f13, f14, f15, f16, f17⟩ := q7
  clear o8
  have hf20 := fz_fr_tr hf hf10 (show fz_su [(53, 24), (53, 25), (53, 26), (73, 99999)] [(53, 24), (53, 25), (53, 26), (73, 99999)] = true from rfl)
  refine fz_if_ne (tgt := 9) kX11_isE rfl (by decide) (fun c21 => ?_) (fun c21 => ?_)
  · have hPa22 : fz_Pa h H5 := f17 (by omega)
    have lp29 : ∀ (n28 : Nat) (H25 : fz_H), fz_Iv H25 → fz_fr [(53, 24), (53, 25), (53, 26), (73, 99999)] h H25 → fz_Pa h H25 → (H25 53 25 = L) → (h 53 24 + 1 ≤ H25 53 24) → (H25 53 24 ≤ h 53 16) → (h 53 26 ≤ H25 53 26) → (H25 53 26 - h 53 26 ≤ H25 53 24 - h 53 24) → (h 53 16 - H25 53 24).toNat < n28 → fz_R (D + 13) mX11_isE 9 [(0, fz_r 53)] [] H25 (qX11_isE_g (k + 1) L h) := by
      intro n28
      induction n28 with
      | zero => intro H25 hI26 hf27 hPa24 hv32 hv33 hv34 hv35 hv36 hm31; exact absurd hm31 (by omega)
      | succ n28 ih30 =>
        intro H25 hI26 hf27 hPa24 hv32 hv33 hv34 hv35 hv36 hm31
        refine fz_aload_n kX11_isE rfl rfl ?_
        refine fz_bipush ⟨by decide, by decide⟩ kX11_isE rfl ?_
        have b37 : 0 ≤ H25 53 24 ∧ H25 53 24 ≤ 120 := hI26.1 53 _
        have b38 : 0 ≤ h 53 16 ∧ h 53 16 ≤ 120 := hI.1 53 _
        have e39 : H25 53 16 = h 53 16 := hf27 53 16 rfl
        refine fz_callV (d' := 1) (M' := mX11_is) (As := [fz_i 124]) (st := []) kX11_isE rfl rfl vX11_is rfl rfl rfl rfl (Nat.le_of_ble_eq_true rfl) (Nat.le_of_ble_eq_true rfl) (by omega) (sX11_is H25 hI26 124 (by omega) (by omega)) (fun H40 r41 q42 o43 => ?_)
        obtain ⟨hI44, hf45, y47, rfl, p48, f46⟩ := q42
        clear o43
        have hf49 := fz_fr_tr hf27 hf45 (show fz_su [(53, 24)] [(53, 24), (53, 25), (53, 26), (73, 99999)] = true from rfl)
        have k50 : H40 53 25 = L := (hf45 53 25 rfl).trans hv32
        have hPa51 : fz_Pa h H40 := fz_Pa_eq (funext fun s => hf45 73 s rfl) (hf45 53 26 rfl) hPa24
        have t52 : H40 53 26 = H25 53 26 := hf45 53 26 rfl
        refine fz_if_eq (tgt := 37) kX11_isE rfl (by decide) (fun c53 => ?_) (fun c53 => ?_)
        · refine fz_iconst ⟨by decide, by decide⟩ kX11_isE rfl ?_
          exact fz_zret kX11_isE rfl rfl (by omega) ⟨hI44, hf49, _, rfl, (by omega), (by omega), (by omega), (by omega), (by omega), (by omega), (by omega), (by first | (intro z; exfalso; omega) | (intro _; exact hPa51))⟩
        · refine fz_aload_n kX11_isE rfl rfl ?_
          have k55 := hPa51
          have b57 : 0 ≤ H40 53 25 ∧ H40 53 25 ≤ 6 := hI44.1 53 _
          have b58 : 0 ≤ H40 53 24 ∧ H40 53 24 ≤ 120 := hI44.1 53 _
          have b59 : 0 ≤ H40 53 26 ∧ H40 53 26 ≤ 200 := hI44.1 53 _
          have e60 : H40 53 16 = h 53 16 := hf49 53 16 rfl
          refine fz_callV (d' := (D + 12)) (M' := mX11_isA) (As := []) (st := []) kX11_isE rfl rfl vX11_isA rfl rfl rfl rfl (Nat.le_of_ble_eq_true rfl) (Nat.le_of_ble_eq_true rfl) (by omega) (sX11_isA_g k L D hL ihO ihE H40 hI44  (by omega) (by omega) (by omega)) (fun H61 r62 q63 o64 => ?_)
          obtain ⟨hI65, hf66, y74, rfl, p75, f67, f68, f69, f70, f71, f72, f73⟩ := q63
          clear o64
          have hf76 := fz_fr_tr hf49 hf66 (show fz_su [(53, 24), (53, 25), (53, 26), (73, 99999)] [(53, 24), (53, 25), (53, 26), (73, 99999)] = true from rfl)
          refine fz_if_ne (tgt := 27) kX11_isE rfl (by decide) (fun c77 => ?_) (fun c77 => ?_)
          · have k78 := f73 (by omega)
            refine fz_aload_n kX11_isE rfl rfl ?_
            refine fz_bipush ⟨by decide, by decide⟩ kX11_isE rfl ?_
            have b80 : 0 ≤ H61 53 26 ∧ H61 53 26 ≤ 200 := hI65.1 53 _
            refine fz_callV (d' := 0) (M' := mX11_codes) (As := [fz_i 6]) (st := []) kX11_isE rfl rfl vX11_codes rfl rfl rfl rfl (Nat.le_of_ble_eq_true rfl) (Nat.le_of_ble_eq_true rfl) (by omega) (sX11_codes H61 hI65 6 (by omega)) (fun H81 r82 q83 o84 => ?_)
            obtain ⟨hI85, hf86, y90, rfl, p91, f87, f88, f89⟩ := q83
            clear o84
            have hf92 := fz_fr_tr hf76 hf86 (show fz_su [(53, 26), (73, 99999)] [(53, 24), (53, 25), (53, 26), (73, 99999)] = true from rfl)
            have k93 : H81 53 25 = L := (hf86 53 25 rfl).trans f67
            have t94 : H81 53 24 = H61 53 24 := hf86 53 24 rfl
            refine fz_eqi (show y90 = 1 by omega) ?_
            have hPa95 : fz_Pa h H81 := fz_Pa_b k55 k78 f89 (by omega)
            refine fz_pop rfl kX11_isE rfl ?_
            refine fz_goto (tgt := 9) kX11_isE rfl (by decide) ?_
            exact ih30  H81 hI85 hf92 hPa95 (by omega) (by omega) (by omega) (by omega) (by omega) (by omega)
          · refine fz_iconst ⟨by decide, by decide⟩ kX11_isE rfl ?_
            exact fz_zret kX11_isE rfl rfl (by omega) ⟨hI65, hf76, _, rfl, (by omega), (by omega), (by omega), (by omega), (by omega), (by omega), (by omega), (by first | (intro z; exfalso; omega) | (intro _; exact lost))⟩
    exact lp29 _  H5 hI9 hf20 hPa22 (by omega) (by omega) (by omega) (by omega) (by omega) (Nat.lt_succ_self _)
  · refine fz_iconst ⟨by decide, by decide⟩ kX11_isE rfl ?_
    exact fz_zret kX11_isE rfl rfl (by omega) ⟨hI9, hf20, _, rfl, (by omega), (by omega), (by omega), (by omega), (by omega), (by omega), (by omega), (by first | (intro z; exfalso; omega) | (intro _; exact lost))⟩

abbrev qX11_isO_5 (h : fz_H) : fz_H → Option fz_V → Prop := fun h' r0 => fz_Iv h' ∧ fz_fr [(53, 24), (53, 25), (53, 26), (73, 99999)] h h' ∧ ∃ r : Int, r0 = some (fz_i r) ∧ (r = 0 ∨ r = 1) ∧ (h' 53 25 = 5) ∧ (h 53 24 ≤ h' 53 24) ∧ (h' 53 24 ≤ h 53 16) ∧ (h 53 26 ≤ h' 53 26) ∧ (h' 53 26 - h 53 26 ≤ h' 53 24 - h 53 24) ∧ (r = 1 → h 53 24 + 1 ≤ h' 53 24) ∧ (r = 1 → fz_Pa h h')
theorem sX11_isO_5 (h : fz_H) (hI : fz_Iv h) (hp0 : h 53 25 = 5) (hp1 : h 53 24 ≤ h 53 16) (hp2 : h 53 26 ≤ h 53 24) : fz_R 8 mX11_isO 0 [(0, fz_r 53)] [] h (qX11_isO_5 h) := sX11_isO_g 0 5 0 ⟨by decide, by decide⟩ (fun h hI hp0 hp1 hp2 => sX11_isO_6 h hI (by omega) hp1 hp2) (fun h hI hp0 hp1 hp2 => sX11_isE_6 h hI (by omega) hp1 hp2) h hI hp0 hp1 hp2
abbrev qX11_isP_5 (h : fz_H) : fz_H → Option fz_V → Prop := fun h' r0 => fz_Iv h' ∧ fz_fr [(53, 24), (53, 25), (53, 26), (73, 99999)] h h' ∧ ∃ r : Int, r0 = some (fz_i r) ∧ (r = 0 ∨ r = 1) ∧ (h' 53 25 = 5) ∧ (h 53 24 ≤ h' 53 24) ∧ (h' 53 24 ≤ h 53 16) ∧ (h 53 26 ≤ h' 53 26) ∧ (h' 53 26 - h 53 26 ≤ h' 53 24 - h 53 24) ∧ (r = 1 → h 53 24 + 1 ≤ h' 53 24) ∧ (r = 1 → fz_Pa h h')
theorem sX11_isP_5 (h : fz_H) (hI : fz_Iv h) (hp0 : h 53 25 = 5) (hp1 : h 53 24 ≤ h 53 16) (hp2 : h 53 26 ≤ h 53 24) : fz_R 9 mX11_isP 0 [(0, fz_r 53)] [] h (qX11_isP_5 h) := sX11_isP_g 0 5 0 ⟨by decide, by decide⟩ (fun h hI hp0 hp1 hp2 => sX11_isO_6 h hI (by omega) hp1 hp2) (fun h hI hp0 hp1 hp2 => sX11_isE_6 h hI (by omega) hp1 hp2) h hI hp0 hp1 hp2
abbrev qX11_isS_5 (h : fz_H) : fz_H → Option fz_V → Prop := fun h' r0 => fz_Iv h' ∧ fz_fr [(53, 24), (53, 25), (53, 26), (73, 99999)] h h' ∧ ∃ r : Int, r0 = some (fz_i r) ∧ (r = 0 ∨ r = 1) ∧ (h' 53 25 = 5) ∧ (h 53 24 ≤ h' 53 24) ∧ (h' 53 24 ≤ h 53 16) ∧ (h 53 26 ≤ h' 53 26) ∧ (h' 53 26 - h 53 26 ≤ h' 53 24 - h 53 24) ∧ (r = 1 → h 53 24 + 1 ≤ h' 53 24) ∧ (r = 1 → fz_Pa h h')
theorem sX11_isS_5 (h : fz_H) (hI : fz_Iv h) (hp0 : h 53 25 = 5) (hp1 : h 53 24 ≤ h 53 16) (hp2 : h 53 26 ≤ h 53 24) : fz_R 10 mX11_isS 0 [(0, fz_r 53)] [] h (qX11_isS_5 h) := sX11_isS_g 0 5 0 ⟨by decide, by decide⟩ (fun h hI hp0 hp1 hp2 => sX11_isO_6 h hI (by omega) hp1 hp2) (fun h hI hp0 hp1 hp2 => sX11_isE_6 h hI (by omega) hp1 hp2) h hI hp0 hp1 hp2
abbrev qX11_isB_5 (h : fz_H) : fz_H → Option fz_V → Prop := fun h' r0 => fz_Iv h' ∧ fz_fr [(53, 24), (53, 25), (53, 26), (73, 99999)] h h' ∧ ∃ r : Int, r0 = some (fz_i r) ∧ (r = 0 ∨ r = 1) ∧ (h' 53 25 = 5) ∧ (h 53 24 ≤ h' 53 24) ∧ (h' 53 24 ≤ h 53 16) ∧ (h 53 26 ≤ h' 53 26) ∧ (h' 53 26 - h 53 26 ≤ h' 53 24 - h 53 24) ∧ (r = 1 → h 53 24 + 1 ≤ h' 53 24) ∧ (r = 1 → fz_Pa h h')
theorem sX11_isB_5 (h : fz_H) (hI : fz_Iv h) (hp0 : h 53 25 = 5) (hp1 : h 53 24 ≤ h 53 16) (hp2 : h 53 26 ≤ h 53 24) : fz_R 11 mX11_isB 0 [(0, fz_r 53)] [] h (qX11_isB_5 h) := sX11_isB_g 0 5 0 ⟨by decide, by decide⟩ (fun h hI hp0 hp1 hp2 => sX11_isO_6 h hI (by omega) hp1 hp2) (fun h hI hp0 hp1 hp2 => sX11_isE_6 h hI (by omega) hp1 hp2) h hI hp0 hp1 hp2
abbrev qX11_isA_5 (h : fz_H) : fz_H → Option fz_V → Prop := fun h' r0 => fz_Iv h' ∧ fz_fr [(53, 24), (53, 25), (53, 26), (73, 99999)] h h' ∧ ∃ r : Int, r0 = some (fz_i r) ∧ (r = 0 ∨ r = 1) ∧ (h' 53 25 = 5) ∧ (h 53 24 ≤ h' 53 24) ∧ (h' 53 24 ≤ h 53 16) ∧ (h 53 26 ≤ h' 53 26) ∧ (h' 53 26 - h 53 26 ≤ h' 53 24 - h 53 24) ∧ (r = 1 → h 53 24 + 1 ≤ h' 53 24) ∧ (r = 1 → fz_Pa h h')
theorem sX11_isA_5 (h : fz_H) (hI : fz_Iv h) (hp0 : h 53 25 = 5) (hp1 : h 53 24 ≤ h 53 16) (hp2 : h 53 26 ≤ h 53 24) : fz_R 12 mX11_isA 0 [(0, fz_r 53)] [] h (qX11_isA_5 h) := sX11_isA_g 0 5 0 ⟨by decide, by decide⟩ (fun h hI hp0 hp1 hp2 => sX11_isO_6 h hI (by omega) hp1 hp2) (fun h hI hp0 hp1 hp2 => sX11_isE_6 h hI (by omega) hp1 hp2) h hI hp0 hp1 hp2
abbrev qX11_isE_5 (h : fz_H) : fz_H → Option fz_V → Prop := fun h' r0 => fz_Iv h' ∧ fz_fr [(53, 24), (53, 25), (53, 26), (73, 99999)] h h' ∧ ∃ r : Int, r0 = some (fz_i r) ∧ (r = 0 ∨ r = 1) ∧ (h' 53 25 = 5) ∧ (h 53 24 ≤ h' 53 24) ∧ (h' 53 24 ≤ h 53 16) ∧ (h 53 26 ≤ h' 53 26) ∧ (h' 53 26 - h 53 26 ≤ h' 53 24 - h 53 24) ∧ (r = 1 → h 53 24 + 1 ≤ h' 53 24) ∧ (r = 1 → fz_Pa h h')
theorem sX11_isE_5 (h : fz_H) (hI : fz_Iv h) (hp0 : h 53 25 = 5) (hp1 : h 53 24 ≤ h 53 16) (hp2 : h 53 26 ≤ h 53 24) : fz_R 13 mX11_isE 0 [(0, fz_r 53)] [] h (qX11_isE_5 h) := sX11_isE_g 0 5 0 ⟨by decide, by decide⟩ (fun h hI hp0 hp1 hp2 => sX11_isO_6 h hI (by omega) hp1 hp2) (fun h hI hp0 hp1 hp2 => sX11_isE_6 h hI (by omega) hp1 hp2) h hI hp0 hp1 hp2
abbrev qX11_isO_4 (h : fz_H) : fz_H → Option fz_V → Prop := fun h' r0 => fz_Iv h' ∧ fz_fr [(53, 24), (53, 25), (53, 26), (73, 99999)] h h' ∧ ∃ r : Int, r0 = some (fz_i r) ∧ (r = 0 ∨ r = 1) ∧ (h' 53 25 = 4) ∧ (h 53 24 ≤ h' 53 24) ∧ (h' 53 24 ≤ h 53 16) ∧ (h 53 26 ≤ h' 53 26) ∧ (h' 53 26 - h 53 26 ≤ h' 53 24 - h 53 24) ∧ (r = 1 → h 53 24 + 1 ≤ h' 53 24) ∧ (r = 1 → fz_Pa h h')
theorem sX11_isO_4 (h : fz_H) (hI : fz_Iv h) (hp0 : h 53 25 = 4) (hp1 : h 53 24 ≤ h 53 16) (hp2 : h 53 26 ≤ h 53 24) : fz_R 14 mX11_isO 0 [(0, fz_r 53)] [] h (qX11_isO_4 h) := sX11_isO_g 1 4 6 ⟨by decide, by decide⟩ (fun h hI hp0 hp1 hp2 => sX11_isO_5 h hI (by omega) hp1 hp2) (fun h hI hp0 hp1 hp2 => sX11_isE_5 h hI (by omega) hp1 hp2) h hI hp0 hp1 hp2
abbrev qX11_isP_4 (h : fz_H) : fz_H → Option fz_V → Prop := fun h' r0 => fz_Iv h' ∧ fz_fr [(53, 24), (53, 25), (53, 26), (73, 99999)] h h' ∧ ∃ r : Int, r0 = some (fz_i r) ∧ (r = 0 ∨ r = 1) ∧ (h' 53 25 = 4) ∧ (h 53 24 ≤ h' 53 24) ∧ (h' 53 24 ≤ h 53 16) ∧ (h 53 26 ≤ h' 53 26) ∧ (h' 53 26 - h 53 26 ≤ h' 53 24 - h 53 24) ∧ (r = 1 → h 53 24 + 1 ≤ h' 53 24) ∧ (r = 1 → fz_Pa h h')
theorem sX11_isP_4 (h : fz_H) (hI : fz_Iv h) (hp0 : h 53 25 = 4) (hp1 : h 53 24 ≤ h 53 16) (hp2 : h 53 26 ≤ h 53 24) : fz_R 15 mX11_isP 0 [(0, fz_r 53)] [] h (qX11_isP_4 h) := sX11_isP_g 1 4 6 ⟨by decide, by decide⟩ (fun h hI hp0 hp1 hp2 => sX11_isO_5 h hI (by omega) hp1 hp2) (fun h hI hp0 hp1 hp2 => sX11_isE_5 h hI (by omega) hp1 hp2) h hI hp0 hp1 hp2
abbrev qX11_isS_4 (h : fz_H) : fz_H → Option fz_V → Prop := fun h' r0 => fz_Iv h' ∧ fz_fr [(53, 24), (53, 25), (53, 26), (73, 99999)] h h' ∧ ∃ r : Int, r0 = some (fz_i r) ∧ (r = 0 ∨ r = 1) ∧ (h' 53 25 = 4) ∧ (h 53 24 ≤ h' 53 24) ∧ (h' 53 24 ≤ h 53 16) ∧ (h 53 26 ≤ h' 53 26) ∧ (h' 53 26 - h 53 26 ≤ h' 53 24 - h 53 24) ∧ (r = 1 → h 53 24 + 1 ≤ h' 53 24) ∧ (r = 1 → fz_Pa h h')
theorem sX11_isS_4 (h : fz_H) (hI : fz_Iv h) (hp0 : h 53 25 = 4) (hp1 : h 53 24 ≤ h 53 16) (hp2 : h 53 26 ≤ h 53 24) : fz_R 16 mX11_isS 0 [(0, fz_r 53)] [] h (qX11_isS_4 h) := sX11_isS_g 1 4 6 ⟨by decide, by decide⟩ (fun h hI hp0 hp1 hp2 => sX11_isO_5 h hI (by omega) hp1 hp2) (fun h hI hp0 hp1 hp2 => sX11_isE_5 h hI (by omega) hp1 hp2) h hI hp0 hp1 hp2
abbrev qX11_isB_4 (h : fz_H) : fz_H → Option fz_V → Prop := fun h' r0 => fz_Iv h' ∧ fz_fr [(53, 24), (53, 25), (53, 26), (73, 99999)] h h' ∧ ∃ r : Int, r0 = some (fz_i r) ∧ (r = 0 ∨ r = 1) ∧ (h' 53 25 = 4) ∧ (h 53 24 ≤ h' 53 24) ∧ (h' 53 24 ≤ h 53 16) ∧ (h 53 26 ≤ h' 53 26) ∧ (h' 53 26 - h 53 26 ≤ h' 53 24 - h 53 24) ∧ (r = 1 → h 53 24 + 1 ≤ h' 53 24) ∧ (r = 1 → fz_Pa h h')
theorem sX11_isB_4 (h : fz_H) (hI : fz_Iv h) (hp0 : h 53 25 = 4) (hp1 : h 53 24 ≤ h 53 16) (hp2 : h 53 26 ≤ h 53 24) : fz_R 17 mX11_isB 0 [(0, fz_r 53)] [] h (qX11_isB_4 h) := sX11_isB_g 1 4 6 ⟨by decide, by decide⟩ (fun h hI hp0 hp1 hp2 => sX11_isO_5 h hI (by omega) hp1 hp2) (fun h hI hp0 hp1 hp2 => sX11_isE_5 h hI (by omega) hp1 hp2) h hI hp0 hp1 hp2
abbrev qX11_isA_4 (h : fz_H) : fz_H → Option fz_V → Prop := fun h' r0 => fz_Iv h' ∧ fz_fr [(53, 24), (53, 25), (53, 26), (73, 99999)] h h' ∧ ∃ r : Int, r0 = some (fz_i r) ∧ (r = 0 ∨ r = 1) ∧ (h' 53 25 = 4) ∧ (h 53 24 ≤ h' 53 24) ∧ (h' 53 24 ≤ h 53 16) ∧ (h 53 26 ≤ h' 53 26) ∧ (h' 53 26 - h 53 26 ≤ h' 53 24 - h 53 24) ∧ (r = 1 → h 53 24 + 1 ≤ h' 53 24) ∧ (r = 1 → fz_Pa h h')
theorem sX11_isA_4 (h : fz_H) (hI : fz_Iv h) (hp0 : h 53 25 = 4) (hp1 : h 53 24 ≤ h 53 16) (hp2 : h 53 26 ≤ h 53 24) : fz_R 18 mX11_isA 0 [(0, fz_r 53)] [] h (qX11_isA_4 h) := sX11_isA_g 1 4 6 ⟨by decide, by decide⟩ (fun h hI hp0 hp1 hp2 => sX11_isO_5 h hI (by omega) hp1 hp2) (fun h hI hp0 hp1 hp2 => sX11_isE_5 h hI (by omega) hp1 hp2) h hI hp0 hp1 hp2
abbrev qX11_isE_4 (h : fz_H) : fz_H → Option fz_V → Prop := fun h' r0 => fz_Iv h' ∧ fz_fr [(53, 24), (53, 25), (53, 26), (73, 99999)] h h' ∧ ∃ r : Int, r0 = some (fz_i r) ∧ (r = 0 ∨ r = 1) ∧ (h' 53 25 = 4) ∧ (h 53 24 ≤ h' 53 24) ∧ (h' 53 24 ≤ h 53 16) ∧ (h 53 26 ≤ h' 53 26) ∧ (h' 53 26 - h 53 26 ≤ h' 53 24 - h 53 24) ∧ (r = 1 → h 53 24 + 1 ≤ h' 53 24) ∧ (r = 1 → fz_Pa h h')
theorem sX11_isE_4 (h : fz_H) (hI : fz_Iv h) (hp0 : h 53 25 = 4) (hp1 : h 53 24 ≤ h 53 16) (hp2 : h 53 26 ≤ h 53 24) : fz_R 19 mX11_isE 0 [(0, fz_r 53)] [] h (qX11_isE_4 h) := sX11_isE_g 1 4 6 ⟨by decide, by decide⟩ (fun h hI hp0 hp1 hp2 => sX11_isO_5 h hI (by omega) hp1 hp2) (fun h hI hp0 hp1 hp2 => sX11_isE_5 h hI (by omega) hp1 hp2) h hI hp0 hp1 hp2
abbrev qX11_isO_3 (h : fz_H) : fz_H → Option fz_V → Prop := fun h' r0 => fz_Iv h' ∧ fz_fr [(53, 24), (53, 25), (53, 26), (73, 99999)] h h' ∧ ∃ r : Int, r0 = some (fz_i r) ∧ (r = 0 ∨ r = 1) ∧ (h' 53 25 = 3) ∧ (h 53 24 ≤ h' 53 24) ∧ (h' 53 24 ≤ h 53 16) ∧ (h 53 26 ≤ h' 53 26) ∧ (h' 53 26 - h 53 26 ≤ h' 53 24 - h 53 24) ∧ (r = 1 → h 53 24 + 1 ≤ h' 53 24) ∧ (r = 1 → fz_Pa h h')
theorem sX11_isO_3 (h : fz_H) (hI : fz_Iv h) (hp0 : h 53 25 = 3) (hp1 : h 53 24 ≤ h 53 16) (hp2 : h 53 26 ≤ h 53 24) : fz_R 20 mX11_isO 0 [(0, fz_r 53)] [] h (qX11_isO_3 h) := sX11_isO_g 2 3 12 ⟨by decide, by decide⟩ (fun h hI hp0 hp1 hp2 => sX11_isO_4 h hI (by omega) hp1 hp2) (fun h hI hp0 hp1 hp2 => sX11_isE_4 h hI (by omega) hp1 hp2) h hI hp0 hp1 hp2
abbrev qX11_isP_3 (h : fz_H) : fz_H → Option fz_V → Prop := fun h' r0 => fz_Iv h' ∧ fz_fr [(53, 24), (53, 25), (53, 26), (73, 99999)] h h' ∧ ∃ r : Int, r0 = some (fz_i r) ∧ (r = 0 ∨ r = 1) ∧ (h' 53 25 = 3) ∧ (h 53 24 ≤ h' 53 24) ∧ (h' 53 24 ≤ h 53 16) ∧ (h 53 26 ≤ h' 53 26) ∧ (h' 53 26 - h 53 26 ≤ h' 53 24 - h 53 24) ∧ (r = 1 → h 53 24 + 1 ≤ h' 53 24) ∧ (r = 1 → fz_Pa h h')
theorem sX11_isP_3 (h : fz_H) (hI : fz_Iv h) (hp0 : h 53 25 = 3) (hp1 : h 53 24 ≤ h 53 16) (hp2 : h 53 26 ≤ h 53 24) : fz_R 21 mX11_isP 0 [(0, fz_r 53)] [] h (qX11_isP_3 h) := sX11_isP_g 2 3 12 ⟨by decide, by decide⟩ (fun h hI hp0 hp1 hp2 => sX11_isO_4 h hI (by omega) hp1 hp2) (fun h hI hp0 hp1 hp2 => sX11_isE_4 h hI (by omega) hp1 hp2) h hI hp0 hp1 hp2
abbrev qX11_isS_3 (h : fz_H) : fz_H → Option fz_V → Prop := fun h' r0 => fz_Iv h' ∧ fz_fr [(53, 24), (53, 25), (53, 26), (73, 99999)] h h' ∧ ∃ r : Int, r0 = some (fz_i r) ∧ (r = 0 ∨ r = 1) ∧ (h' 53 25 = 3) ∧ (h 53 24 ≤ h' 53 24) ∧ (h' 53 24 ≤ h 53 16) ∧ (h 53 26 ≤ h' 53 26) ∧ (h' 53 26 - h 53 26 ≤ h' 53 24 - h 53 24) ∧ (r = 1 → h 53 24 + 1 ≤ h' 53 24) ∧ (r = 1 → fz_Pa h h')
theorem sX11_isS_3 (h : fz_H) (hI : fz_Iv h) (hp0 : h 53 25 = 3) (hp1 : h 53 24 ≤ h 53 16) (hp2 : h 53 26 ≤ h 53 24) : fz_R 22 mX11_isS 0 [(0, fz_r 53)] [] h (qX11_isS_3 h) := sX11_isS_g 2 3 12 ⟨by decide, by decide⟩ (fun h hI hp0 hp1 hp2 => sX11_isO_4 h hI (by omega) hp1 hp2) (fun h hI hp0 hp1 hp2 => sX11_isE_4 h hI (by omega) hp1 hp2) h hI hp0 hp1 hp2
abbrev qX11_isB_3 (h : fz_H) : fz_H → Option fz_V → Prop := fun h' r0 => fz_Iv h' ∧ fz_fr [(53, 24), (53, 25), (53, 26), (73, 99999)] h h' ∧ ∃ r : Int, r0 = some (fz_i r) ∧ (r = 0 ∨ r = 1) ∧ (h' 53 25 = 3) ∧ (h 53 24 ≤ h' 53 24) ∧ (h' 53 24 ≤ h 53 16) ∧ (h 53 26 ≤ h' 53 26) ∧ (h' 53 26 - h 53 26 ≤ h' 53 24 - h 53 24) ∧ (r = 1 → h 53 24 + 1 ≤ h' 53 24) ∧ (r = 1 → fz_Pa h h')
theorem sX11_isB_3 (h : fz_H) (hI : fz_Iv h) (hp0 : h 53 25 = 3) (hp1 : h 53 24 ≤ h 53 16) (hp2 : h 53 26 ≤ h 53 24) : fz_R 23 mX11_isB 0 [(0, fz_r 53)] [] h (qX11_isB_3 h) := sX11_isB_g 2 3 12 ⟨by decide, by decide⟩ (fun h hI hp0 hp1 hp2 => sX11_isO_4 h hI (by omega) hp1 hp2) (fun h hI hp0 hp1 hp2 => sX11_isE_4 h hI (by omega) hp1 hp2) h hI hp0 hp1 hp2
abbrev qX11_isA_3 (h : fz_H) : fz_H → Option fz_V → Prop := fun h' r0 => fz_Iv h' ∧ fz_fr [(53, 24), (53, 25), (53, 26), (73, 99999)] h h' ∧ ∃ r : Int, r0 = some (fz_i r) ∧ (r = 0 ∨ r = 1) ∧ (h' 53 25 = 3) ∧ (h 53 24 ≤ h' 53 24) ∧ (h' 53 24 ≤ h 53 16) ∧ (h 53 26 ≤ h' 53 26) ∧ (h' 53 26 - h 53 26 ≤ h' 53 24 - h 53 24) ∧ (r = 1 → h 53 24 + 1 ≤ h' 53 24) ∧ (r = 1 → fz_Pa h h')
theorem sX11_isA_3 (h : fz_H) (hI : fz_Iv h) (hp0 : h 53 25 = 3) (hp1 : h 53 24 ≤ h 53 16) (hp2 : h 53 26 ≤ h 53 24) : fz_R 24 mX11_isA 0 [(0, fz_r 53)] [] h (qX11_isA_3 h) := sX11_isA_g 2 3 12 ⟨by decide, by decide⟩ (fun h hI hp0 hp1 hp2 => sX11_isO_4 h hI (by omega) hp1 hp2) (fun h hI hp0 hp1 hp2 => sX11_isE_4 h hI (by omega) hp1 hp2) h hI hp0 hp1 hp2
abbrev qX11_isE_3 (h : fz_H) : fz_H → Option fz_V → Prop := fun h' r0 => fz_Iv h' ∧ fz_fr [(53, 24), (53, 25), (53, 26), (73, 99999)] h h' ∧ ∃ r : Int, r0 = some (fz_i r) ∧ (r = 0 ∨ r = 1) ∧ (h' 53 25 = 3) ∧ (h 53 24 ≤ h' 53 24) ∧ (h' 53 24 ≤ h 53 16) ∧ (h 53 26 ≤ h' 53 26) ∧ (h' 53 26 - h 53 26 ≤ h' 53 24 - h 53 24) ∧ (r = 1 → h 53 24 + 1 ≤ h' 53 24) ∧ (r = 1 → fz_Pa h h')
theorem sX11_isE_3 (h : fz_H) (hI : fz_Iv h) (hp0 : h 53 25 = 3) (hp1 : h 53 24 ≤ h 53 16) (hp2 : h 53 26 ≤ h 53 24) : fz_R 25 mX11_isE 0 [(0, fz_r 53)] [] h (qX11_isE_3 h) := sX11_isE_g 2 3 12 ⟨by decide, by decide⟩ (fun h hI hp0 hp1 hp2 => sX11_isO_4 h hI (by omega) hp1 hp2) (fun h hI hp0 hp1 hp2 => sX11_isE_4 h hI (by omega) hp1 hp2) h hI hp0 hp1 hp2
abbrev qX11_isO_2 (h : fz_H) : fz_H → Option fz_V → Prop := fun h' r0 => fz_Iv h' ∧ fz_fr [(53, 24), (53, 25), (53, 26), (73, 99999)] h h' ∧ ∃ r : Int, r0 = some (fz_i r) ∧ (r = 0 ∨ r = 1) ∧ (h' 53 25 = 2) ∧ (h 53 24 ≤ h' 53 24) ∧ (h' 53 24 ≤ h 53 16) ∧ (h 53 26 ≤ h' 53 26) ∧ (h' 53 26 - h 53 26 ≤ h' 53 24 - h 53 24) ∧ (r = 1 → h 53 24 + 1 ≤ h' 53 24) ∧ (r = 1 → fz_Pa h h')
theorem sX11_isO_2 (h : fz_H) (hI : fz_Iv h) (hp0 : h 53 25 = 2) (hp1 : h 53 24 ≤ h 53 16) (hp2 : h 53 26 ≤ h 53 24) : fz_R 26 mX11_isO 0 [(0, fz_r 53)] [] h (qX11_isO_2 h) := sX11_isO_g 3 2 18 ⟨by decide, by decide⟩ (fun h hI hp0 hp1 hp2 => sX11_isO_3 h hI (by omega) hp1 hp2) (fun h hI hp0 hp1 hp2 => sX11_isE_3 h hI (by omega) hp1 hp2) h hI hp0 hp1 hp2
abbrev qX11_isP_2 (h : fz_H) : fz_H → Option fz_V → Prop := fun h' r0 => fz_Iv h' ∧ fz_fr [(53, 24), (53, 25), (53, 26), (73, 99999)] h h' ∧ ∃ r : Int, r0 = some (fz_i r) ∧ (r = 0 ∨ r = 1) ∧ (h' 53 25 = 2) ∧ (h 53 24 ≤ h' 53 24) ∧ (h' 53 24 ≤ h 53 16) ∧ (h 53 26 ≤ h' 53 26) ∧ (h' 53 26 - h 53 26 ≤ h' 53 24 - h 53 24) ∧ (r = 1 → h 53 24 + 1 ≤ h' 53 24) ∧ (r = 1 → fz_Pa h h')
theorem sX11_isP_2 (h : fz_H) (hI : fz_Iv h) (hp0 : h 53 25 = 2) (hp1 : h 53 24 ≤ h 53 16) (hp2 : h 53 26 ≤ h 53 24) : fz_R 27 mX11_isP 0 [(0, fz_r 53)] [] h (qX11_isP_2 h) := sX11_isP_g 3 2 18 ⟨by decide, by decide⟩ (fun h hI hp0 hp1 hp2 => sX11_isO_3 h hI (by omega) hp1 hp2) (fun h hI hp0 hp1 hp2 => sX11_isE_3 h hI (by omega) hp1 hp2) h hI hp0 hp1 hp2
abbrev qX11_isS_2 (h : fz_H) : fz_H → Option fz_V → Prop := fun h' r0 => fz_Iv h' ∧ fz_fr [(53, 24), (53, 25), (53, 26), (73, 99999)] h h' ∧ ∃ r : Int, r0 = some (fz_i r) ∧ (r = 0 ∨ r = 1) ∧ (h' 53 25 = 2) ∧ (h 53 24 ≤ h' 53 24) ∧ (h' 53 24 ≤ h 53 16) ∧ (h 53 26 ≤ h' 53 26) ∧ (h' 53 26 - h 53 26 ≤ h' 53 24 - h 53 24) ∧ (r = 1 → h 53 24 + 1 ≤ h' 53 24) ∧ (r = 1 → fz_Pa h h')
theorem sX11_isS_2 (h : fz_H) (hI : fz_Iv h) (hp0 : h 53 25 = 2) (hp1 : h 53 24 ≤ h 53 16) (hp2 : h 53 26 ≤ h 53 24) : fz_R 28 mX11_isS 0 [(0, fz_r 53)] [] h (qX11_isS_2 h) := sX11_isS_g 3 2 18 ⟨by decide, by decide⟩ (fun h hI hp0 hp1 hp2 => sX11_isO_3 h hI (by omega) hp1 hp2) (fun h hI hp0 hp1 hp2 => sX11_isE_3 h hI (by omega) hp1 hp2) h hI hp0 hp1 hp2
abbrev qX11_isB_2 (h : fz_H) : fz_H → Option fz_V → Prop := fun h' r0 => fz_Iv h' ∧ fz_fr [(53, 24), (53, 25), (53, 26), (73, 99999)] h h' ∧ ∃ r : Int, r0 = some (fz_i r) ∧ (r = 0 ∨ r = 1) ∧ (h' 53 25 = 2) ∧ (h 53 24 ≤ h' 53 24) ∧ (h' 53 24 ≤ h 53 16) ∧ (h 53 26 ≤ h' 53 26) ∧ (h' 53 26 - h 53 26 ≤ h' 53 24 - h 53 24) ∧ (r = 1 → h 53 24 + 1 ≤ h' 53 24) ∧ (r = 1 → fz_Pa h h')
theorem sX11_isB_2 (h : fz_H) (hI : fz_Iv h) (hp0 : h 53 25 = 2) (hp1 : h 53 24 ≤ h 53 16) (hp2 : h 53 26 ≤ h 53 24) : fz_R 29 mX11_isB 0 [(0, fz_r 53)] [] h (qX11_isB_2 h) := sX11_isB_g 3 2 18 ⟨by decide, by decide⟩ (fun h hI hp0 hp1 hp2 => sX11_isO_3 h hI (by omega) hp1 hp2) (fun h hI hp0 hp1 hp2 => sX11_isE_3 h hI (by omega) hp1 hp2) h hI hp0 hp1 hp2
abbrev qX11_isA_2 (h : fz_H) : fz_H → Option fz_V → Prop := fun h' r0 => fz_Iv h' ∧ fz_fr [(53, 24), (53, 25), (53, 26), (73, 99999)] h h' ∧ ∃ r : Int, r0 = some (fz_i r) ∧ (r = 0 ∨ r = 1) ∧ (h' 53 25 = 2) ∧ (h 53 24 ≤ h' 53 24) ∧ (h' 53 24 ≤ h 53 16) ∧ (h 53 26 ≤ h' 53 26) ∧ (h' 53 26 - h 53 26 ≤ h' 53 24 - h 53 24) ∧ (r = 1 → h 53 24 + 1 ≤ h' 53 24) ∧ (r = 1 → fz_Pa h h')
theorem sX11_isA_2 (h : fz_H) (hI : fz_Iv h) (hp0 : h 53 25 = 2) (hp1 : h 53 24 ≤ h 53 16) (hp2 : h 53 26 ≤ h 53 24) : fz_R 30 mX11_isA 0 [(0, fz_r 53)] [] h (qX11_isA_2 h) := sX11_isA_g 3 2 18 ⟨by decide, by decide⟩ (fun h hI hp0 hp1 hp2 => sX11_isO_3 h hI (by omega) hp1 hp2) (fun h hI hp0 hp1 hp2 => sX11_isE_3 h hI (by omega) hp1 hp2) h hI hp0 hp1 hp2
abbrev qX11_isE_2 (h : fz_H) : fz_H → Option fz_V → Prop := fun h' r0 => fz_Iv h' ∧ fz_fr [(53, 24), (53, 25), (53, 26), (73, 99999)] h h' ∧ ∃ r : Int, r0 = some (fz_i r) ∧ (r = 0 ∨ r = 1) ∧ (h' 53 25 = 2) ∧ (h 53 24 ≤ h' 53 24) ∧ (h' 53 24 ≤ h 53 16) ∧ (h 53 26 ≤ h' 53 26) ∧ (h' 53 26 - h 53 26 ≤ h' 53 24 - h 53 24) ∧ (r = 1 → h 53 24 + 1 ≤ h' 53 24) ∧ (r = 1 → fz_Pa h h')
theorem sX11_isE_2 (h : fz_H) (hI : fz_Iv h) (hp0 : h 53 25 = 2) (hp1 : h 53 24 ≤ h 53 16) (hp2 : h 53 26 ≤ h 53 24) : fz_R 31 mX11_isE 0 [(0, fz_r 53)] [] h (qX11_isE_2 h) := sX11_isE_g 3 2 18 ⟨by decide, by decide⟩ (fun h hI hp0 hp1 hp2 => sX11_isO_3 h hI (by omega) hp1 hp2) (fun h hI hp0 hp1 hp2 => sX11_isE_3 h hI (by omega) hp1 hp2) h hI hp0 hp1 hp2
abbrev qX11_isO_1 (h : fz_H) : fz_H → Option fz_V → Prop := fun h' r0 => fz_Iv h' ∧ fz_fr [(53, 24), (53, 25), (53, 26), (73, 99999)] h h' ∧ ∃ r : Int, r0 = some (fz_i r) ∧ (r = 0 ∨ r = 1) ∧ (h' 53 25 = 1) ∧ (h 53 24 ≤ h' 53 24) ∧ (h' 53 24 ≤ h 53 16) ∧ (h 53 26 ≤ h' 53 26) ∧ (h' 53 26 - h 53 26 ≤ h' 53 24 - h 53 24) ∧ (r = 1 → h 53 24 + 1 ≤ h' 53 24) ∧ (r = 1 → fz_Pa h h')
theorem sX11_isO_1 (h : fz_H) (hI : fz_Iv h) (hp0 : h 53 25 = 1) (hp1 : h 53 24 ≤ h 53 16) (hp2 : h 53 26 ≤ h 53 24) : fz_R 32 mX11_isO 0 [(0, fz_r 53)] [] h (qX11_isO_1 h) := sX11_isO_g 4 1 24 ⟨by decide, by decide⟩ (fun h hI hp0 hp1 hp2 => sX11_isO_2 h hI (by omega) hp1 hp2) (fun h hI hp0 hp1 hp2 => sX11_isE_2 h hI (by omega) hp1 hp2) h hI hp0 hp1 hp2
abbrev qX11_isP_1 (h : fz_H) : fz_H → Option fz_V → Prop := fun h' r0 => fz_Iv h' ∧ fz_fr [(53, 24), (53, 25), (53, 26), (73, 99999)] h h' ∧ ∃ r : Int, r0 = some (fz_i r) ∧ (r = 0 ∨ r = 1) ∧ (h' 53 25 = 1) ∧ (h 53 24 ≤ h' 53 24) ∧ (h' 53 24 ≤ h 53 16) ∧ (h 53 26 ≤ h' 53 26) ∧ (h' 53 26 - h 53 26 ≤ h' 53 24 - h 53 24) ∧ (r = 1 → h 53 24 + 1 ≤ h' 53 24) ∧ (r = 1 → fz_Pa h h')
theorem sX11_isP_1 (h : fz_H) (hI : fz_Iv h) (hp0 : h 53 25 = 1) (hp1 : h 53 24 ≤ h 53 16) (hp2 : h 53 26 ≤ h 53 24) : fz_R 33 mX11_isP 0 [(0, fz_r 53)] [] h (qX11_isP_1 h) := sX11_isP_g 4 1 24 ⟨by decide, by decide⟩ (fun h hI hp0 hp1 hp2 => sX11_isO_2 h hI (by omega) hp1 hp2) (fun h hI hp0 hp1 hp2 => sX11_isE_2 h hI (by omega) hp1 hp2) h hI hp0 hp1 hp2
abbrev qX11_isS_1 (h : fz_H) : fz_H → Option fz_V → Prop := fun h' r0 => fz_Iv h' ∧ fz_fr [(53, 24), (53, 25), (53, 26), (73, 99999)] h h' ∧ ∃ r : Int, r0 = some (fz_i r) ∧ (r = 0 ∨ r = 1) ∧ (h' 53 25 = 1) ∧ (h 53 24 ≤ h' 53 24) ∧ (h' 53 24 ≤ h 53 16) ∧ (h 53 26 ≤ h' 53 26) ∧ (h' 53 26 - h 53 26 ≤ h' 53 24 - h 53 24) ∧ (r = 1 → h 53 24 + 1 ≤ h' 53 24) ∧ (r = 1 → fz_Pa h h')
theorem sX11_isS_1 (h : fz_H) (hI : fz_Iv h) (hp0 : h 53 25 = 1) (hp1 : h 53 24 ≤ h 53 16) (hp2 : h 53 26 ≤ h 53 24) : fz_R 34 mX11_isS 0 [(0, fz_r 53)] [] h (qX11_isS_1 h) := sX11_isS_g 4 1 24 ⟨by decide, by decide⟩ (fun h hI hp0 hp1 hp2 => sX11_isO_2 h hI (by omega) hp1 hp2) (fun h hI hp0 hp1 hp2 => sX11_isE_2 h hI (by omega) hp1 hp2) h hI hp0 hp1 hp2
abbrev qX11_isB_1 (h : fz_H) : fz_H → Option fz_V → Prop := fun h' r0 => fz_Iv h' ∧ fz_fr [(53, 24), (53, 25), (53, 26), (73, 99999)] h h' ∧ ∃ r : Int, r0 = some (fz_i r) ∧ (r = 0 ∨ r = 1) ∧ (h' 53 25 = 1) ∧ (h 53 24 ≤ h' 53 24) ∧ (h' 53 24 ≤ h 53 16) ∧ (h 53 26 ≤ h' 53 26) ∧ (h' 53 26 - h 53 26 ≤ h' 53 24 - h 53 24) ∧ (r = 1 → h 53 24 + 1 ≤ h' 53 24) ∧ (r = 1 → fz_Pa h h')
theorem sX11_isB_1 (h : fz_H) (hI : fz_Iv h) (hp0 : h 53 25 = 1) (hp1 : h 53 24 ≤ h 53 16) (hp2 : h 53 26 ≤ h 53 24) : fz_R 35 mX11_isB 0 [(0, fz_r 53)] [] h (qX11_isB_1 h) := sX11_isB_g 4 1 24 ⟨by decide, by decide⟩ (fun h hI hp0 hp1 hp2 => sX11_isO_2 h hI (by omega) hp1 hp2) (fun h hI hp0 hp1 hp2 => sX11_isE_2 h hI (by omega) hp1 hp2) h hI hp0 hp1 hp2
abbrev qX11_isA_1 (h : fz_H) : fz_H → Option fz_V → Prop := fun h' r0 => fz_Iv h' ∧ fz_fr [(53, 24), (53, 25), (53, 26), (73, 99999)] h h' ∧ ∃ r : Int, r0 = some (fz_i r) ∧ (r = 0 ∨ r = 1) ∧ (h' 53 25 = 1) ∧ (h 53 24 ≤ h' 53 24) ∧ (h' 53 24 ≤ h 53 16) ∧ (h 53 26 ≤ h' 53 26) ∧ (h' 53 26 - h 53 26 ≤ h' 53 24 - h 53 24) ∧ (r = 1 → h 53 24 + 1 ≤ h' 53 24) ∧ (r = 1 → fz_Pa h h')
theorem sX11_isA_1 (h : fz_H) (hI : fz_Iv h) (hp0 : h 53 25 = 1) (hp1 : h 53 24 ≤ h 53 16) (hp2 : h 53 26 ≤ h 53 24) : fz_R 36 mX11_isA 0 [(0, fz_r 53)] [] h (qX11_isA_1 h) := sX11_isA_g 4 1 24 ⟨by decide, by decide⟩ (fun h hI hp0 hp1 hp2 => sX11_isO_2 h hI (by omega) hp1 hp2) (fun h hI hp0 hp1 hp2 => sX11_isE_2 h hI (by omega) hp1 hp2) h hI hp0 hp1 hp2
abbrev qX11_isE_1 (h : fz_H) : fz_H → Option fz_V → Prop := fun h' r0 => fz_Iv h' ∧ fz_fr [(53, 24), (53, 25), (53, 26), (73, 99999)] h h' ∧ ∃ r : Int, r0 = some (fz_i r) ∧ (r = 0 ∨ r = 1) ∧ (h' 53 25 = 1) ∧ (h 53 24 ≤ h' 53 24) ∧ (h' 53 24 ≤ h 53 16) ∧ (h 53 26 ≤ h' 53 26) ∧ (h' 53 26 - h 53 26 ≤ h' 53 24 - h 53 24) ∧ (r = 1 → h 53 24 + 1 ≤ h' 53 24) ∧ (r = 1 → fz_Pa h h')
theorem sX11_isE_1 (h : fz_H) (hI : fz_Iv h) (hp0 : h 53 25 = 1) (hp1 : h 53 24 ≤ h 53 16) (hp2 : h 53 26 ≤ h 53 24) : fz_R 37 mX11_isE 0 [(0, fz_r 53)] [] h (qX11_isE_1 h) := sX11_isE_g 4 1 24 ⟨by decide, by decide⟩ (fun h hI hp0 hp1 hp2 => sX11_isO_2 h hI (by omega) hp1 hp2) (fun h hI hp0 hp1 hp2 => sX11_isE_2 h hI (by omega) hp1 hp2) h hI hp0 hp1 hp2
abbrev qX11_isO_0 (h : fz_H) : fz_H → Option fz_V → Prop := fun h' r0 => fz_Iv h' ∧ fz_fr [(53, 24), (53, 25), (53, 26), (73, 99999)] h h' ∧ ∃ r : Int, r0 = some (fz_i r) ∧ (r = 0 ∨ r = 1) ∧ (h' 53 25 = 0) ∧ (h 53 24 ≤ h' 53 24) ∧ (h' 53 24 ≤ h 53 16) ∧ (h 53 26 ≤ h' 53 26) ∧ (h' 53 26 - h 53 26 ≤ h' 53 24 - h 53 24) ∧ (r = 1 → h 53 24 + 1 ≤ h' 53 24) ∧ (r = 1 → fz_Pa h h')
theorem sX11_isO_0 (h : fz_H) (hI : fz_Iv h) (hp0 : h 53 25 = 0) (hp1 : h 53 24 ≤ h 53 16) (hp2 : h 53 26 ≤ h 53 24) : fz_R 38 mX11_isO 0 [(0, fz_r 53)] [] h (qX11_isO_0 h) := sX11_isO_g 5 0 30 ⟨by decide, by decide⟩ (fun h hI hp0 hp1 hp2 => sX11_isO_1 h hI (by omega) hp1 hp2) (fun h hI hp0 hp1 hp2 => sX11_isE_1 h hI (by omega) hp1 hp2) h hI hp0 hp1 hp2
abbrev qX11_isP_0 (h : fz_H) : fz_H → Option fz_V → Prop := fun h' r0 => fz_Iv h' ∧ fz_fr [(53, 24), (53, 25), (53, 26), (73, 99999)] h h' ∧ ∃ r : Int, r0 = some (fz_i r) ∧ (r = 0 ∨ r = 1) ∧ (h' 53 25 = 0) ∧ (h 53 24 ≤ h' 53 24) ∧ (h' 53 24 ≤ h 53 16) ∧ (h 53 26 ≤ h' 53 26) ∧ (h' 53 26 - h 53 26 ≤ h' 53 24 - h 53 24) ∧ (r = 1 → h 53 24 + 1 ≤ h' 53 24) ∧ (r = 1 → fz_Pa h h')
theorem sX11_isP_0 (h : fz_H) (hI : fz_Iv h) (hp0 : h 53 25 = 0) (hp1 : h 53 24 ≤ h 53 16) (hp2 : h 53 26 ≤ h 53 24) : fz_R 39 mX11_isP 0 [(0, fz_r 53)] [] h (qX11_isP_0 h) := sX11_isP_g 5 0 30 ⟨by decide, by decide⟩ (fun h hI hp0 hp1 hp2 => sX11_isO_1 h hI (by omega) hp1 hp2) (fun h hI hp0 hp1 hp2 => sX11_isE_1 h hI (by omega) hp1 hp2) h hI hp0 hp1 hp2
abbrev qX11_isS_0 (h : fz_H) : fz_H → Option fz_V → Prop := fun h' r0 => fz_Iv h' ∧ fz_fr [(53, 24), (53, 25), (53, 26), (73, 99999)] h h' ∧ ∃ r : Int, r0 = some (fz_i r) ∧ (r = 0 ∨ r = 1) ∧ (h' 53 25 = 0) ∧ (h 53 24 ≤ h' 53 24) ∧ (h' 53 24 ≤ h 53 16) ∧ (h 53 26 ≤ h' 53 26) ∧ (h' 53 26 - h 53 26 ≤ h' 53 24 - h 53 24) ∧ (r = 1 → h 53 24 + 1 ≤ h' 53 24) ∧ (r = 1 → fz_Pa h h')
theorem sX11_isS_0 (h : fz_H) (hI : fz_Iv h) (hp0 : h 53 25 = 0) (hp1 : h 53 24 ≤ h 53 16) (hp2 : h 53 26 ≤ h 53 24) : fz_R 40 mX11_isS 0 [(0, fz_r 53)] [] h (qX11_isS_0 h) := sX11_isS_g 5 0 30 ⟨by decide, by decide⟩ (fun h hI hp0 hp1 hp2 => sX11_isO_1 h hI (by omega) hp1 hp2) (fun h hI hp0 hp1 hp2 => sX11_isE_1 h hI (by omega) hp1 hp2) h hI hp0 hp1 hp2
abbrev qX11_isB_0 (h : fz_H) : fz_H → Option fz_V → Prop := fun h' r0 => fz_Iv h' ∧ fz_fr [(53, 24), (53, 25), (53, 26), (73, 99999)] h h' ∧ ∃ r : Int, r0 = some (fz_i r) ∧ (r = 0 ∨ r = 1) ∧ (h' 53 25 = 0) ∧ (h 53 24 ≤ h' 53 24) ∧ (h' 53 24 ≤ h 53 16) ∧ (h 53 26 ≤ h' 53 26) ∧ (h' 53 26 - h 53 26 ≤ h' 53 24 - h 53 24) ∧ (r = 1 → h 53 24 + 1 ≤ h' 53 24) ∧ (r = 1 → fz_Pa h h')
theorem sX11_isB_0 (h : fz_H) (hI : fz_Iv h) (hp0 : h 53 25 = 0) (hp1 : h 53 24 ≤ h 53 16) (hp2 : h 53 26 ≤ h 53 24) : fz_R 41 mX11_isB 0 [(0, fz_r 53)] [] h (qX11_isB_0 h) := sX11_isB_g 5 0 30 ⟨by decide, by decide⟩ (fun h hI hp0 hp1 hp2 => sX11_isO_1 h hI (by omega) hp1 hp2) (fun h hI hp0 hp1 hp2 => sX11_isE_1 h hI (by omega) hp1 hp2) h hI hp0 hp1 hp2
abbrev qX11_isA_0 (h : fz_H) : fz_H → Option fz_V → Prop := fun h' r0 => fz_Iv h' ∧ fz_fr [(53, 24), (53, 25), (53, 26), (73, 99999)] h h' ∧ ∃ r : Int, r0 = some (fz_i r) ∧ (r = 0 ∨ r = 1) ∧ (h' 53 25 = 0) ∧ (h 53 24 ≤ h' 53 24) ∧ (h' 53 24 ≤ h 53 16) ∧ (h 53 26 ≤ h' 53 26) ∧ (h' 53 26 - h 53 26 ≤ h' 53 24 - h 53 24) ∧ (r = 1 → h 53 24 + 1 ≤ h' 53 24) ∧ (r = 1 → fz_Pa h h')
theorem sX11_isA_0 (h : fz_H) (hI : fz_Iv h) (hp0 : h 53 25 = 0) (hp1 : h 53 24 ≤ h 53 16) (hp2 : h 53 26 ≤ h 53 24) : fz_R 42 mX11_isA 0 [(0, fz_r 53)] [] h (qX11_isA_0 h) := sX11_isA_g 5 0 30 ⟨by decide, by decide⟩ (fun h hI hp0 hp1 hp2 => sX11_isO_1 h hI (by omega) hp1 hp2) (fun h hI hp0 hp1 hp2 => sX11_isE_1 h hI (by omega) hp1 hp2) h hI hp0 hp1 hp2
abbrev qX11_isE_0 (h : fz_H) : fz_H → Option fz_V → Prop := fun h' r0 => fz_Iv h' ∧ fz_fr [(53, 24), (53, 25), (53, 26), (73, 99999)] h h' ∧ ∃ r : Int, r0 = some (fz_i r) ∧ (r = 0 ∨ r = 1) ∧ (h' 53 25 = 0) ∧ (h 53 24 ≤ h' 53 24) ∧ (h' 53 24 ≤ h 53 16) ∧ (h 53 26 ≤ h' 53 26) ∧ (h' 53 26 - h 53 26 ≤ h' 53 24 - h 53 24) ∧ (r = 1 → h 53 24 + 1 ≤ h' 53 24) ∧ (r = 1 → fz_Pa h h')
theorem sX11_isE_0 (h : fz_H) (hI : fz_Iv h) (hp0 : h 53 25 = 0) (hp1 : h 53 24 ≤ h 53 16) (hp2 : h 53 26 ≤ h 53 24) : fz_R 43 mX11_isE 0 [(0, fz_r 53)] [] h (qX11_isE_0 h) := sX11_isE_g 5 0 30 ⟨by decide, by decide⟩ (fun h hI hp0 hp1 hp2 => sX11_isO_1 h hI (by omega) hp1 hp2) (fun h hI hp0 hp1 hp2 => sX11_isE_1 h hI (by omega) hp1 hp2) h hI hp0 hp1 hp2
abbrev qX11_isLine (h : fz_H) : fz_H → Option fz_V → Prop := fun h' r0 => fz_Iv h' ∧ fz_fr [(53, 24), (53, 25), (53, 26), (53, 27), (70, 99999), (71, 99999), (72, 99999), (73, 99999)] h h' ∧ ∃ r : Int, r0 = some (fz_i r) ∧ (r = 0 ∨ r = 1) ∧ (h' 53 25 = 0) ∧ (h 53 24 ≤ h' 53 24) ∧ (h' 53 24 ≤ h 53 16) ∧ (h' 53 26 ≤ h' 53 24) ∧ (r = 1 → h 53 24 + 1 ≤ h' 53 24 ∧ h' 53 27 = h 53 27 + 1) ∧ (r = 1 → fz_Ln h')
set_option maxHeartbeats 1000000 in
set_option maxRecDepth 100000 in
theorem sX11_isLine (h : fz_H) (hI : fz_Iv h) (hp0 : h 53 25 = 0) (hp1 : h 53 24 ≤ h 53 16) (hp2 : h 53 26 ≤ h 53 24) (hp3 : 2 * h 53 27 ≤ h 53 24) (hp4 : fz_Ln h) : fz_R 44 mX11_isLine 0 [(0, fz_r 53)] [] h (qX11_isLine h) := by
  have hf : fz_fr [(53, 24), (53, 25), (53, 26), (53, 27), (70, 99999), (71, 99999), (72, 99999), (73, 99999)] h h := fz_fr_rf
  have b1 : 0 ≤ h 53 25 ∧ h 53 25 ≤ 6 := hI.1 53 _
  have b2 : 0 ≤ h 53 24 ∧ h 53 24 ≤ 120 := hI.1 53 _
  have b3 : 0 ≤ h 53 16 ∧ h 53 16 ≤ 120 := hI.1 53 _
  have b4 : 0 ≤ h 53 26 ∧ h 53 26 ≤ 200 := hI.1 53 _
  have b5 : 0 ≤ h 53 27 ∧ h 53 27 ≤ 61 := hI.1 53 _
  refine fz_aload_n kX11_isLine rfl rfl ?_
  refine fz_getR (t := 70) kX11_isLine rfl rfl ?_
  refine fz_aload_n kX11_isLine rfl rfl ?_
  refine fz_getV (v := h 53 27) kX11_isLine rfl rfl rfl ?_
  have b6 : 0 ≤ h 53 27 ∧ h 53 27 ≤ 61 := hI.1 53 _
  refine fz_aload_n kX11_isLine rfl rfl ?_
  refine fz_getV (v := h 53 26) kX11_isLine rfl rfl rfl ?_
  have b7 : 0 ≤ h 53 26 ∧ h 53 26 ≤ 200 := hI.1 53 _
  refine fz_iast (n := 61) kX11_isLine rfl rfl (by omega) (by omega) ?_
  refine fz_nmu (S := [(53, 24), (53, 25), (53, 26), (53, 27), (70, 99999), (71, 99999), (72, 99999), (73, 99999)]) (h0 := h) (fz_Iv_up hI (by decide) (show (0 : Int) ≤ (h 53 26) by omega) (show ((h 53 26) : Int) ≤ 200 by omega)) (fz_fr_up hf rfl) (fun H8 hI9 hf10 e11 => ?_)
  have k12 : H8 53 25 = (h 53 25) := by rw [e11]; exact (fz_up_o (by decide)).trans rfl
  have k13 : H8 53 24 = (h 53 24) := by rw [e11]; exact (fz_up_o (by decide)).trans rfl
  have k14 : H8 53 26 = (h 53 26) := by rw [e11]; exact (fz_up_o (by decide)).trans rfl
  have k15 : H8 53 27 = (h 53 27) := by rw [e11]; exact (fz_up_o (by decide)).trans rfl
  have t16 : H8 53 24 = h 53 24 := by rw [e11]; exact fz_up_o (by decide)
  have t17 : H8 53 26 = h 53 26 := by rw [e11]; exact fz_up_o (by decide)
  have t18 : H8 53 27 = h 53 27 := by rw [e11]; exact fz_up_o (by decide)
  refine fz_aload_n kX11_isLine rfl rfl ?_
  have b19 : 0 ≤ H8 53 25 ∧ H8 53 25 ≤ 6 := hI9.1 53 _
  have b20 : 0 ≤ H8 53 24 ∧ H8 53 24 ≤ 120 := hI9.1 53 _
  have b21 : 0 ≤ H8 53 26 ∧ H8 53 26 ≤ 200 := hI9.1 53 _
  have e22 : H8 53 16 = h 53 16 := hf10 53 16 rfl
  refine fz_callV (d' := 43) (M' := mX11_isE) (As := []) (st := []) kX11_isLine rfl rfl vX11_isE rfl rfl rfl rfl (Nat.le_of_ble_eq_true rfl) (Nat.le_of_ble_eq_true rfl) (by decide) (sX11_isE_0 H8 hI9  (by omega) (by omega) (by omega)) (fun H23 r24 q25 o26 => ?_)
  obtain ⟨hI27, hf28, y36, rfl, p37, f29, f30, f31, f32, f33, f34, f35⟩ := q25
  clear o26
  have hf38 := fz_fr_tr hf10 hf28 (show fz_su [(53, 24), (53, 25), (53, 26), (73, 99999)] [(53, 24), (53, 25), (53, 26), (53, 27), (70, 99999), (71, 99999), (72, 99999), (73, 99999)] = true from rfl)
  have k39 : H23 53 27 = (h 53 27) := (hf28 53 27 rfl).trans k15
  have t40 : H23 53 27 = H8 53 27 := hf28 53 27 rfl
  refine fz_if_ne (tgt := 22) kX11_isLine rfl (by decide) (fun c41 => ?_) (fun c41 => ?_)
  · have k42 := f35 (by omega)
    refine fz_aload_n kX11_isLine rfl rfl ?_
    refine fz_getR (t := 71) kX11_isLine rfl rfl ?_
    refine fz_aload_n kX11_isLine rfl rfl ?_
    refine fz_getV (v := (h 53 27)) kX11_isLine rfl rfl k39 ?_
    refine fz_aload_n kX11_isLine rfl rfl ?_
    refine fz_getR (t := 70) kX11_isLine rfl rfl ?_
    refine fz_aload_n kX11_isLine rfl rfl ?_
    refine fz_getV (v := (h 53 27)) kX11_isLine rfl rfl k39 ?_
    obtain ⟨v44, e45⟩ : ∃ z, H23 70 ((h 53 27).toNat) = z := ⟨_, rfl⟩
    refine fz_ialdV (n := 61) (v := v44) kX11_isLine rfl rfl (by omega) (by omega) e45 ?_
    have b46 : 0 ≤ v44 ∧ v44 ≤ 200 := by rw [← e45]; exact hI27.1 70 _
    have k47 := fz_x3 e45 (fz_Kp_fr hf28 rfl) e11 (by omega)
    refine fz_iast (n := 61) kX11_isLine rfl rfl (by omega) (by omega) ?_
    refine fz_nmu (S := [(53, 24), (53, 25), (53, 26), (53, 27), (70, 99999), (71, 99999), (72, 99999), (73, 99999)]) (h0 := h) (fz_Iv_up hI27 (by decide) (show (0 : Int) ≤ v44 by omega) (show (v44 : Int) ≤ 200 by omega)) (fz_fr_up hf38 rfl) (fun H49 hI50 hf51 e52 => ?_)
    have k53 : H49 53 27 = (h 53 27) := by rw [e52]; exact (fz_up_o (by decide)).trans k39
    have k54 : H49 53 25 = 0 := by rw [e52]; exact (fz_up_o (by decide)).trans f29
    have t55 : H49 53 24 = H23 53 24 := by rw [e52]; exact fz_up_o (by decide)
    have t56 : H49 53 26 = H23 53 26 := by rw [e52]; exact fz_up_o (by decide)
    have t57 : H49 53 27 = H23 53 27 := by rw [e52]; exact fz_up_o (by decide)
    refine fz_aload_n kX11_isLine rfl rfl ?_
    refine fz_bipush ⟨by decide, by decide⟩ kX11_isLine rfl ?_
    have b58 : 0 ≤ H49 53 24 ∧ H49 53 24 ≤ 120 := hI50.1 53 _
    have e59 : H49 53 16 = h 53 16 := hf51 53 16 rfl
    refine fz_callV (d' := 1) (M' := mX11_is) (As := [fz_i 63]) (st := []) kX11_isLine rfl rfl vX11_is rfl rfl rfl rfl (Nat.le_of_ble_eq_true rfl) (Nat.le_of_ble_eq_true rfl) (by decide) (sX11_is H49 hI50 63 (by omega) (by omega)) (fun H60 r61 q62 o63 => ?_)
    obtain ⟨hI64, hf65, y67, rfl, p68, f66⟩ := q62
    clear o63
    have hf69 := fz_fr_tr hf51 hf65 (show fz_su [(53, 24)] [(53, 24), (53, 25), (53, 26), (53, 27), (70, 99999), (71, 99999), (72, 99999), (73, 99999)] = true from rfl)
    have k70 : H60 53 27 = (h 53 27) := (hf65 53 27 rfl).trans k53
    have k71 : H60 53 25 = 0 := (hf65 53 25 rfl).trans k54
    have t72 : H60 53 26 = H49 53 26 := hf65 53 26 rfl
    have t73 : H60 53 27 = H49 53 27 := hf65 53 27 rfl
    refine fz_if_eq (tgt := 71) kX11_isLine rfl (by decide) (fun c74 => ?_) (fun c74 => ?_)
    · refine fz_aload_n kX11_isLine rfl rfl ?_
      refine fz_getR (t := 72) kX11_isLine rfl rfl ?_
      refine fz_aload_n kX11_isLine rfl rfl ?_
      refine fz_dup rfl kX11_isLine rfl ?_
      refine fz_getV (v := (h 53 27)) kX11_isLine rfl rfl k70 ?_
      refine fz_dup_x1 rfl rfl kX11_isLine rfl ?_
      refine fz_iconst ⟨by decide, by decide⟩ kX11_isLine rfl ?_
      refine fz_iaddN kX11_isLine rfl (by omega) ?_
      refine fz_putI kX11_isLine rfl rfl rfl ?_
      refine fz_nmu (S := [(53, 24), (53, 25), (53, 26), (53, 27), (70, 99999), (71, 99999), (72, 99999), (73, 99999)]) (h0 := h) (fz_Iv_up hI64 (by decide) (show (0 : Int) ≤ ((h 53 27) + 1) by omega) (show (((h 53 27) + 1) : Int) ≤ 61 by omega)) (fz_fr_up hf69 rfl) (fun H75 hI76 hf77 e78 => ?_)
      have k79 : H75 53 25 = 0 := by rw [e78]; exact (fz_up_s (by decide)).trans k71
      have k80 : H75 53 27 = ((h 53 27) + 1) := by rw [e78]; exact fz_up_e
      have t81 : H75 53 24 = H60 53 24 := by rw [e78]; exact fz_up_s (by decide)
      have t82 : H75 53 26 = H60 53 26 := by rw [e78]; exact fz_up_s (by decide)
      refine fz_aload_n kX11_isLine rfl rfl ?_
      obtain ⟨v83, e84⟩ : ∃ z, H75 53 (26) = z := ⟨_, rfl⟩
      refine fz_getV (v := v83) kX11_isLine rfl rfl e84 ?_
      have b85 : 0 ≤ v83 ∧ v83 ≤ 200 := by rw [← e84]; exact hI76.1 53 _
      refine fz_iast (n := 61) kX11_isLine rfl rfl (by omega) (by omega) ?_
      refine fz_nmu (S := [(53, 24), (53, 25), (53, 26), (53, 27), (70, 99999), (71, 99999), (72, 99999), (73, 99999)]) (h0 := h) (fz_Iv_up hI76 (by decide) (show (0 : Int) ≤ v83 by omega) (show (v83 : Int) ≤ 200 by omega)) (fz_fr_up hf77 rfl) (fun H86 hI87 hf88 e89 => ?_)
      have k90 : H86 53 25 = 0 := by rw [e89]; exact (fz_up_o (by decide)).trans k79
      have k91 : H86 53 27 = ((h 53 27) + 1) := by rw [e89]; exact (fz_up_o (by decide)).trans k80
      have k92 : H86 53 26 = v83 := by rw [e89]; exact (fz_up_o (by decide)).trans e84
      have t93 : H86 53 24 = H75 53 24 := by rw [e89]; exact fz_up_o (by decide)
      have t94 : H86 53 26 = H75 53 26 := by rw [e89]; exact fz_up_o (by decide)
      have t95 : H86 53 27 = H75 53 27 := by rw [e89]; exact fz_up_o (by decide)
      have k96 : fz_Ln H86 := by first | exact fz_Ln_b hp4 (by omega) e11 (fz_Kp_fr hf28 rfl) k42 e52 (fz_Kp_fr hf65 rfl) ⟨funext fun s => hf65 73 s rfl, hf65 53 26 rfl⟩ lost (fz_Kp_fr lost rfl) (lost (by omega)) e78 e89 (by omega) (by omega) (by omega) | exact fz_Ln_a hp4 (by omega) e11 (fz_Kp_fr hf28 rfl) k42 e52 (fz_Kp_fr hf65 rfl) ⟨funext fun s => hf65 73 s rfl, hf65 53 26 rfl⟩ e78 e89 (by omega) k47 (by omega)
      refine fz_iconst ⟨by decide, by decide⟩ kX11_isLine rfl ?_
      exact fz_zret kX11_isLine rfl rfl (by omega) ⟨hI87, hf88, _, rfl, (by omega), (by omega), (by omega), (by omega), (by omega), (by omega), (by first | (intro z; exfalso; omega) | (intro _; exact k96))⟩
    · refine fz_aload_n kX11_isLine rfl rfl ?_
      refine fz_getR (t := 71) kX11_isLine rfl rfl ?_
      refine fz_aload_n kX11_isLine rfl rfl ?_
      refine fz_getV (v := (h 53 27)) kX11_isLine rfl rfl k70 ?_
      refine fz_aload_n kX11_isLine rfl rfl ?_
      obtain ⟨v99, e100⟩ : ∃ z, H60 53 (26) = z := ⟨_, rfl⟩
      refine fz_getV (v := v99) kX11_isLine rfl rfl e100 ?_
      have b101 : 0 ≤ v99 ∧ v99 ≤ 200 := by rw [← e100]; exact hI64.1 53 _
      refine fz_iast (n := 61) kX11_isLine rfl rfl (by omega) (by omega) ?_
      refine fz_nmu (S := [(53, 24), (53, 25), (53, 26), (53, 27), (70, 99999), (71, 99999), (72, 99999), (73, 99999)]) (h0 := h) (fz_Iv_up hI64 (by decide) (show (0 : Int) ≤ v99 by omega) (show (v99 : Int) ≤ 200 by omega)) (fz_fr_up hf69 rfl) (fun H102 hI103 hf104 e105 => ?_)
      have k106 : H102 53 27 = (h 53 27) := by rw [e105]; exact (fz_up_o (by decide)).trans k70
      have k107 : H102 53 25 = 0 := by rw [e105]; exact (fz_up_o (by decide)).trans k71
      have k108 : H102 53 26 = v99 := by rw [e105]; exact (fz_up_o (by decide)).trans e100
      have t109 : H102 53 24 = H60 53 24 := by rw [e105]; exact fz_up_o (by decide)
      have t110 : H102 53 26 = H60 53 26 := by rw [e105]; exact fz_up_o (by decide)
      have t111 : H102 53 27 = H60 53 27 := by rw [e105]; exact fz_up_o (by decide)
      refine fz_aload_n kX11_isLine rfl rfl ?_
      have b112 : 0 ≤ H102 53 25 ∧ H102 53 25 ≤ 6 := hI103.1 53 _
      have b113 : 0 ≤ H102 53 24 ∧ H102 53 24 ≤ 120 := hI103.1 53 _
      have b114 : 0 ≤ H102 53 26 ∧ H102 53 26 ≤ 200 := hI103.1 53 _
      have e115 : H102 53 16 = h 53 16 := hf104 53 16 rfl
      refine fz_callV (d' := 43) (M' := mX11_isE) (As := []) (st := []) kX11_isLine rfl rfl vX11_isE rfl rfl rfl rfl (Nat.le_of_ble_eq_true rfl) (Nat.le_of_ble_eq_true rfl) (by decide) (sX11_isE_0 H102 hI103  (by omega) (by omega) (by omega)) (fun H116 r117 q118 o119 => ?_)
      obtain ⟨hI120, hf121, y129, rfl, p130, f122, f123, f124, f125, f126, f127, f128⟩ := q118
      clear o119
      have hf131 := fz_fr_tr hf104 hf121 (show fz_su [(53, 24), (53, 25), (53, 26), (73, 99999)] [(53, 24), (53, 25), (53, 26), (53, 27), (70, 99999), (71, 99999), (72, 99999), (73, 99999)] = true from rfl)
      have k132 : H116 53 27 = (h 53 27) := (hf121 53 27 rfl).trans k106
      have t133 : H116 53 27 = H102 53 27 := hf121 53 27 rfl
      have k134 := f128
      refine fz_if_ne (tgt := 71) kX11_isLine rfl (by decide) (fun c136 => ?_) (fun c136 => ?_)
      · refine fz_aload_n kX11_isLine rfl rfl ?_
        refine fz_getR (t := 72) kX11_isLine rfl rfl ?_
        refine fz_aload_n kX11_isLine rfl rfl ?_
        refine fz_dup rfl kX11_isLine rfl ?_
        refine fz_getV (v := (h 53 27)) kX11_isLine rfl rfl k132 ?_
        refine fz_dup_x1 rfl rfl kX11_isLine rfl ?_
        refine fz_iconst ⟨by decide, by decide⟩ kX11_isLine rfl ?_
        refine fz_iaddN kX11_isLine rfl (by omega) ?_
        refine fz_putI kX11_isLine rfl rfl rfl ?_
        refine fz_nmu (S := [(53, 24), (53, 25), (53, 26), (53, 27), (70, 99999), (71, 99999), (72, 99999), (73, 99999)]) (h0 := h) (fz_Iv_up hI120 (by decide) (show (0 : Int) ≤ ((h 53 27) + 1) by omega) (show (((h 53 27) + 1) : Int) ≤ 61 by omega)) (fz_fr_up hf131 rfl) (fun H137 hI138 hf139 e140 => ?_)
        have k141 : H137 53 25 = 0 := by rw [e140]; exact (fz_up_s (by decide)).trans f122
        have k142 : H137 53 27 = ((h 53 27) + 1) := by rw [e140]; exact fz_up_e
        have t143 : H137 53 24 = H116 53 24 := by rw [e140]; exact fz_up_s (by decide)
        have t144 : H137 53 26 = H116 53 26 := by rw [e140]; exact fz_up_s (by decide)
        refine fz_aload_n kX11_isLine rfl rfl ?_
        obtain ⟨v145, e146⟩ : ∃ z, H137 53 (26) = z := ⟨_, rfl⟩
        refine fz_getV (v := v145) kX11_isLine rfl rfl e146 ?_
        have b147 : 0 ≤ v145 ∧ v145 ≤ 200 := by rw [← e146]; exact hI138.1 53 _
        refine fz_iast (n := 61) kX11_isLine rfl rfl (by omega) (by omega) ?_
        refine fz_nmu (S := [(53, 24), (53, 25), (53, 26), (53, 27), (70, 99999), (71, 99999), (72, 99999), (73, 99999)]) (h0 := h) (fz_Iv_up hI138 (by decide) (show (0 : Int) ≤ v145 by omega) (show (v145 : Int) ≤ 200 by omega)) (fz_fr_up hf139 rfl) (fun H148 hI149 hf150 e151 => ?_)
        have k152 : H148 53 25 = 0 := by rw [e151]; exact (fz_up_o (by decide)).trans k141
        have k153 : H148 53 27 = ((h 53 27) + 1) := by rw [e151]; exact (fz_up_o (by decide)).trans k142
        have k154 : H148 53 26 = v145 := by rw [e151]; exact (fz_up_o (by decide)).trans e146
        have t155 : H148 53 24 = H137 53 24 := by rw [e151]; exact fz_up_o (by decide)
        have t156 : H148 53 26 = H137 53 26 := by rw [e151]; exact fz_up_o (by decide)
        have t157 : H148 53 27 = H137 53 27 := by rw [e151]; exact fz_up_o (by decide)
        have k158 : fz_Ln H148 := by first | exact fz_Ln_b hp4 (by omega) e11 (fz_Kp_fr hf28 rfl) k42 e52 (fz_Kp_fr hf65 rfl) ⟨funext fun s => hf65 73 s rfl, hf65 53 26 rfl⟩ e105 (fz_Kp_fr hf121 rfl) (k134 (by omega)) e140 e151 (by omega) (by omega) (by omega) | exact fz_Ln_a hp4 (by omega) e11 (fz_Kp_fr hf28 rfl) k42 e52 (fz_Kp_fr hf65 rfl) ⟨funext fun s => hf65 73 s rfl, hf65 53 26 rfl⟩ e140 e151 (by omega) k47 (by omega)
        refine fz_iconst ⟨by decide, by decide⟩ kX11_isLine rfl ?_
        exact fz_zret kX11_isLine rfl rfl (by omega) ⟨hI149, hf150, _, rfl, (by omega), (by omega), (by omega), (by omega), (by omega), (by omega), (by first | (intro z; exfalso; omega) | (intro _; exact k158))⟩
      · refine fz_iconst ⟨by decide, by decide⟩ kX11_isLine rfl ?_
        exact fz_zret kX11_isLine rfl rfl (by omega) ⟨hI120, hf131, _, rfl, (by omega), (by omega), (by omega), (by omega), (by omega), (by omega), (by first | (intro z; exfalso; omega) | (intro _; exact lost))⟩
  · refine fz_iconst ⟨by decide, by decide⟩ kX11_isLine rfl ?_
    exact fz_zret kX11_isLine rfl rfl (by omega) ⟨hI27, hf38, _, rfl, (by omega), (by omega), (by omega), (by omega), (by omega), (by omega), (by first | (intro z; exfalso; omega) | (intro _; exact lost))⟩

abbrev qX11_law (h : fz_H) : fz_H → Option fz_V → Prop := fun h' r0 => fz_Iv h' ∧ fz_fr [(53, 16), (53, 18), (53, 19), (53, 24), (53, 25), (53, 26), (53, 27), (66, 99999), (67, 99999), (68, 99999), (69, 99999), (70, 99999), (71, 99999), (72, 99999), (73, 99999)] h h' ∧ fz_Xw h' ∧ ∃ r : Int, r0 = some (fz_i r) ∧ ((-220) ≤ r ∧ r ≤ 1) ∧ (h' 53 16 = 0)
set_option maxHeartbeats 1000000 in
set_option maxRecDepth 100000 in
theorem sX11_law (h : fz_H) (hI : fz_Iv h) (hXw : fz_Xw h) : fz_R 45 mX11_law 0 [(0, fz_r 53)] [] h (qX11_law h) := by
  have hf : fz_fr [(53, 16), (53, 18), (53, 19), (53, 24), (53, 25), (53, 26), (53, 27), (66, 99999), (67, 99999), (68, 99999), (69, 99999), (70, 99999), (71, 99999), (72, 99999), (73, 99999)] h h := fz_fr_rf
  refine fz_aload_n kX11_law rfl rfl ?_
  refine fz_iconst ⟨by decide, by decide⟩ kX11_law rfl ?_
  refine fz_putI kX11_law rfl rfl rfl ?_
  refine fz_nmu (S := [(53, 16), (53, 18), (53, 19), (53, 24), (53, 25), (53, 26), (53, 27), (66, 99999), (67, 99999), (68, 99999), (69, 99999), (70, 99999), (71, 99999), (72, 99999), (73, 99999)]) (h0 := h) (fz_Iv_up hI (by decide) (show (0 : Int) ≤ 0 by decide) (show (0 : Int) ≤ 120 by decide)) (fz_fr_up hf rfl) (fun H1 hI2 hf3 e4 => ?_)
  have k5 : H1 53 24 = 0 := by rw [e4]; exact fz_up_e
  have t6 : H1 53 16 = h 53 16 := by rw [e4]; exact fz_up_s (by decide)
  have t7 : H1 53 26 = h 53 26 := by rw [e4]; exact fz_up_s (by decide)
  have t8 : H1 53 27 = h 53 27 := by rw [e4]; exact fz_up_s (by decide)
  have t9 : H1 53 19 = h 53 19 := by rw [e4]; exact fz_up_s (by decide)
  have hXw10 : fz_Xw H1 := fz_Xw_eq (by rw [e4]; exact fz_up_s (by decide)) (by rw [e4]; exact fz_up_ne (by decide)) (by rw [e4]; exact fz_up_ne (by decide)) (by rw [e4]; exact fz_up_ne (by decide)) (by rw [e4]; exact fz_up_ne (by decide)) hXw
  refine fz_aload_n kX11_law rfl rfl ?_
  refine fz_iconst ⟨by decide, by decide⟩ kX11_law rfl ?_
  refine fz_putI kX11_law rfl rfl rfl ?_
  refine fz_nmu (S := [(53, 16), (53, 18), (53, 19), (53, 24), (53, 25), (53, 26), (53, 27), (66, 99999), (67, 99999), (68, 99999), (69, 99999), (70, 99999), (71, 99999), (72, 99999), (73, 99999)]) (h0 := h) (fz_Iv_up hI2 (by decide) (show (0 : Int) ≤ 0 by decide) (show (0 : Int) ≤ 6 by decide)) (fz_fr_up hf3 rfl) (fun H11 hI12 hf13 e14 => ?_)
  have k15 : H11 53 24 = 0 := by rw [e14]; exact (fz_up_s (by decide)).trans k5
  have k16 : H11 53 25 = 0 := by rw [e14]; exact fz_up_e
  have t17 : H11 53 16 = H1 53 16 := by rw [e14]; exact fz_up_s (by decide)
  have t18 : H11 53 24 = H1 53 24 := by rw [e14]; exact fz_up_s (by decide)
  have t19 : H11 53 26 = H1 53 26 := by rw [e14]; exact fz_up_s (by decide)
  have t20 : H11 53 27 = H1 53 27 := by rw [e14]; exact fz_up_s (by decide)
  have t21 : H11 53 19 = H1 53 19 := by rw [e14]; exact fz_up_s (by decide)
  have hXw22 : fz_Xw H11 := fz_Xw_eq (by rw [e14]; exact fz_up_s (by decide)) (by rw [e14]; exact fz_up_ne (by decide)) (by rw [e14]; exact fz_up_ne (by decide)) (by rw [e14]; exact fz_up_ne (by decide)) (by rw [e14]; exact fz_up_ne (by decide)) hXw10
  refine fz_aload_n kX11_law rfl rfl ?_
  refine fz_iconst ⟨by decide, by decide⟩ kX11_law rfl ?_
  refine fz_putI kX11_law rfl rfl rfl ?_
  refine fz_nmu (S := [(53, 16), (53, 18), (53, 19), (53, 24), (53, 25), (53, 26), (53, 27), (66, 99999), (67, 99999), (68, 99999), (69, 99999), (70, 99999), (71, 99999), (72, 99999), (73, 99999)]) (h0 := h) (fz_Iv_up hI12 (by decide) (show (0 : Int) ≤ 0 by decide) (show (0 : Int) ≤ 200 by decide)) (fz_fr_up hf13 rfl) (fun H23 hI24 hf25 e26 => ?_)
  have k27 : H23 53 24 = 0 := by rw [e26]; exact (fz_up_s (by decide)).trans k15
  have k28 : H23 53 25 = 0 := by rw [e26]; exact (fz_up_s (by decide)).trans k16
  have k29 : H23 53 26 = 0 := by rw [e26]; exact fz_up_e
  have t30 : H23 53 16 = H11 53 16 := by rw [e26]; exact fz_up_s (by decide)
  have t31 : H23 53 24 = H11 53 24 := by rw [e26]; exact fz_up_s (by decide)
  have t32 : H23 53 27 = H11 53 27 := by rw [e26]; exact fz_up_s (by decide)
  have t33 : H23 53 19 = H11 53 19 := by rw [e26]; exact fz_up_s (by decide)
  have hXw34 : fz_Xw H23 := fz_Xw_eq (by rw [e26]; exact fz_up_s (by decide)) (by rw [e26]; exact fz_up_ne (by decide)) (by rw [e26]; exact fz_up_ne (by decide)) (by rw [e26]; exact fz_up_ne (by decide)) (by rw [e26]; exact fz_up_ne (by decide)) hXw22
  refine fz_aload_n kX11_law rfl rfl ?_
  refine fz_iconst ⟨by decide, by decide⟩ kX11_law rfl ?_
  refine fz_putI kX11_law rfl rfl rfl ?_
  refine fz_nmu (S := [(53, 16), (53, 18), (53, 19), (53, 24), (53, 25), (53, 26), (53, 27), (66, 99999), (67, 99999), (68, 99999), (69, 99999), (70, 99999), (71, 99999), (72, 99999), (73, 99999)]) (h0 := h) (fz_Iv_up hI24 (by decide) (show (0 : Int) ≤ 0 by decide) (show (0 : Int) ≤ 61 by decide)) (fz_fr_up hf25 rfl) (fun H35 hI36 hf37 e38 => ?_)
  have k39 : H35 53 24 = 0 := by rw [e38]; exact (fz_up_s (by decide)).trans k27
  have k40 : H35 53 25 = 0 := by rw [e38]; exact (fz_up_s (by decide)).trans k28
  have k41 : H35 53 26 = 0 := by rw [e38]; exact (fz_up_s (by decide)).trans k29
  have k42 : H35 53 27 = 0 := by rw [e38]; exact fz_up_e
  have t43 : H35 53 16 = H23 53 16 := by rw [e38]; exact fz_up_s (by decide)
  have t44 : H35 53 24 = H23 53 24 := by rw [e38]; exact fz_up_s (by decide)
  have t45 : H35 53 26 = H23 53 26 := by rw [e38]; exact fz_up_s (by decide)
  have t46 : H35 53 19 = H23 53 19 := by rw [e38]; exact fz_up_s (by decide)
  have hXw47 : fz_Xw H35 := fz_Xw_eq (by rw [e38]; exact fz_up_s (by decide)) (by rw [e38]; exact fz_up_ne (by decide)) (by rw [e38]; exact fz_up_ne (by decide)) (by rw [e38]; exact fz_up_ne (by decide)) (by rw [e38]; exact fz_up_ne (by decide)) hXw34
  refine fz_aload_n kX11_law rfl rfl ?_
  have k48 : fz_Ln H35 := fz_Ln_0 k42
  have b50 : 0 ≤ H35 53 25 ∧ H35 53 25 ≤ 6 := hI36.1 53 _
  have b51 : 0 ≤ H35 53 24 ∧ H35 53 24 ≤ 120 := hI36.1 53 _
  have b52 : 0 ≤ H35 53 16 ∧ H35 53 16 ≤ 120 := hI36.1 53 _
  have b53 : 0 ≤ H35 53 26 ∧ H35 53 26 ≤ 200 := hI36.1 53 _
  have b54 : 0 ≤ H35 53 27 ∧ H35 53 27 ≤ 61 := hI36.1 53 _
  refine fz_callV (d' := 44) (M' := mX11_isLine) (As := []) (st := []) kX11_law rfl rfl vX11_isLine rfl rfl rfl rfl (Nat.le_of_ble_eq_true rfl) (Nat.le_of_ble_eq_true rfl) (by decide) (sX11_isLine H35 hI36  (by omega) (by omega) (by omega) (by omega) k48) (fun H55 r56 q57 o58 => ?_)
  obtain ⟨hI59, hf60, y67, rfl, p68, f61, f62, f63, f64, f65, f66⟩ := q57
  clear o58
  have hf69 := fz_fr_tr hf37 hf60 (show fz_su [(53, 24), (53, 25), (53, 26), (53, 27), (70, 99999), (71, 99999), (72, 99999), (73, 99999)] [(53, 16), (53, 18), (53, 19), (53, 24), (53, 25), (53, 26), (53, 27), (66, 99999), (67, 99999), (68, 99999), (69, 99999), (70, 99999), (71, 99999), (72, 99999), (73, 99999)] = true from rfl)
  have hXw70 : fz_Xw H55 := fz_Xw_eq (hf60 53 19 rfl) (funext fun s => hf60 66 s rfl) (funext fun s => hf60 67 s rfl) (funext fun s => hf60 68 s rfl) (funext fun s => hf60 69 s rfl) hXw47
  have t71 : H55 53 16 = H35 53 16 := hf60 53 16 rfl
  have t72 : H55 53 19 = H35 53 19 := hf60 53 19 rfl
  refine fz_istore_n (ls' := [(1, fz_i y67), (0, fz_r 53)]) kX11_law rfl (by decide) rfl ?_
  have lp79 : ∀ (n78 : Nat) (x73 : Int) (H75 : fz_H), fz_Iv H75 → fz_fr [(53, 16), (53, 18), (53, 19), (53, 24), (53, 25), (53, 26), (53, 27), (66, 99999), (67, 99999), (68, 99999), (69, 99999), (70, 99999), (71, 99999), (72, 99999), (73, 99999)] h H75 → fz_Xw H75 → (0 ≤ x73 ∧ x73 ≤ 1) → (H75 53 25 = 0) → (H75 53 16 = h 53 16) → (H75 53 24 ≤ h 53 16) → (H75 53 26 ≤ H75 53 24) → (x73 = 1 → 2 * H75 53 27 ≤ H75 53 24 + 1) → (x73 = 1 → fz_Ln H75) → (h 53 16 - H75 53 24).toNat < n78 → fz_R 45 mX11_law 25 [(1, fz_i x73), (0, fz_r 53)] [] H75 (qX11_law h) := by
    intro n78
    induction n78 with
    | zero => intro x73 H75 hI76 hf77 hXw74 hv82 hv83 hv84 hv85 hv86 hv87 hv88 hm81; exact absurd hm81 (by omega)
    | succ n78 ih80 =>
      intro x73 H75 hI76 hf77 hXw74 hv82 hv83 hv84 hv85 hv86 hv87 hv88 hm81
      refine fz_iload_n kX11_law rfl rfl ?_
      refine fz_if_eq (tgt := 46) kX11_law rfl (by decide) (fun c89 => ?_) (fun c89 => ?_)
      · refine fz_iload_n kX11_law rfl rfl ?_
        refine fz_if_eq (tgt := 65) kX11_law rfl (by decide) (fun c90 => ?_) (fun c90 => ?_)
        · refine fz_iconst ⟨by decide, by decide⟩ kX11_law rfl ?_
          refine fz_istore_n (ls' := [(2, fz_i 0), (1, fz_i x73), (0, fz_r 53)]) kX11_law rfl (by decide) rfl ?_
          refine fz_aload_n kX11_law rfl rfl ?_
          refine fz_iconst ⟨by decide, by decide⟩ kX11_law rfl ?_
          refine fz_putI kX11_law rfl rfl rfl ?_
          refine fz_nmu (S := [(53, 16), (53, 18), (53, 19), (53, 24), (53, 25), (53, 26), (53, 27), (66, 99999), (67, 99999), (68, 99999), (69, 99999), (70, 99999), (71, 99999), (72, 99999), (73, 99999)]) (h0 := h) (fz_Iv_up hI76 (by decide) (show (0 : Int) ≤ 0 by decide) (show (0 : Int) ≤ 120 by decide)) (fz_fr_up hf77 rfl) (fun H91 hI92 hf93 e94 => ?_)
          have k95 : H91 53 25 = 0 := by rw [e94]; exact (fz_up_s (by decide)).trans hv83
          have k96 : H91 53 16 = 0 := by rw [e94]; exact fz_up_e
          have t97 : H91 53 24 = H75 53 24 := by rw [e94]; exact fz_up_s (by decide)
          have t98 : H91 53 26 = H75 53 26 := by rw [e94]; exact fz_up_s (by decide)
          have t99 : H91 53 27 = H75 53 27 := by rw [e94]; exact fz_up_s (by decide)
          have t100 : H91 53 19 = H75 53 19 := by rw [e94]; exact fz_up_s (by decide)
          have hXw101 : fz_Xw H91 := fz_Xw_eq (by rw [e94]; exact fz_up_s (by decide)) (by rw [e94]; exact fz_up_ne (by decide)) (by rw [e94]; exact fz_up_ne (by decide)) (by rw [e94]; exact fz_up_ne (by decide)) (by rw [e94]; exact fz_up_ne (by decide)) hXw74
          refine fz_iload_n kX11_law rfl rfl ?_
          refine fz_if_ne (tgt := 84) kX11_law rfl (by decide) (fun c102 => ?_) (fun c102 => ?_)
          · exfalso; omega
          · refine fz_bipush ⟨by decide, by decide⟩ kX11_law rfl ?_
            refine fz_aload_n kX11_law rfl rfl ?_
            obtain ⟨v103, e104⟩ : ∃ z, H91 53 (24) = z := ⟨_, rfl⟩
            refine fz_getV (v := v103) kX11_law rfl rfl e104 ?_
            have b105 : 0 ≤ v103 ∧ v103 ≤ 120 := by rw [← e104]; exact hI92.1 53 _
            refine fz_isubN kX11_law rfl (by omega) ?_
            exact fz_iret kX11_law rfl rfl (fun _ => ⟨hI92, hf93, hXw101, _, rfl, (by omega), (by omega)⟩)
        · exfalso; omega
      · have hLn106 : fz_Ln H75 := hv88 (by omega)
        refine fz_aload_n kX11_law rfl rfl ?_
        refine fz_bipush ⟨by decide, by decide⟩ kX11_law rfl ?_
        have b108 : 0 ≤ H75 53 24 ∧ H75 53 24 ≤ 120 := hI76.1 53 _
        have b109 : 0 ≤ H75 53 16 ∧ H75 53 16 ≤ 120 := hI76.1 53 _
        refine fz_callV (d' := 1) (M' := mX11_is) (As := [fz_i 59]) (st := []) kX11_law rfl rfl vX11_is rfl rfl rfl rfl (Nat.le_of_ble_eq_true rfl) (Nat.le_of_ble_eq_true rfl) (by decide) (sX11_is H75 hI76 59 (by omega) (by omega)) (fun H110 r111 q112 o113 => ?_)
        obtain ⟨hI114, hf115, y117, rfl, p118, f116⟩ := q112
        clear o113
        have hf119 := fz_fr_tr hf77 hf115 (show fz_su [(53, 24)] [(53, 16), (53, 18), (53, 19), (53, 24), (53, 25), (53, 26), (53, 27), (66, 99999), (67, 99999), (68, 99999), (69, 99999), (70, 99999), (71, 99999), (72, 99999), (73, 99999)] = true from rfl)
        have k120 : H110 53 25 = 0 := (hf115 53 25 rfl).trans hv83
        have hXw121 : fz_Xw H110 := fz_Xw_eq (hf115 53 19 rfl) (funext fun s => hf115 66 s rfl) (funext fun s => hf115 67 s rfl) (funext fun s => hf115 68 s rfl) (funext fun s => hf115 69 s rfl) hXw74
        have hLn122 : fz_Ln H110 := fz_Ln_eq (funext fun s => hf115 70 s rfl) (funext fun s => hf115 71 s rfl) (funext fun s => hf115 72 s rfl) (funext fun s => hf115 73 s rfl) (hf115 53 26 rfl) (hf115 53 27 rfl) hLn106
        have t123 : H110 53 16 = H75 53 16 := hf115 53 16 rfl
        have t124 : H110 53 26 = H75 53 26 := hf115 53 26 rfl
        have t125 : H110 53 27 = H75 53 27 := hf115 53 27 rfl
        have t126 : H110 53 19 = H75 53 19 := hf115 53 19 rfl
        refine fz_if_eq (tgt := 46) kX11_law rfl (by decide) (fun c127 => ?_) (fun c127 => ?_)
        · refine fz_iload_n kX11_law rfl rfl ?_
          refine fz_if_eq (tgt := 65) kX11_law rfl (by decide) (fun c128 => ?_) (fun c128 => ?_)
          · exfalso; omega
          · refine fz_aload_n kX11_law rfl rfl ?_
            obtain ⟨v129, e130⟩ : ∃ z, H110 53 (24) = z := ⟨_, rfl⟩
            refine fz_getV (v := v129) kX11_law rfl rfl e130 ?_
            have b131 : 0 ≤ v129 ∧ v129 ≤ 120 := by rw [← e130]; exact hI114.1 53 _
            refine fz_aload_n kX11_law rfl rfl ?_
            obtain ⟨v132, e133⟩ : ∃ z, H110 53 (16) = z := ⟨_, rfl⟩
            refine fz_getV (v := v132) kX11_law rfl rfl e133 ?_
            have b134 : 0 ≤ v132 ∧ v132 ≤ 120 := by rw [← e133]; exact hI114.1 53 _
            refine fz_icmp_ne (tgt := 65) kX11_law rfl (by decide) (fun c135 => ?_) (fun c135 => ?_)
            · refine fz_iconst ⟨by decide, by decide⟩ kX11_law rfl ?_
              refine fz_istore_n (ls' := [(2, fz_i 0), (1, fz_i x73), (0, fz_r 53)]) kX11_law rfl (by decide) rfl ?_
              refine fz_aload_n kX11_law rfl rfl ?_
              refine fz_iconst ⟨by decide, by decide⟩ kX11_law rfl ?_
              refine fz_putI kX11_law rfl rfl rfl ?_
              refine fz_nmu (S := [(53, 16), (53, 18), (53, 19), (53, 24), (53, 25), (53, 26), (53, 27), (66, 99999), (67, 99999), (68, 99999), (69, 99999), (70, 99999), (71, 99999), (72, 99999), (73, 99999)]) (h0 := h) (fz_Iv_up hI114 (by decide) (show (0 : Int) ≤ 0 by decide) (show (0 : Int) ≤ 120 by decide)) (fz_fr_up hf119 rfl) (fun H136 hI137 hf138 e139 => ?_)
              have k140 : H136 53 25 = 0 := by rw [e139]; exact (fz_up_s (by decide)).trans k120
              have k141 : H136 53 24 = v129 := by rw [e139]; exact (fz_up_s (by decide)).trans e130
              have k142 : H136 53 16 = 0 := by rw [e139]; exact fz_up_e
              have t143 : H136 53 24 = H110 53 24 := by rw [e139]; exact fz_up_s (by decide)
              have t144 : H136 53 26 = H110 53 26 := by rw [e139]; exact fz_up_s (by decide)
              have t145 : H136 53 27 = H110 53 27 := by rw [e139]; exact fz_up_s (by decide)
              have t146 : H136 53 19 = H110 53 19 := by rw [e139]; exact fz_up_s (by decide)
              have hXw147 : fz_Xw H136 := fz_Xw_eq (by rw [e139]; exact fz_up_s (by decide)) (by rw [e139]; exact fz_up_ne (by decide)) (by rw [e139]; exact fz_up_ne (by decide)) (by rw [e139]; exact fz_up_ne (by decide)) (by rw [e139]; exact fz_up_ne (by decide)) hXw121
              have hLn148 : fz_Ln H136 := fz_Ln_eq (by rw [e139]; exact fz_up_ne (by decide)) (by rw [e139]; exact fz_up_ne (by decide)) (by rw [e139]; exact fz_up_ne (by decide)) (by rw [e139]; exact fz_up_ne (by decide)) (by rw [e139]; exact fz_up_s (by decide)) (by rw [e139]; exact fz_up_s (by decide)) hLn122
              refine fz_iload_n kX11_law rfl rfl ?_
              refine fz_if_ne (tgt := 84) kX11_law rfl (by decide) (fun c149 => ?_) (fun c149 => ?_)
              · exfalso; omega
              · refine fz_bipush ⟨by decide, by decide⟩ kX11_law rfl ?_
                refine fz_aload_n kX11_law rfl rfl ?_
                refine fz_getV (v := v129) kX11_law rfl rfl k141 ?_
                refine fz_isubN kX11_law rfl (by omega) ?_
                exact fz_iret kX11_law rfl rfl (fun _ => ⟨hI137, hf138, hXw147, _, rfl, (by omega), (by omega)⟩)
            · refine fz_iconst ⟨by decide, by decide⟩ kX11_law rfl ?_
              refine fz_goto (tgt := 66) kX11_law rfl (by decide) ?_
              refine fz_istore_n (ls' := [(2, fz_i 1), (1, fz_i x73), (0, fz_r 53)]) kX11_law rfl (by decide) rfl ?_
              refine fz_aload_n kX11_law rfl rfl ?_
              refine fz_iconst ⟨by decide, by decide⟩ kX11_law rfl ?_
              refine fz_putI kX11_law rfl rfl rfl ?_
              refine fz_nmu (S := [(53, 16), (53, 18), (53, 19), (53, 24), (53, 25), (53, 26), (53, 27), (66, 99999), (67, 99999), (68, 99999), (69, 99999), (70, 99999), (71, 99999), (72, 99999), (73, 99999)]) (h0 := h) (fz_Iv_up hI114 (by decide) (show (0 : Int) ≤ 0 by decide) (show (0 : Int) ≤ 120 by decide)) (fz_fr_up hf119 rfl) (fun H150 hI151 hf152 e153 => ?_)
              have k154 : H150 53 25 = 0 := by rw [e153]; exact (fz_up_s (by decide)).trans k120
              have k155 : H150 53 24 = v129 := by rw [e153]; exact (fz_up_s (by decide)).trans e130
              have k156 : H150 53 16 = 0 := by rw [e153]; exact fz_up_e
              have t157 : H150 53 24 = H110 53 24 := by rw [e153]; exact fz_up_s (by decide)
              have t158 : H150 53 26 = H110 53 26 := by rw [e153]; exact fz_up_s (by decide)
              have t159 : H150 53 27 = H110 53 27 := by rw [e153]; exact fz_up_s (by decide)
              have t160 : H150 53 19 = H110 53 19 := by rw [e153]; exact fz_up_s (by decide)
              have hXw161 : fz_Xw H150 := fz_Xw_eq (by rw [e153]; exact fz_up_s (by decide)) (by rw [e153]; exact fz_up_ne (by decide)) (by rw [e153]; exact fz_up_ne (by decide)) (by rw [e153]; exact fz_up_ne (by decide)) (by rw [e153]; exact fz_up_ne (by decide)) hXw121
              have hLn162 : fz_Ln H150 := fz_Ln_eq (by rw [e153]; exact fz_up_ne (by decide)) (by rw [e153]; exact fz_up_ne (by decide)) (by rw [e153]; exact fz_up_ne (by decide)) (by rw [e153]; exact fz_up_ne (by decide)) (by rw [e153]; exact fz_up_s (by decide)) (by rw [e153]; exact fz_up_s (by decide)) hLn122
              refine fz_iload_n kX11_law rfl rfl ?_
              refine fz_if_ne (tgt := 84) kX11_law rfl (by decide) (fun c163 => ?_) (fun c163 => ?_)
              · refine fz_aload_n kX11_law rfl rfl ?_
                refine fz_iconst ⟨by decide, by decide⟩ kX11_law rfl ?_
                refine fz_putZ kX11_law rfl rfl rfl (by omega) ?_
                refine fz_nmu (S := [(53, 16), (53, 18), (53, 19), (53, 24), (53, 25), (53, 26), (53, 27), (66, 99999), (67, 99999), (68, 99999), (69, 99999), (70, 99999), (71, 99999), (72, 99999), (73, 99999)]) (h0 := h) (fz_Iv_up hI151 (by decide) (show (0 : Int) ≤ 1 by decide) (show (1 : Int) ≤ 1 by decide)) (fz_fr_up hf152 rfl) (fun H164 hI165 hf166 e167 => ?_)
                have k168 : H164 53 25 = 0 := by rw [e167]; exact (fz_up_s (by decide)).trans k154
                have k169 : H164 53 24 = v129 := by rw [e167]; exact (fz_up_s (by decide)).trans k155
                have k170 : H164 53 16 = 0 := by rw [e167]; exact (fz_up_s (by decide)).trans k156
                have k171 : H164 53 18 = 1 := by rw [e167]; exact fz_up_e
                have t172 : H164 53 16 = H150 53 16 := by rw [e167]; exact fz_up_s (by decide)
                have t173 : H164 53 24 = H150 53 24 := by rw [e167]; exact fz_up_s (by decide)
                have t174 : H164 53 26 = H150 53 26 := by rw [e167]; exact fz_up_s (by decide)
                have t175 : H164 53 27 = H150 53 27 := by rw [e167]; exact fz_up_s (by decide)
                have t176 : H164 53 19 = H150 53 19 := by rw [e167]; exact fz_up_s (by decide)
                have hXw177 : fz_Xw H164 := fz_Xw_eq (by rw [e167]; exact fz_up_s (by decide)) (by rw [e167]; exact fz_up_ne (by decide)) (by rw [e167]; exact fz_up_ne (by decide)) (by rw [e167]; exact fz_up_ne (by decide)) (by rw [e167]; exact fz_up_ne (by decide)) hXw161
                have hLn178 : fz_Ln H164 := fz_Ln_eq (by rw [e167]; exact fz_up_ne (by decide)) (by rw [e167]; exact fz_up_ne (by decide)) (by rw [e167]; exact fz_up_ne (by decide)) (by rw [e167]; exact fz_up_ne (by decide)) (by rw [e167]; exact fz_up_s (by decide)) (by rw [e167]; exact fz_up_s (by decide)) hLn162
                refine fz_aload_n kX11_law rfl rfl ?_
                refine fz_aload_n kX11_law rfl rfl ?_
                obtain ⟨v179, e180⟩ : ∃ z, H164 53 (27) = z := ⟨_, rfl⟩
                refine fz_getV (v := v179) kX11_law rfl rfl e180 ?_
                have b181 : 0 ≤ v179 ∧ v179 ≤ 61 := by rw [← e180]; exact hI165.1 53 _
                refine fz_putI kX11_law rfl rfl rfl ?_
                refine fz_nmu (S := [(53, 16), (53, 18), (53, 19), (53, 24), (53, 25), (53, 26), (53, 27), (66, 99999), (67, 99999), (68, 99999), (69, 99999), (70, 99999), (71, 99999), (72, 99999), (73, 99999)]) (h0 := h) (fz_Iv_up hI165 (by decide) (show (0 : Int) ≤ v179 by omega) (show (v179 : Int) ≤ 60 by omega)) (fz_fr_up hf166 rfl) (fun H182 hI183 hf184 e185 => ?_)
                have k186 : H182 53 25 = 0 := by rw [e185]; exact (fz_up_s (by decide)).trans k168
                have k187 : H182 53 24 = v129 := by rw [e185]; exact (fz_up_s (by decide)).trans k169
                have k188 : H182 53 16 = 0 := by rw [e185]; exact (fz_up_s (by decide)).trans k170
                have k189 : H182 53 18 = 1 := by rw [e185]; exact (fz_up_s (by decide)).trans k171
                have k190 : H182 53 27 = v179 := by rw [e185]; exact (fz_up_s (by decide)).trans e180
                have k191 : H182 53 19 = v179 := by rw [e185]; exact fz_up_e
                have t192 : H182 53 16 = H164 53 16 := by rw [e185]; exact fz_up_s (by decide)
                have t193 : H182 53 24 = H164 53 24 := by rw [e185]; exact fz_up_s (by decide)
                have t194 : H182 53 26 = H164 53 26 := by rw [e185]; exact fz_up_s (by decide)
                have t195 : H182 53 27 = H164 53 27 := by rw [e185]; exact fz_up_s (by decide)
                have hLn197 : fz_Ln H182 := fz_Ln_eq (by rw [e185]; exact fz_up_ne (by decide)) (by rw [e185]; exact fz_up_ne (by decide)) (by rw [e185]; exact fz_up_ne (by decide)) (by rw [e185]; exact fz_up_ne (by decide)) (by rw [e185]; exact fz_up_s (by decide)) (by rw [e185]; exact fz_up_s (by decide)) hLn178
                refine fz_iconst ⟨by decide, by decide⟩ kX11_law rfl ?_
                refine fz_istore_n (ls' := [(3, fz_i 0), (2, fz_i 1), (1, fz_i x73), (0, fz_r 53)]) kX11_law rfl (by decide) rfl ?_
                have lp204 : ∀ (n203 : Nat) (x198 : Int) (H200 : fz_H), fz_Iv H200 → fz_fr [(53, 16), (53, 18), (53, 19), (53, 24), (53, 25), (53, 26), (53, 27), (66, 99999), (67, 99999), (68, 99999), (69, 99999), (70, 99999), (71, 99999), (72, 99999), (73, 99999)] h H200 → fz_Ln H200 → (0 ≤ x198 ∧ x198 ≤ 2147483647) → (H200 53 19 = H200 53 27) → (H200 53 19 ≤ 60) → (H200 53 16 = 0) → (fz_C3 H200 x198) → (H200 53 19 - x198).toNat < n203 → fz_R 45 mX11_law 99 [(3, fz_i x198), (2, fz_i 1), (1, fz_i x73), (0, fz_r 53)] [] H200 (qX11_law h) := by
                  intro n203
                  induction n203 with
                  | zero => intro x198 H200 hI201 hf202 hLn199 hv207 hv208 hv209 hv210 hv211 hm206; exact absurd hm206 (by omega)
                  | succ n203 ih205 =>
                    intro x198 H200 hI201 hf202 hLn199 hv207 hv208 hv209 hv210 hv211 hm206
                    refine fz_iload_n kX11_law rfl rfl ?_
                    refine fz_aload_n kX11_law rfl rfl ?_
                    obtain ⟨v212, e213⟩ : ∃ z, H200 53 (19) = z := ⟨_, rfl⟩
                    refine fz_getV (v := v212) kX11_law rfl rfl e213 ?_
                    have b214 : 0 ≤ v212 ∧ v212 ≤ 60 := by rw [← e213]; exact hI201.1 53 _
                    refine fz_icmp_ge (tgt := 149) kX11_law rfl (by decide) (fun c215 => ?_) (fun c215 => ?_)
                    · have hC3f216 : fz_C3f H200 := fun j z => hv211 j (by omega)
                      refine fz_iconst ⟨by decide, by decide⟩ kX11_law rfl ?_
                      refine fz_istore_n (ls' := [(3, fz_i 0), (2, fz_i 1), (1, fz_i x73), (0, fz_r 53)]) kX11_law rfl (by decide) rfl ?_
                      have lp225 : ∀ (n224 : Nat) (x218 : Int) (H221 : fz_H), fz_Iv H221 → fz_fr [(53, 16), (53, 18), (53, 19), (53, 24), (53, 25), (53, 26), (53, 27), (66, 99999), (67, 99999), (68, 99999), (69, 99999), (70, 99999), (71, 99999), (72, 99999), (73, 99999)] h H221 → fz_Ln H221 → fz_C3f H221 → (0 ≤ x218 ∧ x218 ≤ 2147483647) → (H221 53 19 = H221 53 27) → (H221 53 16 = 0) → (fz_C4 H221 x218) → (H221 53 26 - x218).toNat < n224 → fz_R 45 mX11_law 151 [(3, fz_i x218), (2, fz_i 1), (1, fz_i x73), (0, fz_r 53)] [] H221 (qX11_law h) := by
                        intro n224
                        induction n224 with
                        | zero => intro x218 H221 hI222 hf223 hLn219 hC3f220 hv228 hv229 hv230 hv231 hm227; exact absurd hm227 (by omega)
                        | succ n224 ih226 =>
                          intro x218 H221 hI222 hf223 hLn219 hC3f220 hv228 hv229 hv230 hv231 hm227
                          refine fz_iload_n kX11_law rfl rfl ?_
                          refine fz_aload_n kX11_law rfl rfl ?_
                          obtain ⟨v232, e233⟩ : ∃ z, H221 53 (26) = z := ⟨_, rfl⟩
                          refine fz_getV (v := v232) kX11_law rfl rfl e233 ?_
                          have b234 : 0 ≤ v232 ∧ v232 ≤ 200 := by rw [← e233]; exact hI222.1 53 _
                          refine fz_icmp_ge (tgt := 177) kX11_law rfl (by decide) (fun c235 => ?_) (fun c235 => ?_)
                          · have hXw236 : fz_Xw H221 := fz_Xw_in hLn219 hC3f220 hv231 (by omega) (by omega) (by omega)
                            refine fz_iconst ⟨by decide, by decide⟩ kX11_law rfl ?_
                            exact fz_iret kX11_law rfl rfl (fun _ => ⟨hI222, hf223, hXw236, _, rfl, (by omega), (by omega)⟩)
                          · refine fz_aload_n kX11_law rfl rfl ?_
                            refine fz_getR (t := 69) kX11_law rfl rfl ?_
                            refine fz_iload_n kX11_law rfl rfl ?_
                            refine fz_aload_n kX11_law rfl rfl ?_
                            refine fz_getR (t := 73) kX11_law rfl rfl ?_
                            refine fz_iload_n kX11_law rfl rfl ?_
                            obtain ⟨v238, e239⟩ : ∃ z, H221 73 (x218.toNat) = z := ⟨_, rfl⟩
                            refine fz_ialdV (n := 200) (v := v238) kX11_law rfl rfl (by omega) (by omega) e239 ?_
                            have b240 : (-2147483648) ≤ v238 ∧ v238 ≤ 2147483647 := by rw [← e239]; exact hI222.1 73 _
                            refine fz_iast (n := 200) kX11_law rfl rfl (by omega) (by omega) ?_
                            refine fz_nmu (S := [(53, 16), (53, 18), (53, 19), (53, 24), (53, 25), (53, 26), (53, 27), (66, 99999), (67, 99999), (68, 99999), (69, 99999), (70, 99999), (71, 99999), (72, 99999), (73, 99999)]) (h0 := h) (fz_Iv_up hI222 (by decide) (show ((-2147483648) : Int) ≤ v238 by omega) (show (v238 : Int) ≤ 2147483647 by omega)) (fz_fr_up hf223 rfl) (fun H241 hI242 hf243 e244 => ?_)
                            have k245 : H241 53 26 = v232 := by rw [e244]; exact (fz_up_o (by decide)).trans e233
                            have t246 : H241 53 16 = H221 53 16 := by rw [e244]; exact fz_up_o (by decide)
                            have t247 : H241 53 24 = H221 53 24 := by rw [e244]; exact fz_up_o (by decide)
                            have t248 : H241 53 26 = H221 53 26 := by rw [e244]; exact fz_up_o (by decide)
                            have t249 : H241 53 27 = H221 53 27 := by rw [e244]; exact fz_up_o (by decide)
                            have t250 : H241 53 19 = H221 53 19 := by rw [e244]; exact fz_up_o (by decide)
                            have hLn251 : fz_Ln H241 := fz_Ln_eq (by rw [e244]; exact fz_up_ne (by decide)) (by rw [e244]; exact fz_up_ne (by decide)) (by rw [e244]; exact fz_up_ne (by decide)) (by rw [e244]; exact fz_up_ne (by decide)) (by rw [e244]; exact fz_up_o (by decide)) (by rw [e244]; exact fz_up_o (by decide)) hLn219
                            have hC3f252 : fz_C3f H241 := fz_C3f_eq (by rw [e244]; exact fz_up_o (by decide)) (by rw [e244]; exact fz_up_ne (by decide)) (by rw [e244]; exact fz_up_ne (by decide)) (by rw [e244]; exact fz_up_ne (by decide)) (by rw [e244]; exact fz_up_ne (by decide)) (by rw [e244]; exact fz_up_ne (by decide)) (by rw [e244]; exact fz_up_ne (by decide)) hC3f220
                            refine fz_iincN (ls' := [(3, fz_i (x218 + 1)), (2, fz_i 1), (1, fz_i x73), (0, fz_r 53)]) kX11_law rfl (by decide) rfl (by omega) rfl ?_
                            refine fz_goto (tgt := 151) kX11_law rfl (by decide) ?_
                            exact ih226 (x218 + 1) H241 hI242 hf243 hLn251 hC3f252 (by omega) (by omega) (by omega) (fz_C4_st hv231 (by omega) e244 e239) (by omega)
                      exact lp225 _ 0 H200 hI201 hf202 hLn199 hC3f216 (by omega) (by omega) (by omega) (fz_C4_0) (Nat.lt_succ_self _)
                    · refine fz_aload_n kX11_law rfl rfl ?_
                      refine fz_getR (t := 66) kX11_law rfl rfl ?_
                      refine fz_iload_n kX11_law rfl rfl ?_
                      refine fz_aload_n kX11_law rfl rfl ?_
                      refine fz_getR (t := 70) kX11_law rfl rfl ?_
                      refine fz_iload_n kX11_law rfl rfl ?_
                      obtain ⟨v255, e256⟩ : ∃ z, H200 70 (x198.toNat) = z := ⟨_, rfl⟩
                      refine fz_ialdV (n := 61) (v := v255) kX11_law rfl rfl (by omega) (by omega) e256 ?_
                      have b257 : 0 ≤ v255 ∧ v255 ≤ 200 := by rw [← e256]; exact hI201.1 70 _
                      refine fz_iast (n := 60) kX11_law rfl rfl (by omega) (by omega) ?_
                      refine fz_nmu (S := [(53, 16), (53, 18), (53, 19), (53, 24), (53, 25), (53, 26), (53, 27), (66, 99999), (67, 99999), (68, 99999), (69, 99999), (70, 99999), (71, 99999), (72, 99999), (73, 99999)]) (h0 := h) (fz_Iv_up hI201 (by decide) (show (0 : Int) ≤ v255 by omega) (show (v255 : Int) ≤ 200 by omega)) (fz_fr_up hf202 rfl) (fun H258 hI259 hf260 e261 => ?_)
                      have k262 : H258 53 19 = v212 := by rw [e261]; exact (fz_up_o (by decide)).trans e213
                      have t263 : H258 53 16 = H200 53 16 := by rw [e261]; exact fz_up_o (by decide)
                      have t264 : H258 53 24 = H200 53 24 := by rw [e261]; exact fz_up_o (by decide)
                      have t265 : H258 53 26 = H200 53 26 := by rw [e261]; exact fz_up_o (by decide)
                      have t266 : H258 53 27 = H200 53 27 := by rw [e261]; exact fz_up_o (by decide)
                      have t267 : H258 53 19 = H200 53 19 := by rw [e261]; exact fz_up_o (by decide)
                      have hLn268 : fz_Ln H258 := fz_Ln_eq (by rw [e261]; exact fz_up_ne (by decide)) (by rw [e261]; exact fz_up_ne (by decide)) (by rw [e261]; exact fz_up_ne (by decide)) (by rw [e261]; exact fz_up_ne (by decide)) (by rw [e261]; exact fz_up_o (by decide)) (by rw [e261]; exact fz_up_o (by decide)) hLn199
                      refine fz_aload_n kX11_law rfl rfl ?_
                      refine fz_getR (t := 67) kX11_law rfl rfl ?_
                      refine fz_iload_n kX11_law rfl rfl ?_
                      refine fz_aload_n kX11_law rfl rfl ?_
                      refine fz_getR (t := 71) kX11_law rfl rfl ?_
                      refine fz_iload_n kX11_law rfl rfl ?_
                      obtain ⟨v269, e270⟩ : ∃ z, H258 71 (x198.toNat) = z := ⟨_, rfl⟩
                      refine fz_ialdV (n := 61) (v := v269) kX11_law rfl rfl (by omega) (by omega) e270 ?_
                      have b271 : 0 ≤ v269 ∧ v269 ≤ 200 := by rw [← e270]; exact hI259.1 71 _
                      refine fz_iast (n := 60) kX11_law rfl rfl (by omega) (by omega) ?_
                      refine fz_nmu (S := [(53, 16), (53, 18), (53, 19), (53, 24), (53, 25), (53, 26), (53, 27), (66, 99999), (67, 99999), (68, 99999), (69, 99999), (70, 99999), (71, 99999), (72, 99999), (73, 99999)]) (h0 := h) (fz_Iv_up hI259 (by decide) (show (0 : Int) ≤ v269 by omega) (show (v269 : Int) ≤ 200 by omega)) (fz_fr_up hf260 rfl) (fun H272 hI273 hf274 e275 => ?_)
                      have k276 : H272 53 19 = v212 := by rw [e275]; exact (fz_up_o (by decide)).trans k262
                      have t277 : H272 53 16 = H258 53 16 := by rw [e275]; exact fz_up_o (by decide)
                      have t278 : H272 53 24 = H258 53 24 := by rw [e275]; exact fz_up_o (by decide)
                      have t279 : H272 53 26 = H258 53 26 := by rw [e275]; exact fz_up_o (by decide)
                      have t280 : H272 53 27 = H258 53 27 := by rw [e275]; exact fz_up_o (by decide)
                      have t281 : H272 53 19 = H258 53 19 := by rw [e275]; exact fz_up_o (by decide)
                      have hLn282 : fz_Ln H272 := fz_Ln_eq (by rw [e275]; exact fz_up_ne (by decide)) (by rw [e275]; exact fz_up_ne (by decide)) (by rw [e275]; exact fz_up_ne (by decide)) (by rw [e275]; exact fz_up_ne (by decide)) (by rw [e275]; exact fz_up_o (by decide)) (by rw [e275]; exact fz_up_o (by decide)) hLn268
                      refine fz_aload_n kX11_law rfl rfl ?_
                      refine fz_getR (t := 68) kX11_law rfl rfl ?_
                      refine fz_iload_n kX11_law rfl rfl ?_
                      refine fz_aload_n kX11_law rfl rfl ?_
                      refine fz_getR (t := 72) kX11_law rfl rfl ?_
                      refine fz_iload_n kX11_law rfl rfl ?_
                      obtain ⟨v283, e284⟩ : ∃ z, H272 72 (x198.toNat) = z := ⟨_, rfl⟩
                      refine fz_ialdV (n := 61) (v := v283) kX11_law rfl rfl (by omega) (by omega) e284 ?_
                      have b285 : 0 ≤ v283 ∧ v283 ≤ 200 := by rw [← e284]; exact hI273.1 72 _
                      refine fz_iast (n := 60) kX11_law rfl rfl (by omega) (by omega) ?_
                      refine fz_nmu (S := [(53, 16), (53, 18), (53, 19), (53, 24), (53, 25), (53, 26), (53, 27), (66, 99999), (67, 99999), (68, 99999), (69, 99999), (70, 99999), (71, 99999), (72, 99999), (73, 99999)]) (h0 := h) (fz_Iv_up hI273 (by decide) (show (0 : Int) ≤ v283 by omega) (show (v283 : Int) ≤ 200 by omega)) (fz_fr_up hf274 rfl) (fun H286 hI287 hf288 e289 => ?_)
                      have k290 : H286 53 19 = v212 := by rw [e289]; exact (fz_up_o (by decide)).trans k276
                      have t291 : H286 53 16 = H272 53 16 := by rw [e289]; exact fz_up_o (by decide)
                      have t292 : H286 53 24 = H272 53 24 := by rw [e289]; exact fz_up_o (by decide)
                      have t293 : H286 53 26 = H272 53 26 := by rw [e289]; exact fz_up_o (by decide)
                      have t294 : H286 53 27 = H272 53 27 := by rw [e289]; exact fz_up_o (by decide)
                      have t295 : H286 53 19 = H272 53 19 := by rw [e289]; exact fz_up_o (by decide)
                      have hLn296 : fz_Ln H286 := fz_Ln_eq (by rw [e289]; exact fz_up_ne (by decide)) (by rw [e289]; exact fz_up_ne (by decide)) (by rw [e289]; exact fz_up_ne (by decide)) (by rw [e289]; exact fz_up_ne (by decide)) (by rw [e289]; exact fz_up_o (by decide)) (by rw [e289]; exact fz_up_o (by decide)) hLn282
                      refine fz_iincN (ls' := [(3, fz_i (x198 + 1)), (2, fz_i 1), (1, fz_i x73), (0, fz_r 53)]) kX11_law rfl (by decide) rfl (by omega) rfl ?_
                      refine fz_goto (tgt := 99) kX11_law rfl (by decide) ?_
                      exact ih205 (x198 + 1) H286 hI287 hf288 hLn296 (by omega) (by omega) (by omega) (by omega) (fz_C3_st hv211 (by omega) e261 e256 e275 e270 e289 e284) (by omega)
                exact lp204 _ 0 H182 hI183 hf184 hLn197 (by omega) (by omega) (by omega) (by omega) (fz_C3_0) (Nat.lt_succ_self _)
              · exfalso; omega
        · refine fz_aload_n kX11_law rfl rfl ?_
          have k299 := hLn122
          have b301 : 0 ≤ H110 53 25 ∧ H110 53 25 ≤ 6 := hI114.1 53 _
          have b302 : 0 ≤ H110 53 24 ∧ H110 53 24 ≤ 120 := hI114.1 53 _
          have b303 : 0 ≤ H110 53 16 ∧ H110 53 16 ≤ 120 := hI114.1 53 _
          have b304 : 0 ≤ H110 53 26 ∧ H110 53 26 ≤ 200 := hI114.1 53 _
          have b305 : 0 ≤ H110 53 27 ∧ H110 53 27 ≤ 61 := hI114.1 53 _
          refine fz_callV (d' := 44) (M' := mX11_isLine) (As := []) (st := []) kX11_law rfl rfl vX11_isLine rfl rfl rfl rfl (Nat.le_of_ble_eq_true rfl) (Nat.le_of_ble_eq_true rfl) (by decide) (sX11_isLine H110 hI114  (by omega) (by omega) (by omega) (by omega) k299) (fun H306 r307 q308 o309 => ?_)
          obtain ⟨hI310, hf311, y318, rfl, p319, f312, f313, f314, f315, f316, f317⟩ := q308
          clear o309
          have hf320 := fz_fr_tr hf119 hf311 (show fz_su [(53, 24), (53, 25), (53, 26), (53, 27), (70, 99999), (71, 99999), (72, 99999), (73, 99999)] [(53, 16), (53, 18), (53, 19), (53, 24), (53, 25), (53, 26), (53, 27), (66, 99999), (67, 99999), (68, 99999), (69, 99999), (70, 99999), (71, 99999), (72, 99999), (73, 99999)] = true from rfl)
          have hXw321 : fz_Xw H306 := fz_Xw_eq (hf311 53 19 rfl) (funext fun s => hf311 66 s rfl) (funext fun s => hf311 67 s rfl) (funext fun s => hf311 68 s rfl) (funext fun s => hf311 69 s rfl) hXw121
          have t322 : H306 53 16 = H110 53 16 := hf311 53 16 rfl
          have t323 : H306 53 19 = H110 53 19 := hf311 53 19 rfl
          refine fz_istore_n (ls' := [(1, fz_i y318), (0, fz_r 53)]) kX11_law rfl (by decide) rfl ?_
          refine fz_goto (tgt := 25) kX11_law rfl (by decide) ?_
          exact ih80 y318 H306 hI310 hf320 hXw321 (by omega) (by omega) (by omega) (by omega) (by omega) (by omega) (f317) (by omega)
  exact lp79 _ y67 H55 hI59 hf69 hXw70 (by omega) (by omega) (by omega) (by omega) (by omega) (by omega) (f66) (Nat.lt_succ_self _)
