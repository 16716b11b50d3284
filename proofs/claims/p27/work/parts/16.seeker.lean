/-! ===== what the methods keep ===== -/
abbrev qX6_townAt (h : fz_H) (k : Int) : fz_H → Option fz_V → Prop := fun h' r0 => h' = h ∧ ∃ r : Int, r0 = some (fz_i r) ∧ ((-2147483648) ≤ r ∧ r ≤ 2147483647) ∧ (r = fl_tA (h 33 6) (h 33 7) k)
set_option maxHeartbeats 1000000 in
set_option maxRecDepth 100000 in
theorem sX6_townAt (h : fz_H) (hI : fz_Iv h) (k : Int) : fz_R 0 mX6_townAt 0 [(0, fz_r 33), (1, fz_i k)] [] h (qX6_townAt h k) := by
  refine fz_knowl (fun hk => ?_)
  have hr_k : -2147483648 ≤ k ∧ k < 2147483648 := hk _ (List.Mem.tail _ (List.Mem.head _))
  clear hk
  have b1 : 0 ≤ h 33 6 ∧ h 33 6 ≤ 4 := hI.1 33 _
  have b2 : (-2147483648) ≤ h 33 7 ∧ h 33 7 ≤ 2147483647 := hI.1 33 _
  refine fz_iload_n kX6_townAt rfl rfl ?_
  refine fz_if_lt (tgt := 12) kX6_townAt rfl (by decide) (fun c3 => ?_) (fun c3 => ?_)
  · refine fz_bipush ⟨by decide, by decide⟩ kX6_townAt rfl ?_
    refine fz_goto (tgt := 35) kX6_townAt rfl (by decide) ?_
    exact fz_iret kX6_townAt rfl rfl (fun _ => ⟨rfl, _, rfl, (by omega), (by first | exact fl_tA_n (by omega) | exact fl_tA_y (by omega) rfl)⟩)
  · refine fz_iload_n kX6_townAt rfl rfl ?_
    refine fz_aload_n kX6_townAt rfl rfl ?_
    refine fz_getV (v := h 33 6) kX6_townAt rfl rfl rfl ?_
    have b5 : 0 ≤ h 33 6 ∧ h 33 6 ≤ 4 := hI.1 33 _
    refine fz_icmp_lt (tgt := 17) kX6_townAt rfl (by decide) (fun c6 => ?_) (fun c6 => ?_)
    · refine fz_aload_n kX6_townAt rfl rfl ?_
      refine fz_getV (v := h 33 7) kX6_townAt rfl rfl rfl ?_
      have b7 : (-2147483648) ≤ h 33 7 ∧ h 33 7 ≤ 2147483647 := hI.1 33 _
      refine fz_iconst ⟨by decide, by decide⟩ kX6_townAt rfl ?_
      refine fz_aload_n kX6_townAt rfl rfl ?_
      refine fz_getV (v := h 33 6) kX6_townAt rfl rfl rfl ?_
      refine fz_iconst ⟨by decide, by decide⟩ kX6_townAt rfl ?_
      refine fz_isubN kX6_townAt rfl (by omega) ?_
      refine fz_iload_n kX6_townAt rfl rfl ?_
      refine fz_isubN kX6_townAt rfl (by omega) ?_
      refine fz_imulN kX6_townAt rfl (by omega) ?_
      refine fz_ishr kX6_townAt rfl ?_
      have b8 : -2147483648 ≤ (fz_shr (h 33 7) (3 * (((h 33 6) - 1) - k))) ∧ (fz_shr (h 33 7) (3 * (((h 33 6) - 1) - k))) < 2147483648 := fz_b32 _
      refine fz_bipush ⟨by decide, by decide⟩ kX6_townAt rfl ?_
      refine fz_iand kX6_townAt rfl ?_
      have b9 : -2147483648 ≤ (fz_and (fz_shr (h 33 7) (3 * (((h 33 6) - 1) - k))) 7) ∧ (fz_and (fz_shr (h 33 7) (3 * (((h 33 6) - 1) - k))) 7) < 2147483648 := fz_b32 _
      exact fz_iret kX6_townAt rfl rfl (fun _ => ⟨rfl, _, rfl, (by omega), (by first | exact fl_tA_n (by omega) | exact fl_tA_y (by omega) rfl)⟩)
    · refine fz_bipush ⟨by decide, by decide⟩ kX6_townAt rfl ?_
      refine fz_goto (tgt := 35) kX6_townAt rfl (by decide) ?_
      exact fz_iret kX6_townAt rfl rfl (fun _ => ⟨rfl, _, rfl, (by omega), (by first | exact fl_tA_n (by omega) | exact fl_tA_y (by omega) rfl)⟩)

abbrev qX6_compare (h : fz_H) (ro su rt : Int) : fz_H → Option fz_V → Prop := fun h' r0 => fz_Iv h' ∧ fz_fr [(33, 5), (33, 6), (33, 7)] h h' ∧ r0 = none ∧ (h' 33 5, h' 33 6, h' 33 7) = fl_cmr ro su rt (h 33 5, h 33 6, h 33 7)
set_option maxHeartbeats 1000000 in
set_option maxRecDepth 100000 in
theorem sX6_compare (h : fz_H) (hI : fz_Iv h) (ro su rt : Int) (hp0 : 0 ≤ ro ∧ ro ≤ 4) : fz_R 0 mX6_compare 0 [(0, fz_r 33), (1, fz_i ro), (2, fz_i su), (3, fz_i rt)] [] h (qX6_compare h ro su rt) := by
  refine fz_knowl (fun hk => ?_)
  have hr_ro : -2147483648 ≤ ro ∧ ro < 2147483648 := hk _ (List.Mem.tail _ (List.Mem.head _))
  have hr_su : -2147483648 ≤ su ∧ su < 2147483648 := hk _ (List.Mem.tail _ (List.Mem.tail _ (List.Mem.head _)))
  have hr_rt : -2147483648 ≤ rt ∧ rt < 2147483648 := hk _ (List.Mem.tail _ (List.Mem.tail _ (List.Mem.tail _ (List.Mem.head _))))
  clear hk
  have hf : fz_fr [(33, 5), (33, 6), (33, 7)] h h := fz_fr_rf
  have b1 : (-2147483648) ≤ h 33 5 ∧ h 33 5 ≤ 2147483647 := hI.1 33 _
  have b2 : 0 ≤ h 33 6 ∧ h 33 6 ≤ 4 := hI.1 33 _
  have b3 : (-2147483648) ≤ h 33 7 ∧ h 33 7 ≤ 2147483647 := hI.1 33 _
  refine fz_iload_n kX6_compare rfl rfl ?_
  refine fz_aload_n kX6_compare rfl rfl ?_
  refine fz_getV (v := h 33 5) kX6_compare rfl rfl rfl ?_
  have b4 : (-2147483648) ≤ h 33 5 ∧ h 33 5 ≤ 2147483647 := hI.1 33 _
  refine fz_icmp_gt (tgt := 40) kX6_compare rfl (by decide) (fun c5 => ?_) (fun c5 => ?_)
  · refine fz_iconst ⟨by decide, by decide⟩ kX6_compare rfl ?_
    refine fz_goto (tgt := 45) kX6_compare rfl (by decide) ?_
    refine fz_istore (ls' := [(4, fz_i 1), (0, fz_r 33), (1, fz_i ro), (2, fz_i su), (3, fz_i rt)]) kX6_compare rfl (by decide) rfl ?_
    refine fz_iload kX6_compare rfl rfl ?_
    refine fz_if_eq (tgt := 67) kX6_compare rfl (by decide) (fun c6 => ?_) (fun c6 => ?_)
    · exfalso; omega
    · refine fz_aload_n kX6_compare rfl rfl ?_
      refine fz_iload_n kX6_compare rfl rfl ?_
      refine fz_putI kX6_compare rfl rfl rfl ?_
      refine fz_nmu (S := [(33, 5), (33, 6), (33, 7)]) (h0 := h) (fz_Iv_up hI (by decide) (show ((-2147483648) : Int) ≤ su by omega) (show (su : Int) ≤ 2147483647 by omega)) (fz_fr_up hf rfl) (fun H7 hI8 hf9 e10 => ?_)
      have k11 : H7 33 6 = (h 33 6) := by rw [e10]; exact (fz_up_s (by decide)).trans rfl
      have k12 : H7 33 7 = (h 33 7) := by rw [e10]; exact (fz_up_s (by decide)).trans rfl
      have k13 : H7 33 5 = su := by rw [e10]; exact fz_up_e
      have t14 : H7 33 6 = h 33 6 := by rw [e10]; exact fz_up_s (by decide)
      have t15 : H7 33 7 = h 33 7 := by rw [e10]; exact fz_up_s (by decide)
      refine fz_aload_n kX6_compare rfl rfl ?_
      refine fz_iload_n kX6_compare rfl rfl ?_
      refine fz_putI kX6_compare rfl rfl rfl ?_
      refine fz_nmu (S := [(33, 5), (33, 6), (33, 7)]) (h0 := h) (fz_Iv_up hI8 (by decide) (show (0 : Int) ≤ ro by omega) (show (ro : Int) ≤ 4 by omega)) (fz_fr_up hf9 rfl) (fun H16 hI17 hf18 e19 => ?_)
      have k20 : H16 33 7 = (h 33 7) := by rw [e19]; exact (fz_up_s (by decide)).trans k12
      have k21 : H16 33 5 = su := by rw [e19]; exact (fz_up_s (by decide)).trans k13
      have k22 : H16 33 6 = ro := by rw [e19]; exact fz_up_e
      have t23 : H16 33 5 = H7 33 5 := by rw [e19]; exact fz_up_s (by decide)
      have t24 : H16 33 7 = H7 33 7 := by rw [e19]; exact fz_up_s (by decide)
      refine fz_aload_n kX6_compare rfl rfl ?_
      refine fz_iload_n kX6_compare rfl rfl ?_
      refine fz_putI kX6_compare rfl rfl rfl ?_
      refine fz_nmu (S := [(33, 5), (33, 6), (33, 7)]) (h0 := h) (fz_Iv_up hI17 (by decide) (show ((-2147483648) : Int) ≤ rt by omega) (show (rt : Int) ≤ 2147483647 by omega)) (fz_fr_up hf18 rfl) (fun H25 hI26 hf27 e28 => ?_)
      have k29 : H25 33 5 = su := by rw [e28]; exact (fz_up_s (by decide)).trans k21
      have k30 : H25 33 6 = ro := by rw [e28]; exact (fz_up_s (by decide)).trans k22
      have k31 : H25 33 7 = rt := by rw [e28]; exact fz_up_e
      have t32 : H25 33 5 = H16 33 5 := by rw [e28]; exact fz_up_s (by decide)
      have t33 : H25 33 6 = H16 33 6 := by rw [e28]; exact fz_up_s (by decide)
      exact fz_vret kX6_compare rfl rfl ⟨hI26, hf27, rfl, (by first | exact fl_cmr_n (by omega) | (rw [show H25 33 5 = su by omega, show H25 33 6 = ro by omega, show H25 33 7 = rt by omega]; exact fl_cmr_y (by omega)))⟩
  · refine fz_iload_n kX6_compare rfl rfl ?_
    refine fz_aload_n kX6_compare rfl rfl ?_
    refine fz_getV (v := h 33 5) kX6_compare rfl rfl rfl ?_
    refine fz_icmp_ne (tgt := 44) kX6_compare rfl (by decide) (fun c35 => ?_) (fun c35 => ?_)
    · refine fz_iconst ⟨by decide, by decide⟩ kX6_compare rfl ?_
      refine fz_istore (ls' := [(4, fz_i 0), (0, fz_r 33), (1, fz_i ro), (2, fz_i su), (3, fz_i rt)]) kX6_compare rfl (by decide) rfl ?_
      refine fz_iload kX6_compare rfl rfl ?_
      refine fz_if_eq (tgt := 67) kX6_compare rfl (by decide) (fun c36 => ?_) (fun c36 => ?_)
      · exact fz_vret kX6_compare rfl rfl ⟨hI, hf, rfl, (by first | exact fl_cmr_n (by omega) | (rw [show h 33 5 = su by omega, show h 33 6 = ro by omega, show h 33 7 = rt by omega]; exact fl_cmr_y (by omega)))⟩
      · exfalso; omega
    · refine fz_iload_n kX6_compare rfl rfl ?_
      refine fz_aload_n kX6_compare rfl rfl ?_
      refine fz_getV (v := h 33 6) kX6_compare rfl rfl rfl ?_
      have b38 : 0 ≤ h 33 6 ∧ h 33 6 ≤ 4 := hI.1 33 _
      refine fz_icmp_lt (tgt := 40) kX6_compare rfl (by decide) (fun c39 => ?_) (fun c39 => ?_)
      · refine fz_iconst ⟨by decide, by decide⟩ kX6_compare rfl ?_
        refine fz_goto (tgt := 45) kX6_compare rfl (by decide) ?_
        refine fz_istore (ls' := [(4, fz_i 1), (0, fz_r 33), (1, fz_i ro), (2, fz_i su), (3, fz_i rt)]) kX6_compare rfl (by decide) rfl ?_
        refine fz_iload kX6_compare rfl rfl ?_
        refine fz_if_eq (tgt := 67) kX6_compare rfl (by decide) (fun c40 => ?_) (fun c40 => ?_)
        · exfalso; omega
        · refine fz_aload_n kX6_compare rfl rfl ?_
          refine fz_iload_n kX6_compare rfl rfl ?_
          refine fz_putI kX6_compare rfl rfl rfl ?_
          refine fz_nmu (S := [(33, 5), (33, 6), (33, 7)]) (h0 := h) (fz_Iv_up hI (by decide) (show ((-2147483648) : Int) ≤ su by omega) (show (su : Int) ≤ 2147483647 by omega)) (fz_fr_up hf rfl) (fun H41 hI42 hf43 e44 => ?_)
          have k45 : H41 33 6 = (h 33 6) := by rw [e44]; exact (fz_up_s (by decide)).trans rfl
          have k46 : H41 33 7 = (h 33 7) := by rw [e44]; exact (fz_up_s (by decide)).trans rfl
          have k47 : H41 33 5 = su := by rw [e44]; exact fz_up_e
          have t48 : H41 33 6 = h 33 6 := by rw [e44]; exact fz_up_s (by decide)
          have t49 : H41 33 7 = h 33 7 := by rw [e44]; exact fz_up_s (by decide)
          refine fz_aload_n kX6_compare rfl rfl ?_
          refine fz_iload_n kX6_compare rfl rfl ?_
          refine fz_putI kX6_compare rfl rfl rfl ?_
          refine fz_nmu (S := [(33, 5), (33, 6), (33, 7)]) (h0 := h) (fz_Iv_up hI42 (by decide) (show (0 : Int) ≤ ro by omega) (show (ro : Int) ≤ 4 by omega)) (fz_fr_up hf43 rfl) (fun H50 hI51 hf52 e53 => ?_)
          have k54 : H50 33 7 = (h 33 7) := by rw [e53]; exact (fz_up_s (by decide)).trans k46
          have k55 : H50 33 5 = su := by rw [e53]; exact (fz_up_s (by decide)).trans k47
          have k56 : H50 33 6 = ro := by rw [e53]; exact fz_up_e
          have t57 : H50 33 5 = H41 33 5 := by rw [e53]; exact fz_up_s (by decide)
          have t58 : H50 33 7 = H41 33 7 := by rw [e53]; exact fz_up_s (by decide)
          refine fz_aload_n kX6_compare rfl rfl ?_
          refine fz_iload_n kX6_compare rfl rfl ?_
          refine fz_putI kX6_compare rfl rfl rfl ?_
          refine fz_nmu (S := [(33, 5), (33, 6), (33, 7)]) (h0 := h) (fz_Iv_up hI51 (by decide) (show ((-2147483648) : Int) ≤ rt by omega) (show (rt : Int) ≤ 2147483647 by omega)) (fz_fr_up hf52 rfl) (fun H59 hI60 hf61 e62 => ?_)
          have k63 : H59 33 5 = su := by rw [e62]; exact (fz_up_s (by decide)).trans k55
          have k64 : H59 33 6 = ro := by rw [e62]; exact (fz_up_s (by decide)).trans k56
          have k65 : H59 33 7 = rt := by rw [e62]; exact fz_up_e
          have t66 : H59 33 5 = H50 33 5 := by rw [e62]; exact fz_up_s (by decide)
          have t67 : H59 33 6 = H50 33 6 := by rw [e62]; exact fz_up_s (by decide)
          exact fz_vret kX6_compare rfl rfl ⟨hI60, hf61, rfl, (by first | exact fl_cmr_n (by omega) | (rw [show H59 33 5 = su by omega, show H59 33 6 = ro by omega, show H59 33 7 = rt by omega]; exact fl_cmr_y (by omega)))⟩
      · refine fz_iload_n kX6_compare rfl rfl ?_
        refine fz_aload_n kX6_compare rfl rfl ?_
        refine fz_getV (v := h 33 6) kX6_compare rfl rfl rfl ?_
        refine fz_icmp_ne (tgt := 44) kX6_compare rfl (by decide) (fun c69 => ?_) (fun c69 => ?_)
        · refine fz_iconst ⟨by decide, by decide⟩ kX6_compare rfl ?_
          refine fz_istore (ls' := [(4, fz_i 0), (0, fz_r 33), (1, fz_i ro), (2, fz_i su), (3, fz_i rt)]) kX6_compare rfl (by decide) rfl ?_
          refine fz_iload kX6_compare rfl rfl ?_
          refine fz_if_eq (tgt := 67) kX6_compare rfl (by decide) (fun c70 => ?_) (fun c70 => ?_)
          · exact fz_vret kX6_compare rfl rfl ⟨hI, hf, rfl, (by first | exact fl_cmr_n (by omega) | (rw [show h 33 5 = su by omega, show h 33 6 = ro by omega, show h 33 7 = rt by omega]; exact fl_cmr_y (by omega)))⟩
          · exfalso; omega
        · refine fz_iload_n kX6_compare rfl rfl ?_
          refine fz_aload_n kX6_compare rfl rfl ?_
          refine fz_getV (v := h 33 7) kX6_compare rfl rfl rfl ?_
          have b72 : (-2147483648) ≤ h 33 7 ∧ h 33 7 ≤ 2147483647 := hI.1 33 _
          refine fz_icmp_ge (tgt := 44) kX6_compare rfl (by decide) (fun c73 => ?_) (fun c73 => ?_)
          · refine fz_iconst ⟨by decide, by decide⟩ kX6_compare rfl ?_
            refine fz_istore (ls' := [(4, fz_i 0), (0, fz_r 33), (1, fz_i ro), (2, fz_i su), (3, fz_i rt)]) kX6_compare rfl (by decide) rfl ?_
            refine fz_iload kX6_compare rfl rfl ?_
            refine fz_if_eq (tgt := 67) kX6_compare rfl (by decide) (fun c74 => ?_) (fun c74 => ?_)
            · exact fz_vret kX6_compare rfl rfl ⟨hI, hf, rfl, (by first | exact fl_cmr_n (by omega) | (rw [show h 33 5 = su by omega, show h 33 6 = ro by omega, show h 33 7 = rt by omega]; exact fl_cmr_y (by omega)))⟩
            · exfalso; omega
          · refine fz_iconst ⟨by decide, by decide⟩ kX6_compare rfl ?_
            refine fz_goto (tgt := 45) kX6_compare rfl (by decide) ?_
            refine fz_istore (ls' := [(4, fz_i 1), (0, fz_r 33), (1, fz_i ro), (2, fz_i su), (3, fz_i rt)]) kX6_compare rfl (by decide) rfl ?_
            refine fz_iload kX6_compare rfl rfl ?_
            refine fz_if_eq (tgt := 67) kX6_compare rfl (by decide) (fun c76 => ?_) (fun c76 => ?_)
            · exfalso; omega
            · refine fz_aload_n kX6_compare rfl rfl ?_
              refine fz_iload_n kX6_compare rfl rfl ?_
              refine fz_putI kX6_compare rfl rfl rfl ?_
              refine fz_nmu (S := [(33, 5), (33, 6), (33, 7)]) (h0 := h) (fz_Iv_up hI (by decide) (show ((-2147483648) : Int) ≤ su by omega) (show (su : Int) ≤ 2147483647 by omega)) (fz_fr_up hf rfl) (fun H77 hI78 hf79 e80 => ?_)
              have k81 : H77 33 6 = (h 33 6) := by rw [e80]; exact (fz_up_s (by decide)).trans rfl
              have k82 : H77 33 7 = (h 33 7) := by rw [e80]; exact (fz_up_s (by decide)).trans rfl
              have k83 : H77 33 5 = su := by rw [e80]; exact fz_up_e
              have t84 : H77 33 6 = h 33 6 := by rw [e80]; exact fz_up_s (by decide)
              have t85 : H77 33 7 = h 33 7 := by rw [e80]; exact fz_up_s (by decide)
              refine fz_aload_n kX6_compare rfl rfl ?_
              refine fz_iload_n kX6_compare rfl rfl ?_
              refine fz_putI kX6_compare rfl rfl rfl ?_
              refine fz_nmu (S := [(33, 5), (33, 6), (33, 7)]) (h0 := h) (fz_Iv_up hI78 (by decide) (show (0 : Int) ≤ ro by omega) (show (ro : Int) ≤ 4 by omega)) (fz_fr_up hf79 rfl) (fun H86 hI87 hf88 e89 => ?_)
              have k90 : H86 33 7 = (h 33 7) := by rw [e89]; exact (fz_up_s (by decide)).trans k82
              have k91 : H86 33 5 = su := by rw [e89]; exact (fz_up_s (by decide)).trans k83
              have k92 : H86 33 6 = ro := by rw [e89]; exact fz_up_e
              have t93 : H86 33 5 = H77 33 5 := by rw [e89]; exact fz_up_s (by decide)
              have t94 : H86 33 7 = H77 33 7 := by rw [e89]; exact fz_up_s (by decide)
              refine fz_aload_n kX6_compare rfl rfl ?_
              refine fz_iload_n kX6_compare rfl rfl ?_
              refine fz_putI kX6_compare rfl rfl rfl ?_
              refine fz_nmu (S := [(33, 5), (33, 6), (33, 7)]) (h0 := h) (fz_Iv_up hI87 (by decide) (show ((-2147483648) : Int) ≤ rt by omega) (show (rt : Int) ≤ 2147483647 by omega)) (fz_fr_up hf88 rfl) (fun H95 hI96 hf97 e98 => ?_)
              have k99 : H95 33 5 = su := by rw [e98]; exact (fz_up_s (by decide)).trans k91
              have k100 : H95 33 6 = ro := by rw [e98]; exact (fz_up_s (by decide)).trans k92
              have k101 : H95 33 7 = rt := by rw [e98]; exact fz_up_e
              have t102 : H95 33 5 = H86 33 5 := by rw [e98]; exact fz_up_s (by decide)
              have t103 : H95 33 6 = H86 33 6 := by rw [e98]; exact fz_up_s (by decide)
              exact fz_vret kX6_compare rfl rfl ⟨hI96, hf97, rfl, (by first | exact fl_cmr_n (by omega) | (rw [show H95 33 5 = su by omega, show H95 33 6 = ro by omega, show H95 33 7 = rt by omega]; exact fl_cmr_y (by omega)))⟩

abbrev qX6_explore_4 (h : fz_H) (fr hr su rt : Int) : fz_H → Option fz_V → Prop := fun h' r0 => fz_Iv h' ∧ fz_fr [(18, 99999), (19, 99999), (29, 99999), (33, 5), (33, 6), (33, 7), (34, 99999)] h h' ∧ fl_MM h' ∧ r0 = none ∧ (h' 33 5, h' 33 6, h' 33 7) = fl_exC h 0 fr hr 4 su rt (h 33 5, h 33 6, h 33 7)
set_option maxHeartbeats 1000000 in
set_option maxRecDepth 100000 in
theorem sX6_explore_4 (h : fz_H) (hI : fz_Iv h) (fr hr su rt : Int) (hMM : fl_MM h) (hp0 : 0 ≤ fr ∧ fr < 8) (hp1 : 0 ≤ hr ∧ hr ≤ 96) (hp2 : hr ≤ 96) (hp3 : 0 ≤ rt ∧ rt < 4096) : fz_R 1 mX6_explore 0 [(0, fz_r 33), (1, fz_i fr), (2, fz_i hr), (3, fz_i 4), (4, fz_i su), (5, fz_i rt)] [] h (qX6_explore_4 h fr hr su rt) := by
  refine fz_knowl (fun hk => ?_)
  have hr_fr : -2147483648 ≤ fr ∧ fr < 2147483648 := hk _ (List.Mem.tail _ (List.Mem.head _))
  have hr_hr : -2147483648 ≤ hr ∧ hr < 2147483648 := hk _ (List.Mem.tail _ (List.Mem.tail _ (List.Mem.head _)))
  have hr_su : -2147483648 ≤ su ∧ su < 2147483648 := hk _ (List.Mem.tail _ (List.Mem.tail _ (List.Mem.tail _ (List.Mem.tail _ (List.Mem.head _)))))
  have hr_rt : -2147483648 ≤ rt ∧ rt < 2147483648 := hk _ (List.Mem.tail _ (List.Mem.tail _ (List.Mem.tail _ (List.Mem.tail _ (List.Mem.tail _ (List.Mem.head _))))))
  clear hk
  have hf : fz_fr [(18, 99999), (19, 99999), (29, 99999), (33, 5), (33, 6), (33, 7), (34, 99999)] h h := fz_fr_rf
  have b1 : (-2147483648) ≤ h 33 5 ∧ h 33 5 ≤ 2147483647 := hI.1 33 _
  have b2 : 0 ≤ h 33 6 ∧ h 33 6 ≤ 4 := hI.1 33 _
  have b3 : (-2147483648) ≤ h 33 7 ∧ h 33 7 ≤ 2147483647 := hI.1 33 _
  have k4 : 0 ≤ h 1 8 ∧ h 1 8 ≤ 12 := hI.1 1 _
  refine fz_aload_n kX6_explore rfl rfl ?_
  refine fz_iload_n kX6_explore rfl rfl ?_
  refine fz_iload kX6_explore rfl rfl ?_
  refine fz_iload kX6_explore rfl rfl ?_
  refine fz_callV (d' := 0) (M' := mX6_compare) (As := [fz_i 4, fz_i su, fz_i rt]) (st := []) kX6_explore rfl rfl vX6_compare rfl rfl rfl rfl (Nat.le_of_ble_eq_true rfl) (Nat.le_of_ble_eq_true rfl) (by decide) (sX6_compare h hI 4 su rt (by omega)) (fun H5 r6 q7 o8 => ?_)
  obtain ⟨hI9, hf10, rfl, f11⟩ := q7
  clear o8
  have hf12 := fz_fr_tr hf hf10 (show fz_su [(33, 5), (33, 6), (33, 7)] [(18, 99999), (19, 99999), (29, 99999), (33, 5), (33, 6), (33, 7), (34, 99999)] = true from rfl)
  have hMM13 : fl_MM H5 := fl_MM_eq (funext fun s => hf10 34 s rfl) (hf10 33 3 rfl) (hf10 33 4 rfl) (funext fun s => hf10 28 s rfl) (hf10 27 8 rfl) (funext fun s => hf10 2 s rfl) (funext fun s => hf10 8 s rfl) (funext fun s => hf10 9 s rfl) (funext fun s => hf10 10 s rfl) (funext fun s => hf10 11 s rfl) (funext fun s => hf10 12 s rfl) (funext fun s => hf10 13 s rfl) (funext fun s => hf10 14 s rfl) (funext fun s => hf10 15 s rfl) (funext fun s => hf10 16 s rfl) (funext fun s => hf10 17 s rfl) hMM
  refine fz_iload_n kX6_explore rfl rfl ?_
  refine fz_iconst ⟨by decide, by decide⟩ kX6_explore rfl ?_
  refine fz_icmp_lt (tgt := 15) kX6_explore rfl (by decide) (fun c14 => ?_) (fun c14 => ?_)
  · exfalso; omega
  · exact fz_vret kX6_explore rfl rfl ⟨hI9, hf12, hMM13, rfl, (by exact f11)⟩

abbrev qX6_explore_3 (h : fz_H) (fr hr su rt : Int) : fz_H → Option fz_V → Prop := fun h' r0 => fz_Iv h' ∧ fz_fr [(18, 99999), (19, 99999), (29, 99999), (33, 5), (33, 6), (33, 7), (34, 99999)] h h' ∧ fl_MM h' ∧ r0 = none ∧ (h' 33 5, h' 33 6, h' 33 7) = fl_exC h 1 fr hr 3 su rt (h 33 5, h 33 6, h 33 7)
set_option maxHeartbeats 1000000 in
set_option maxRecDepth 100000 in
theorem sX6_explore_3 (h : fz_H) (hI : fz_Iv h) (fr hr su rt : Int) (hMM : fl_MM h) (hp0 : 0 ≤ fr ∧ fr < 8) (hp1 : 0 ≤ hr ∧ hr ≤ 96) (hp2 : hr ≤ 72) (hp3 : 0 ≤ rt ∧ rt < 512) : fz_R 5 mX6_explore 0 [(0, fz_r 33), (1, fz_i fr), (2, fz_i hr), (3, fz_i 3), (4, fz_i su), (5, fz_i rt)] [] h (qX6_explore_3 h fr hr su rt) := by
  refine fz_knowl (fun hk => ?_)
  have hr_fr : -2147483648 ≤ fr ∧ fr < 2147483648 := hk _ (List.Mem.tail _ (List.Mem.head _))
  have hr_hr : -2147483648 ≤ hr ∧ hr < 2147483648 := hk _ (List.Mem.tail _ (List.Mem.tail _ (List.Mem.head _)))
  have hr_su : -2147483648 ≤ su ∧ su < 2147483648 := hk _ (List.Mem.tail _ (List.Mem.tail _ (List.Mem.tail _ (List.Mem.tail _ (List.Mem.head _)))))
  have hr_rt : -2147483648 ≤ rt ∧ rt < 2147483648 := hk _ (List.Mem.tail _ (List.Mem.tail _ (List.Mem.tail _ (List.Mem.tail _ (List.Mem.tail _ (List.Mem.head _))))))
  clear hk
  have hf : fz_fr [(18, 99999), (19, 99999), (29, 99999), (33, 5), (33, 6), (33, 7), (34, 99999)] h h := fz_fr_rf
  have b1 : (-2147483648) ≤ h 33 5 ∧ h 33 5 ≤ 2147483647 := hI.1 33 _
  have b2 : 0 ≤ h 33 6 ∧ h 33 6 ≤ 4 := hI.1 33 _
  have b3 : (-2147483648) ≤ h 33 7 ∧ h 33 7 ≤ 2147483647 := hI.1 33 _
  have k4 : 0 ≤ h 1 8 ∧ h 1 8 ≤ 12 := hI.1 1 _
  refine fz_aload_n kX6_explore rfl rfl ?_
  refine fz_iload_n kX6_explore rfl rfl ?_
  refine fz_iload kX6_explore rfl rfl ?_
  refine fz_iload kX6_explore rfl rfl ?_
  refine fz_callV (d' := 0) (M' := mX6_compare) (As := [fz_i 3, fz_i su, fz_i rt]) (st := []) kX6_explore rfl rfl vX6_compare rfl rfl rfl rfl (Nat.le_of_ble_eq_true rfl) (Nat.le_of_ble_eq_true rfl) (by decide) (sX6_compare h hI 3 su rt (by omega)) (fun H5 r6 q7 o8 => ?_)
  obtain ⟨hI9, hf10, rfl, f11⟩ := q7
  clear o8
  have hf12 := fz_fr_tr hf hf10 (show fz_su [(33, 5), (33, 6), (33, 7)] [(18, 99999), (19, 99999), (29, 99999), (33, 5), (33, 6), (33, 7), (34, 99999)] = true from rfl)
  have hMM13 : fl_MM H5 := fl_MM_eq (funext fun s => hf10 34 s rfl) (hf10 33 3 rfl) (hf10 33 4 rfl) (funext fun s => hf10 28 s rfl) (hf10 27 8 rfl) (funext fun s => hf10 2 s rfl) (funext fun s => hf10 8 s rfl) (funext fun s => hf10 9 s rfl) (funext fun s => hf10 10 s rfl) (funext fun s => hf10 11 s rfl) (funext fun s => hf10 12 s rfl) (funext fun s => hf10 13 s rfl) (funext fun s => hf10 14 s rfl) (funext fun s => hf10 15 s rfl) (funext fun s => hf10 16 s rfl) (funext fun s => hf10 17 s rfl) hMM
  refine fz_iload_n kX6_explore rfl rfl ?_
  refine fz_iconst ⟨by decide, by decide⟩ kX6_explore rfl ?_
  refine fz_icmp_lt (tgt := 15) kX6_explore rfl (by decide) (fun c14 => ?_) (fun c14 => ?_)
  · refine fz_iconst ⟨by decide, by decide⟩ kX6_explore rfl ?_
    refine fz_istore (ls' := [(6, fz_i 0), (0, fz_r 33), (1, fz_i fr), (2, fz_i hr), (3, fz_i 3), (4, fz_i su), (5, fz_i rt)]) kX6_explore rfl (by decide) rfl ?_
    have lp21 : ∀ (n20 : Nat) (x15 : Int) (H17 : fz_H), fz_Iv H17 → fz_fr [(18, 99999), (19, 99999), (29, 99999), (33, 5), (33, 6), (33, 7), (34, 99999)] h H17 → fl_MM H17 → (0 ≤ x15 ∧ x15 ≤ 2147483647) → (x15 ≤ h 1 8) → ((H17 33 5, H17 33 6, H17 33 7) = fl_fo (fl_gxC h 0 fr hr 3 su rt) (x15).toNat (fl_cmr 3 su rt (h 33 5, h 33 6, h 33 7))) → ((h 1 8) - x15).toNat < n20 → fz_R 5 mX6_explore 18 [(6, fz_i x15), (0, fz_r 33), (1, fz_i fr), (2, fz_i hr), (3, fz_i 3), (4, fz_i su), (5, fz_i rt)] [] H17 (qX6_explore_3 h fr hr su rt) := by
      intro n20
      induction n20 with
      | zero => intro x15 H17 hI18 hf19 hMM16 hv24 hv25 hv26 hm23; exact absurd hm23 (by omega)
      | succ n20 ih22 =>
        intro x15 H17 hI18 hf19 hMM16 hv24 hv25 hv26 hm23
        refine fz_iload kX6_explore rfl rfl ?_
        refine fz_aload_n kX6_explore rfl rfl ?_
        refine fz_getR (t := 1) kX6_explore rfl rfl ?_
        refine fz_getV (v := h 1 8) kX6_explore rfl rfl (hf19 1 8 rfl) ?_
        have b27 : 0 ≤ h 1 8 ∧ h 1 8 ≤ 12 := hI.1 1 _
        refine fz_icmp_ge (tgt := 206) kX6_explore rfl (by decide) (fun c28 => ?_) (fun c28 => ?_)
        · exact fz_vret kX6_explore rfl rfl ⟨hI18, hf19, hMM16, rfl, (by exact fl_rgC_e hv26 (by omega))⟩
        · refine fz_aload_n kX6_explore rfl rfl ?_
          refine fz_getR (t := 1) kX6_explore rfl rfl ?_
          refine fz_iload kX6_explore rfl rfl ?_
          refine fz_iload_n kX6_explore rfl rfl ?_
          refine fz_callV (d' := 0) (M' := mX2_acrossFrom) (As := [fz_i x15, fz_i fr]) (st := []) kX6_explore rfl rfl vX2_acrossFrom rfl rfl rfl rfl (Nat.le_of_ble_eq_true rfl) (Nat.le_of_ble_eq_true rfl) (by decide) (sX2_acrossFrom H17 hI18 x15 fr (by omega)) (fun H30 r31 q32 o33 => ?_)
          obtain ⟨e34, y38, rfl, f35, f36, f37⟩ := q32
          subst H30
          clear o33
          have k39 : y38 = fz_ac (h 5 (x15).toNat) (h 6 (x15).toNat) fr := by have z := f37; rw [hf19 5 _ rfl, hf19 6 _ rfl] at z; exact z
          refine fz_istore (ls' := [(7, fz_i y38), (6, fz_i x15), (0, fz_r 33), (1, fz_i fr), (2, fz_i hr), (3, fz_i 3), (4, fz_i su), (5, fz_i rt)]) kX6_explore rfl (by decide) rfl ?_
          refine fz_iload_n kX6_explore rfl rfl ?_
          refine fz_aload_n kX6_explore rfl rfl ?_
          refine fz_getR (t := 1) kX6_explore rfl rfl ?_
          refine fz_getR (t := 3) kX6_explore rfl rfl ?_
          refine fz_iload kX6_explore rfl rfl ?_
          refine fz_ialdV (n := 12) (v := h 3 (x15.toNat)) kX6_explore rfl rfl (by omega) (by omega) (hf19 3 _ rfl) ?_
          have b41 : 0 ≤ h 3 (x15.toNat) ∧ h 3 (x15.toNat) ≤ 24 := hI.1 3 _
          refine fz_iaddN kX6_explore rfl (by omega) ?_
          refine fz_istore (ls' := [(8, fz_i (hr + (h 3 (x15.toNat)))), (7, fz_i y38), (6, fz_i x15), (0, fz_r 33), (1, fz_i fr), (2, fz_i hr), (3, fz_i 3), (4, fz_i su), (5, fz_i rt)]) kX6_explore rfl (by decide) rfl ?_
          refine fz_iload kX6_explore rfl rfl ?_
          refine fz_if_lt (tgt := 200) kX6_explore rfl (by decide) (fun c42 => ?_) (fun c42 => ?_)
          · refine fz_iincN (ls' := [(6, fz_i (x15 + 1)), (8, fz_i (hr + (h 3 (x15.toNat)))), (7, fz_i y38), (0, fz_r 33), (1, fz_i fr), (2, fz_i hr), (3, fz_i 3), (4, fz_i su), (5, fz_i rt)]) kX6_explore rfl (by decide) rfl (by omega) rfl ?_
            refine fz_goto (tgt := 18) kX6_explore rfl (by decide) ?_
            refine fz_sub (fz_pk_sub (ls' := [(6, fz_i (x15 + 1)), (0, fz_r 33), (1, fz_i fr), (2, fz_i hr), (3, fz_i 3), (4, fz_i su), (5, fz_i rt)]) [0, 3, 4, 5, 6, 7, 8] rfl) ?_
            exact ih22 (x15 + 1) H17 hI18 hf19 hMM16 (by omega) (by omega) (by first | exact fl_rgC_n hv26 (by omega) k39 rfl (Or.inl (by omega)) | exact fl_rgC_n hv26 (by omega) k39 rfl (Or.inr (by omega)) | exact fl_rgC_a lost (by omega) k39 rfl lost (fun z => (hI.1 2 z).1) (fun z => (hI.1 14 z).2) (fun z => hI.1 28 z) (by omega) | exact fl_rgC_y lost (by omega) k39 rfl (by omega) (by omega) lost (by omega) (fl_exC_hh (h := h) lost rfl (lost 33 3 rfl) (lost 33 4 rfl) lost) | (exfalso; omega)) (by omega)
          · refine fz_iload kX6_explore rfl rfl ?_
            refine fz_bipush ⟨by decide, by decide⟩ kX6_explore rfl ?_
            refine fz_icmp_ge (tgt := 200) kX6_explore rfl (by decide) (fun c44 => ?_) (fun c44 => ?_)
            · exfalso; omega
            · refine fz_aload_n kX6_explore rfl rfl ?_
              refine fz_getV (v := h 33 4) kX6_explore rfl rfl (hf19 33 4 rfl) ?_
              have b45 : 0 ≤ h 33 4 ∧ h 33 4 ≤ 999 := hI.1 33 _
              refine fz_iload kX6_explore rfl rfl ?_
              refine fz_iaddN kX6_explore rfl (by omega) ?_
              refine fz_sipush ⟨by decide, by decide⟩ kX6_explore rfl ?_
              refine fz_icmp_le (tgt := 84) kX6_explore rfl (by decide) (fun c46 => ?_) (fun c46 => ?_)
              · refine fz_iload kX6_explore rfl rfl ?_
                refine fz_bipush ⟨by decide, by decide⟩ kX6_explore rfl ?_
                refine fz_imulN kX6_explore rfl (by omega) ?_
                refine fz_iload kX6_explore rfl rfl ?_
                refine fz_iaddN kX6_explore rfl (by omega) ?_
                refine fz_istore (ls' := [(9, fz_i ((y38 * 97) + (hr + (h 3 (x15.toNat))))), (8, fz_i (hr + (h 3 (x15.toNat)))), (7, fz_i y38), (6, fz_i x15), (0, fz_r 33), (1, fz_i fr), (2, fz_i hr), (3, fz_i 3), (4, fz_i su), (5, fz_i rt)]) kX6_explore rfl (by decide) rfl ?_
                refine fz_aload_n kX6_explore rfl rfl ?_
                refine fz_getR (t := 34) kX6_explore rfl rfl ?_
                refine fz_iload kX6_explore rfl rfl ?_
                obtain ⟨v47, e48⟩ : ∃ z, H17 34 (((y38 * 97) + (hr + (h 3 (x15.toNat)))).toNat) = z := ⟨_, rfl⟩
                refine fz_ialdV (n := 776) (v := v47) kX6_explore rfl rfl (by omega) (by omega) e48 ?_
                have b49 : (-2147483648) ≤ v47 ∧ v47 ≤ 2147483647 := by rw [← e48]; exact hI18.1 34 _
                refine fz_ldc (x := (-2000000000)) kX6_explore rfl rfl rfl ?_
                refine fz_icmp_ne (tgt := 159) kX6_explore rfl (by decide) (fun c50 => ?_) (fun c50 => ?_)
                · have k51 : True := trivial
                  refine fz_aload_n kX6_explore rfl rfl ?_
                  refine fz_getR (t := 34) kX6_explore rfl rfl ?_
                  refine fz_iload kX6_explore rfl rfl ?_
                  obtain ⟨v52, e53⟩ : ∃ z, H17 34 (((y38 * 97) + (hr + (h 3 (x15.toNat)))).toNat) = z := ⟨_, rfl⟩
                  refine fz_ialdV (n := 776) (v := v52) kX6_explore rfl rfl (by omega) (by omega) e53 ?_
                  have b54 : (-2147483648) ≤ v52 ∧ v52 ≤ 2147483647 := by rw [← e53]; exact hI18.1 34 _
                  have k55 : v52 = fl_mv h y38 (hr + (h 3 (x15.toNat))) := fl_mv_at hMM16 e53 rfl ⟨by omega, by omega⟩ ⟨by omega, by omega⟩ (by first | omega | (have q : H17 34 (((y38 * 97) + (hr + (h 3 (x15.toNat))))).toNat = lost := (by rw [lost, lost]; exact fz_up_e); omega)) (fl_mv_fr hf19 rfl (hf19 33 3 rfl) (hf19 33 4 rfl))
                  have k57 : (H17 33 5, H17 33 6, H17 33 7) = fl_fo (fl_gxC h 0 fr hr 3 su rt) (x15).toNat (fl_cmr 3 su rt (h 33 5, h 33 6, h 33 7)) := by first | exact hv26 | (rw [show H17 33 5 = lost 33 5 by omega, show H17 33 6 = lost 33 6 by omega, show H17 33 7 = lost 33 7 by omega]; exact hv26)
                  refine fz_ldc (x := (-1999999999)) kX6_explore rfl rfl rfl ?_
                  refine fz_icmp_eq (tgt := 200) kX6_explore rfl (by decide) (fun c59 => ?_) (fun c59 => ?_)
                  · refine fz_iincN (ls' := [(6, fz_i (x15 + 1)), (9, fz_i ((y38 * 97) + (hr + (h 3 (x15.toNat))))), (8, fz_i (hr + (h 3 (x15.toNat)))), (7, fz_i y38), (0, fz_r 33), (1, fz_i fr), (2, fz_i hr), (3, fz_i 3), (4, fz_i su), (5, fz_i rt)]) kX6_explore rfl (by decide) rfl (by omega) rfl ?_
                    refine fz_goto (tgt := 18) kX6_explore rfl (by decide) ?_
                    refine fz_sub (fz_pk_sub (ls' := [(6, fz_i (x15 + 1)), (0, fz_r 33), (1, fz_i fr), (2, fz_i hr), (3, fz_i 3), (4, fz_i su), (5, fz_i rt)]) [0, 4, 5, 6, 7, 8, 9] rfl) ?_
                    exact ih22 (x15 + 1) H17 hI18 hf19 hMM16 (by omega) (by omega) (by first | exact fl_rgC_n hv26 (by omega) k39 rfl (Or.inl (by omega)) | exact fl_rgC_n hv26 (by omega) k39 rfl (Or.inr (by omega)) | exact fl_rgC_a k57 (by omega) k39 rfl k55 (fun z => (hI.1 2 z).1) (fun z => (hI.1 14 z).2) (fun z => hI.1 28 z) (by omega) | exact fl_rgC_y k57 (by omega) k39 rfl (by omega) (by omega) lost (by omega) (fl_exC_hh (h := h) lost rfl (lost 33 3 rfl) (lost 33 4 rfl) lost) | (exfalso; omega)) (by omega)
                  · refine fz_aload_n kX6_explore rfl rfl ?_
                    refine fz_iload kX6_explore rfl rfl ?_
                    refine fz_iload kX6_explore rfl rfl ?_
                    refine fz_iload_n kX6_explore rfl rfl ?_
                    refine fz_iconst ⟨by decide, by decide⟩ kX6_explore rfl ?_
                    refine fz_iaddN kX6_explore rfl ⟨by decide, by decide⟩ ?_
                    refine fz_eqi (y := 4) rfl ?_
                    refine fz_iload kX6_explore rfl rfl ?_
                    refine fz_aload_n kX6_explore rfl rfl ?_
                    refine fz_getR (t := 34) kX6_explore rfl rfl ?_
                    refine fz_iload kX6_explore rfl rfl ?_
                    obtain ⟨v61, e62⟩ : ∃ z, H17 34 (((y38 * 97) + (hr + (h 3 (x15.toNat)))).toNat) = z := ⟨_, rfl⟩
                    refine fz_ialdV (n := 776) (v := v61) kX6_explore rfl rfl (by omega) (by omega) e62 ?_
                    have b63 : (-2147483648) ≤ v61 ∧ v61 ≤ 2147483647 := by rw [← e62]; exact hI18.1 34 _
                    have k64 : v61 = fl_mv h y38 (hr + (h 3 (x15.toNat))) := e62.symm.trans (e53.trans k55)
                    refine fz_iadd kX6_explore rfl ?_
                    have b66 := fz_w_b (su + v61)
                    refine fz_iload kX6_explore rfl rfl ?_
                    refine fz_bipush ⟨by decide, by decide⟩ kX6_explore rfl ?_
                    refine fz_imulN kX6_explore rfl (by omega) ?_
                    refine fz_iload kX6_explore rfl rfl ?_
                    refine fz_iaddN kX6_explore rfl (by omega) ?_
                    have b67 : (-2147483648) ≤ H17 33 5 ∧ H17 33 5 ≤ 2147483647 := hI18.1 33 _
                    have b68 : 0 ≤ H17 33 6 ∧ H17 33 6 ≤ 4 := hI18.1 33 _
                    have b69 : (-2147483648) ≤ H17 33 7 ∧ H17 33 7 ≤ 2147483647 := hI18.1 33 _
                    refine fz_callV (d' := 1) (M' := mX6_explore) (As := [fz_i y38, fz_i (hr + (h 3 (x15.toNat))), fz_i 4, fz_i (fz_w (su + v61)), fz_i ((rt * 8) + y38)]) (st := []) kX6_explore rfl rfl vX6_explore rfl rfl rfl rfl (Nat.le_of_ble_eq_true rfl) (Nat.le_of_ble_eq_true rfl) (by decide) (sX6_explore_4 H17 hI18 y38 (hr + (h 3 (x15.toNat))) (fz_w (su + v61)) ((rt * 8) + y38) hMM16 (by omega) (by omega) (by omega) (by omega)) (fun H70 r71 q72 o73 => ?_)
                    obtain ⟨hI74, hf75, hMM76, rfl, f77⟩ := q72
                    clear o73
                    have hf78 := fz_fr_tr hf19 hf75 (show fz_su [(18, 99999), (19, 99999), (29, 99999), (33, 5), (33, 6), (33, 7), (34, 99999)] [(18, 99999), (19, 99999), (29, 99999), (33, 5), (33, 6), (33, 7), (34, 99999)] = true from rfl)
                    refine fz_iincN (ls' := [(6, fz_i (x15 + 1)), (9, fz_i ((y38 * 97) + (hr + (h 3 (x15.toNat))))), (8, fz_i (hr + (h 3 (x15.toNat)))), (7, fz_i y38), (0, fz_r 33), (1, fz_i fr), (2, fz_i hr), (3, fz_i 3), (4, fz_i su), (5, fz_i rt)]) kX6_explore rfl (by decide) rfl (by omega) rfl ?_
                    refine fz_goto (tgt := 18) kX6_explore rfl (by decide) ?_
                    refine fz_sub (fz_pk_sub (ls' := [(6, fz_i (x15 + 1)), (0, fz_r 33), (1, fz_i fr), (2, fz_i hr), (3, fz_i 3), (4, fz_i su), (5, fz_i rt)]) [0, 4, 5, 6, 7, 8, 9] rfl) ?_
                    exact ih22 (x15 + 1) H70 hI74 hf78 hMM76 (by omega) (by omega) (by first | exact fl_rgC_n hv26 (by omega) k39 rfl (Or.inl (by omega)) | exact fl_rgC_n hv26 (by omega) k39 rfl (Or.inr (by omega)) | exact fl_rgC_a k57 (by omega) k39 rfl k55 (fun z => (hI.1 2 z).1) (fun z => (hI.1 14 z).2) (fun z => hI.1 28 z) (by omega) | exact fl_rgC_y k57 (by omega) k39 rfl (by omega) (by omega) k64 (by omega) (fl_exC_hh (h := h) hf19 rfl (hf19 33 3 rfl) (hf19 33 4 rfl) f77) | (exfalso; omega)) (by omega)
                · refine fz_aload_n kX6_explore rfl rfl ?_
                  refine fz_getR (t := 27) kX6_explore rfl rfl ?_
                  refine fz_aload_n kX6_explore rfl rfl ?_
                  refine fz_getV (v := h 33 3) kX6_explore rfl rfl (hf19 33 3 rfl) ?_
                  have b80 : 0 ≤ h 33 3 ∧ h 33 3 ≤ 3 := hI.1 33 _
                  refine fz_aload_n kX6_explore rfl rfl ?_
                  refine fz_getV (v := h 33 3) kX6_explore rfl rfl (hf19 33 3 rfl) ?_
                  refine fz_iload kX6_explore rfl rfl ?_
                  refine fz_aload_n kX6_explore rfl rfl ?_
                  refine fz_getV (v := h 33 4) kX6_explore rfl rfl (hf19 33 4 rfl) ?_
                  refine fz_iload kX6_explore rfl rfl ?_
                  refine fz_iaddN kX6_explore rfl (by omega) ?_
                  refine fz_callV (d' := 4) (M' := mX8_listen) (As := [fz_i (h 33 3), fz_i (h 33 3), fz_i y38, fz_i ((h 33 4) + (hr + (h 3 (x15.toNat))))]) (st := []) kX6_explore rfl rfl vX8_listen rfl rfl rfl rfl (Nat.le_of_ble_eq_true rfl) (Nat.le_of_ble_eq_true rfl) (by decide) (sX8_listen H17 hI18 (h 33 3) (h 33 3) y38 ((h 33 4) + (hr + (h 3 (x15.toNat)))) (by omega)) (fun H81 r82 q83 o84 => ?_)
                  obtain ⟨hI85, hf86, rfl, f87⟩ := q83
                  clear o84
                  have hf88 := fz_fr_tr hf19 hf86 (show fz_su [(18, 99999), (19, 99999), (29, 99999)] [(18, 99999), (19, 99999), (29, 99999), (33, 5), (33, 6), (33, 7), (34, 99999)] = true from rfl)
                  have hMM89 : fl_MM H81 := fl_MM_eq (funext fun s => hf86 34 s rfl) (hf86 33 3 rfl) (hf86 33 4 rfl) (funext fun s => hf86 28 s rfl) (hf86 27 8 rfl) (funext fun s => hf86 2 s rfl) (funext fun s => hf86 8 s rfl) (funext fun s => hf86 9 s rfl) (funext fun s => hf86 10 s rfl) (funext fun s => hf86 11 s rfl) (funext fun s => hf86 12 s rfl) (funext fun s => hf86 13 s rfl) (funext fun s => hf86 14 s rfl) (funext fun s => hf86 15 s rfl) (funext fun s => hf86 16 s rfl) (funext fun s => hf86 17 s rfl) hMM16
                  have t90 : H81 33 5 = H17 33 5 := hf86 33 5 rfl
                  have t91 : H81 33 6 = H17 33 6 := hf86 33 6 rfl
                  have t92 : H81 33 7 = H17 33 7 := hf86 33 7 rfl
                  refine fz_aload_n kX6_explore rfl rfl ?_
                  refine fz_getR (t := 34) kX6_explore rfl rfl ?_
                  refine fz_iload kX6_explore rfl rfl ?_
                  refine fz_aload_n kX6_explore rfl rfl ?_
                  refine fz_getR (t := 27) kX6_explore rfl rfl ?_
                  have b93 : (-2147483648) ≤ H81 29 1 ∧ H81 29 1 ≤ 2147483647 := hI85.1 29 _
                  have b94 : 0 ≤ h 27 8 ∧ h 27 8 ≤ 99 := hI.1 27 _
                  have e95 : H81 27 8 = h 27 8 := hf88 27 8 rfl
                  refine fz_callV (d' := 1) (M' := mX8_isArrested) (As := []) (st := [fz_i ((y38 * 97) + (hr + (h 3 (x15.toNat)))), fz_r 34]) kX6_explore rfl rfl vX8_isArrested rfl rfl rfl rfl (Nat.le_of_ble_eq_true rfl) (Nat.le_of_ble_eq_true rfl) (by decide) (sX8_isArrested H81 hI85  ) (fun H96 r97 q98 o99 => ?_)
                  obtain ⟨e100, y102, rfl, p103, f101⟩ := q98
                  subst H96
                  clear o99
                  refine fz_if_eq (tgt := 151) kX6_explore rfl (by decide) (fun c104 => ?_) (fun c104 => ?_)
                  · refine fz_aload_n kX6_explore rfl rfl ?_
                    refine fz_getR (t := 27) kX6_explore rfl rfl ?_
                    refine fz_callV (d' := 0) (M' := mX8_reception) (As := []) (st := [fz_i ((y38 * 97) + (hr + (h 3 (x15.toNat)))), fz_r 34]) kX6_explore rfl rfl vX8_reception rfl rfl rfl rfl (Nat.le_of_ble_eq_true rfl) (Nat.le_of_ble_eq_true rfl) (by decide) (sX8_reception H81 hI85  ) (fun H105 r106 q107 o108 => ?_)
                    obtain ⟨e109, y112, rfl, f110, f111⟩ := q107
                    subst H105
                    clear o108
                    obtain ⟨k113, k114⟩ : ∃ z, z = y112 := ⟨_, rfl⟩
                    have k116 : -1999999999 ≤ y112 ∧ y112 ≤ 4455 := by first | omega | (have q := fl_rp_vb f87 (fun z => (hI18.1 2 z).1) (fun z => (hI18.1 14 z).2) (fun z => hI85.1 28 z) f111; omega)
                    refine fz_iast (n := 776) kX6_explore rfl rfl (by omega) (by omega) ?_
                    refine fz_nmu (S := [(18, 99999), (19, 99999), (29, 99999), (33, 5), (33, 6), (33, 7), (34, 99999)]) (h0 := h) (fz_Iv_up hI85 (by decide) (show ((-2147483648) : Int) ≤ y112 by omega) (show (y112 : Int) ≤ 2147483647 by omega)) (fz_fr_up hf88 rfl) (fun H117 hI118 hf119 e120 => ?_)
                    have t121 : H117 33 5 = H81 33 5 := by rw [e120]; exact fz_up_o (by decide)
                    have t122 : H117 33 6 = H81 33 6 := by rw [e120]; exact fz_up_o (by decide)
                    have t123 : H117 33 7 = H81 33 7 := by rw [e120]; exact fz_up_o (by decide)
                    have hMM124 : fl_MM H117 := by first | exact fl_MM_st hMM89 e120 rfl ⟨by omega, by omega⟩ ⟨by omega, by omega⟩ (fl_mv_a f87 (fl_SC_fr hf86 rfl) f101 (hf88 33 3 rfl).symm (by rw [hf88 33 4 rfl]) (by omega)) | exact fl_MM_st hMM89 e120 rfl ⟨by omega, by omega⟩ ⟨by omega, by omega⟩ (fl_mv_r f87 (fl_SC_fr hf86 rfl) f101 (hf88 33 3 rfl).symm (by rw [hf88 33 4 rfl]) (by omega) f111)
                    have k126 : True := trivial
                    refine fz_aload_n kX6_explore rfl rfl ?_
                    refine fz_getR (t := 34) kX6_explore rfl rfl ?_
                    refine fz_iload kX6_explore rfl rfl ?_
                    obtain ⟨v127, e128⟩ : ∃ z, H117 34 (((y38 * 97) + (hr + (h 3 (x15.toNat)))).toNat) = z := ⟨_, rfl⟩
                    refine fz_ialdV (n := 776) (v := v127) kX6_explore rfl rfl (by omega) (by omega) e128 ?_
                    have b129 : (-2147483648) ≤ v127 ∧ v127 ≤ 2147483647 := by rw [← e128]; exact hI118.1 34 _
                    have k130 : v127 = fl_mv h y38 (hr + (h 3 (x15.toNat))) := fl_mv_at hMM124 e128 rfl ⟨by omega, by omega⟩ ⟨by omega, by omega⟩ (by first | omega | (have q : H117 34 (((y38 * 97) + (hr + (h 3 (x15.toNat))))).toNat = k113 := (by rw [k114, e120]; exact fz_up_e); omega)) (fl_mv_fr hf119 rfl (hf119 33 3 rfl) (hf119 33 4 rfl))
                    have k132 : (H117 33 5, H117 33 6, H117 33 7) = fl_fo (fl_gxC h 0 fr hr 3 su rt) (x15).toNat (fl_cmr 3 su rt (h 33 5, h 33 6, h 33 7)) := by first | exact hv26 | (rw [show H117 33 5 = H17 33 5 by omega, show H117 33 6 = H17 33 6 by omega, show H117 33 7 = H17 33 7 by omega]; exact hv26)
                    refine fz_ldc (x := (-1999999999)) kX6_explore rfl rfl rfl ?_
                    refine fz_icmp_eq (tgt := 200) kX6_explore rfl (by decide) (fun c134 => ?_) (fun c134 => ?_)
                    · refine fz_iincN (ls' := [(6, fz_i (x15 + 1)), (9, fz_i ((y38 * 97) + (hr + (h 3 (x15.toNat))))), (8, fz_i (hr + (h 3 (x15.toNat)))), (7, fz_i y38), (0, fz_r 33), (1, fz_i fr), (2, fz_i hr), (3, fz_i 3), (4, fz_i su), (5, fz_i rt)]) kX6_explore rfl (by decide) rfl (by omega) rfl ?_
                      refine fz_goto (tgt := 18) kX6_explore rfl (by decide) ?_
                      refine fz_sub (fz_pk_sub (ls' := [(6, fz_i (x15 + 1)), (0, fz_r 33), (1, fz_i fr), (2, fz_i hr), (3, fz_i 3), (4, fz_i su), (5, fz_i rt)]) [0, 4, 5, 6, 7, 8, 9] rfl) ?_
                      exact ih22 (x15 + 1) H117 hI118 hf119 hMM124 (by omega) (by omega) (by first | exact fl_rgC_n hv26 (by omega) k39 rfl (Or.inl (by omega)) | exact fl_rgC_n hv26 (by omega) k39 rfl (Or.inr (by omega)) | exact fl_rgC_a k132 (by omega) k39 rfl k130 (fun z => (hI.1 2 z).1) (fun z => (hI.1 14 z).2) (fun z => hI.1 28 z) (by omega) | exact fl_rgC_y k132 (by omega) k39 rfl (by omega) (by omega) lost (by omega) (fl_exC_hh (h := h) lost rfl (lost 33 3 rfl) (lost 33 4 rfl) lost) | (exfalso; omega)) (by omega)
                    · refine fz_aload_n kX6_explore rfl rfl ?_
                      refine fz_iload kX6_explore rfl rfl ?_
                      refine fz_iload kX6_explore rfl rfl ?_
                      refine fz_iload_n kX6_explore rfl rfl ?_
                      refine fz_iconst ⟨by decide, by decide⟩ kX6_explore rfl ?_
                      refine fz_iaddN kX6_explore rfl ⟨by decide, by decide⟩ ?_
                      refine fz_eqi (y := 4) rfl ?_
                      refine fz_iload kX6_explore rfl rfl ?_
                      refine fz_aload_n kX6_explore rfl rfl ?_
                      refine fz_getR (t := 34) kX6_explore rfl rfl ?_
                      refine fz_iload kX6_explore rfl rfl ?_
                      obtain ⟨v136, e137⟩ : ∃ z, H117 34 (((y38 * 97) + (hr + (h 3 (x15.toNat)))).toNat) = z := ⟨_, rfl⟩
                      refine fz_ialdV (n := 776) (v := v136) kX6_explore rfl rfl (by omega) (by omega) e137 ?_
                      have b138 : (-2147483648) ≤ v136 ∧ v136 ≤ 2147483647 := by rw [← e137]; exact hI118.1 34 _
                      have k139 : v136 = fl_mv h y38 (hr + (h 3 (x15.toNat))) := e137.symm.trans (e128.trans k130)
                      refine fz_iadd kX6_explore rfl ?_
                      have b141 := fz_w_b (su + v136)
                      refine fz_iload kX6_explore rfl rfl ?_
                      refine fz_bipush ⟨by decide, by decide⟩ kX6_explore rfl ?_
                      refine fz_imulN kX6_explore rfl (by omega) ?_
                      refine fz_iload kX6_explore rfl rfl ?_
                      refine fz_iaddN kX6_explore rfl (by omega) ?_
                      have b142 : (-2147483648) ≤ H117 33 5 ∧ H117 33 5 ≤ 2147483647 := hI118.1 33 _
                      have b143 : 0 ≤ H117 33 6 ∧ H117 33 6 ≤ 4 := hI118.1 33 _
                      have b144 : (-2147483648) ≤ H117 33 7 ∧ H117 33 7 ≤ 2147483647 := hI118.1 33 _
                      refine fz_callV (d' := 1) (M' := mX6_explore) (As := [fz_i y38, fz_i (hr + (h 3 (x15.toNat))), fz_i 4, fz_i (fz_w (su + v136)), fz_i ((rt * 8) + y38)]) (st := []) kX6_explore rfl rfl vX6_explore rfl rfl rfl rfl (Nat.le_of_ble_eq_true rfl) (Nat.le_of_ble_eq_true rfl) (by decide) (sX6_explore_4 H117 hI118 y38 (hr + (h 3 (x15.toNat))) (fz_w (su + v136)) ((rt * 8) + y38) hMM124 (by omega) (by omega) (by omega) (by omega)) (fun H145 r146 q147 o148 => ?_)
                      obtain ⟨hI149, hf150, hMM151, rfl, f152⟩ := q147
                      clear o148
                      have hf153 := fz_fr_tr hf119 hf150 (show fz_su [(18, 99999), (19, 99999), (29, 99999), (33, 5), (33, 6), (33, 7), (34, 99999)] [(18, 99999), (19, 99999), (29, 99999), (33, 5), (33, 6), (33, 7), (34, 99999)] = true from rfl)
                      refine fz_iincN (ls' := [(6, fz_i (x15 + 1)), (9, fz_i ((y38 * 97) + (hr + (h 3 (x15.toNat))))), (8, fz_i (hr + (h 3 (x15.toNat)))), (7, fz_i y38), (0, fz_r 33), (1, fz_i fr), (2, fz_i hr), (3, fz_i 3), (4, fz_i su), (5, fz_i rt)]) kX6_explore rfl (by decide) rfl (by omega) rfl ?_
                      refine fz_goto (tgt := 18) kX6_explore rfl (by decide) ?_
                      refine fz_sub (fz_pk_sub (ls' := [(6, fz_i (x15 + 1)), (0, fz_r 33), (1, fz_i fr), (2, fz_i hr), (3, fz_i 3), (4, fz_i su), (5, fz_i rt)]) [0, 4, 5, 6, 7, 8, 9] rfl) ?_
                      exact ih22 (x15 + 1) H145 hI149 hf153 hMM151 (by omega) (by omega) (by first | exact fl_rgC_n hv26 (by omega) k39 rfl (Or.inl (by omega)) | exact fl_rgC_n hv26 (by omega) k39 rfl (Or.inr (by omega)) | exact fl_rgC_a k132 (by omega) k39 rfl k130 (fun z => (hI.1 2 z).1) (fun z => (hI.1 14 z).2) (fun z => hI.1 28 z) (by omega) | exact fl_rgC_y k132 (by omega) k39 rfl (by omega) (by omega) k139 (by omega) (fl_exC_hh (h := h) hf119 rfl (hf119 33 3 rfl) (hf119 33 4 rfl) f152) | (exfalso; omega)) (by omega)
                  · refine fz_ldc (x := (-1999999999)) kX6_explore rfl rfl rfl ?_
                    refine fz_goto (tgt := 158) kX6_explore rfl (by decide) ?_
                    obtain ⟨k155, k156⟩ : ∃ z, z = (-1999999999) := ⟨_, rfl⟩
                    have k158 : -1999999999 ≤ (-1999999999) ∧ (-1999999999) ≤ 4455 := by first | omega | (have q := fl_rp_vb f87 (fun z => (hI18.1 2 z).1) (fun z => (hI18.1 14 z).2) (fun z => hI85.1 28 z) lost; omega)
                    refine fz_iast (n := 776) kX6_explore rfl rfl (by omega) (by omega) ?_
                    refine fz_nmu (S := [(18, 99999), (19, 99999), (29, 99999), (33, 5), (33, 6), (33, 7), (34, 99999)]) (h0 := h) (fz_Iv_up hI85 (by decide) (show ((-2147483648) : Int) ≤ (-1999999999) by decide) (show ((-1999999999) : Int) ≤ 2147483647 by decide)) (fz_fr_up hf88 rfl) (fun H159 hI160 hf161 e162 => ?_)
                    have t163 : H159 33 5 = H81 33 5 := by rw [e162]; exact fz_up_o (by decide)
                    have t164 : H159 33 6 = H81 33 6 := by rw [e162]; exact fz_up_o (by decide)
                    have t165 : H159 33 7 = H81 33 7 := by rw [e162]; exact fz_up_o (by decide)
                    have hMM166 : fl_MM H159 := by first | exact fl_MM_st hMM89 e162 rfl ⟨by omega, by omega⟩ ⟨by omega, by omega⟩ (fl_mv_a f87 (fl_SC_fr hf86 rfl) f101 (hf88 33 3 rfl).symm (by rw [hf88 33 4 rfl]) (by omega)) | exact fl_MM_st hMM89 e162 rfl ⟨by omega, by omega⟩ ⟨by omega, by omega⟩ (fl_mv_r f87 (fl_SC_fr hf86 rfl) f101 (hf88 33 3 rfl).symm (by rw [hf88 33 4 rfl]) (by omega) lost)
                    have k168 : True := trivial
                    refine fz_aload_n kX6_explore rfl rfl ?_
                    refine fz_getR (t := 34) kX6_explore rfl rfl ?_
                    refine fz_iload kX6_explore rfl rfl ?_
                    obtain ⟨v169, e170⟩ : ∃ z, H159 34 (((y38 * 97) + (hr + (h 3 (x15.toNat)))).toNat) = z := ⟨_, rfl⟩
                    refine fz_ialdV (n := 776) (v := v169) kX6_explore rfl rfl (by omega) (by omega) e170 ?_
                    have b171 : (-2147483648) ≤ v169 ∧ v169 ≤ 2147483647 := by rw [← e170]; exact hI160.1 34 _
                    have k172 : v169 = fl_mv h y38 (hr + (h 3 (x15.toNat))) := fl_mv_at hMM166 e170 rfl ⟨by omega, by omega⟩ ⟨by omega, by omega⟩ (by first | omega | (have q : H159 34 (((y38 * 97) + (hr + (h 3 (x15.toNat))))).toNat = k155 := (by rw [k156, e162]; exact fz_up_e); omega)) (fl_mv_fr hf161 rfl (hf161 33 3 rfl) (hf161 33 4 rfl))
                    have k174 : (H159 33 5, H159 33 6, H159 33 7) = fl_fo (fl_gxC h 0 fr hr 3 su rt) (x15).toNat (fl_cmr 3 su rt (h 33 5, h 33 6, h 33 7)) := by first | exact hv26 | (rw [show H159 33 5 = H17 33 5 by omega, show H159 33 6 = H17 33 6 by omega, show H159 33 7 = H17 33 7 by omega]; exact hv26)
                    refine fz_ldc (x := (-1999999999)) kX6_explore rfl rfl rfl ?_
                    refine fz_icmp_eq (tgt := 200) kX6_explore rfl (by decide) (fun c176 => ?_) (fun c176 => ?_)
                    · refine fz_iincN (ls' := [(6, fz_i (x15 + 1)), (9, fz_i ((y38 * 97) + (hr + (h 3 (x15.toNat))))), (8, fz_i (hr + (h 3 (x15.toNat)))), (7, fz_i y38), (0, fz_r 33), (1, fz_i fr), (2, fz_i hr), (3, fz_i 3), (4, fz_i su), (5, fz_i rt)]) kX6_explore rfl (by decide) rfl (by omega) rfl ?_
                      refine fz_goto (tgt := 18) kX6_explore rfl (by decide) ?_
                      refine fz_sub (fz_pk_sub (ls' := [(6, fz_i (x15 + 1)), (0, fz_r 33), (1, fz_i fr), (2, fz_i hr), (3, fz_i 3), (4, fz_i su), (5, fz_i rt)]) [0, 4, 5, 6, 7, 8, 9] rfl) ?_
                      exact ih22 (x15 + 1) H159 hI160 hf161 hMM166 (by omega) (by omega) (by first | exact fl_rgC_n hv26 (by omega) k39 rfl (Or.inl (by omega)) | exact fl_rgC_n hv26 (by omega) k39 rfl (Or.inr (by omega)) | exact fl_rgC_a k174 (by omega) k39 rfl k172 (fun z => (hI.1 2 z).1) (fun z => (hI.1 14 z).2) (fun z => hI.1 28 z) (by omega) | exact fl_rgC_y k174 (by omega) k39 rfl (by omega) (by omega) lost (by omega) (fl_exC_hh (h := h) lost rfl (lost 33 3 rfl) (lost 33 4 rfl) lost) | (exfalso; omega)) (by omega)
                    · refine fz_aload_n kX6_explore rfl rfl ?_
                      refine fz_iload kX6_explore rfl rfl ?_
                      refine fz_iload kX6_explore rfl rfl ?_
                      refine fz_iload_n kX6_explore rfl rfl ?_
                      refine fz_iconst ⟨by decide, by decide⟩ kX6_explore rfl ?_
                      refine fz_iaddN kX6_explore rfl ⟨by decide, by decide⟩ ?_
                      refine fz_eqi (y := 4) rfl ?_
                      refine fz_iload kX6_explore rfl rfl ?_
                      refine fz_aload_n kX6_explore rfl rfl ?_
                      refine fz_getR (t := 34) kX6_explore rfl rfl ?_
                      refine fz_iload kX6_explore rfl rfl ?_
                      obtain ⟨v178, e179⟩ : ∃ z, H159 34 (((y38 * 97) + (hr + (h 3 (x15.toNat)))).toNat) = z := ⟨_, rfl⟩
                      refine fz_ialdV (n := 776) (v := v178) kX6_explore rfl rfl (by omega) (by omega) e179 ?_
                      have b180 : (-2147483648) ≤ v178 ∧ v178 ≤ 2147483647 := by rw [← e179]; exact hI160.1 34 _
                      have k181 : v178 = fl_mv h y38 (hr + (h 3 (x15.toNat))) := e179.symm.trans (e170.trans k172)
                      refine fz_iadd kX6_explore rfl ?_
                      have b183 := fz_w_b (su + v178)
                      refine fz_iload kX6_explore rfl rfl ?_
                      refine fz_bipush ⟨by decide, by decide⟩ kX6_explore rfl ?_
                      refine fz_imulN kX6_explore rfl (by omega) ?_
                      refine fz_iload kX6_explore rfl rfl ?_
                      refine fz_iaddN kX6_explore rfl (by omega) ?_
                      have b184 : (-2147483648) ≤ H159 33 5 ∧ H159 33 5 ≤ 2147483647 := hI160.1 33 _
                      have b185 : 0 ≤ H159 33 6 ∧ H159 33 6 ≤ 4 := hI160.1 33 _
                      have b186 : (-2147483648) ≤ H159 33 7 ∧ H159 33 7 ≤ 2147483647 := hI160.1 33 _
                      refine fz_callV (d' := 1) (M' := mX6_explore) (As := [fz_i y38, fz_i (hr + (h 3 (x15.toNat))), fz_i 4, fz_i (fz_w (su + v178)), fz_i ((rt * 8) + y38)]) (st := []) kX6_explore rfl rfl vX6_explore rfl rfl rfl rfl (Nat.le_of_ble_eq_true rfl) (Nat.le_of_ble_eq_true rfl) (by decide) (sX6_explore_4 H159 hI160 y38 (hr + (h 3 (x15.toNat))) (fz_w (su + v178)) ((rt * 8) + y38) hMM166 (by omega) (by omega) (by omega) (by omega)) (fun H187 r188 q189 o190 => ?_)
                      obtain ⟨hI191, hf192, hMM193, rfl, f194⟩ := q189
                      clear o190
                      have hf195 := fz_fr_tr hf161 hf192 (show fz_su [(18, 99999), (19, 99999), (29, 99999), (33, 5), (33, 6), (33, 7), (34, 99999)] [(18, 99999), (19, 99999), (29, 99999), (33, 5), (33, 6), (33, 7), (34, 99999)] = true from rfl)
                      refine fz_iincN (ls' := [(6, fz_i (x15 + 1)), (9, fz_i ((y38 * 97) + (hr + (h 3 (x15.toNat))))), (8, fz_i (hr + (h 3 (x15.toNat)))), (7, fz_i y38), (0, fz_r 33), (1, fz_i fr), (2, fz_i hr), (3, fz_i 3), (4, fz_i su), (5, fz_i rt)]) kX6_explore rfl (by decide) rfl (by omega) rfl ?_
                      refine fz_goto (tgt := 18) kX6_explore rfl (by decide) ?_
                      refine fz_sub (fz_pk_sub (ls' := [(6, fz_i (x15 + 1)), (0, fz_r 33), (1, fz_i fr), (2, fz_i hr), (3, fz_i 3), (4, fz_i su), (5, fz_i rt)]) [0, 4, 5, 6, 7, 8, 9] rfl) ?_
                      exact ih22 (x15 + 1) H187 hI191 hf195 hMM193 (by omega) (by omega) (by first | exact fl_rgC_n hv26 (by omega) k39 rfl (Or.inl (by omega)) | exact fl_rgC_n hv26 (by omega) k39 rfl (Or.inr (by omega)) | exact fl_rgC_a k174 (by omega) k39 rfl k172 (fun z => (hI.1 2 z).1) (fun z => (hI.1 14 z).2) (fun z => hI.1 28 z) (by omega) | exact fl_rgC_y k174 (by omega) k39 rfl (by omega) (by omega) k181 (by omega) (fl_exC_hh (h := h) hf161 rfl (hf161 33 3 rfl) (hf161 33 4 rfl) f194) | (exfalso; omega)) (by omega)
              · refine fz_goto (tgt := 200) kX6_explore rfl (by decide) ?_
                refine fz_iincN (ls' := [(6, fz_i (x15 + 1)), (8, fz_i (hr + (h 3 (x15.toNat)))), (7, fz_i y38), (0, fz_r 33), (1, fz_i fr), (2, fz_i hr), (3, fz_i 3), (4, fz_i su), (5, fz_i rt)]) kX6_explore rfl (by decide) rfl (by omega) rfl ?_
                refine fz_goto (tgt := 18) kX6_explore rfl (by decide) ?_
                refine fz_sub (fz_pk_sub (ls' := [(6, fz_i (x15 + 1)), (0, fz_r 33), (1, fz_i fr), (2, fz_i hr), (3, fz_i 3), (4, fz_i su), (5, fz_i rt)]) [0, 3, 4, 5, 6, 7, 8] rfl) ?_
                exact ih22 (x15 + 1) H17 hI18 hf19 hMM16 (by omega) (by omega) (by first | exact fl_rgC_n hv26 (by omega) k39 rfl (Or.inl (by omega)) | exact fl_rgC_n hv26 (by omega) k39 rfl (Or.inr (by omega)) | exact fl_rgC_a lost (by omega) k39 rfl lost (fun z => (hI.1 2 z).1) (fun z => (hI.1 14 z).2) (fun z => hI.1 28 z) (by omega) | exact fl_rgC_y lost (by omega) k39 rfl (by omega) (by omega) lost (by omega) (fl_exC_hh (h := h) lost rfl (lost 33 3 rfl) (lost 33 4 rfl) lost) | (exfalso; omega)) (by omega)
    exact lp21 _ 0 H5 hI9 hf12 hMM13 (by omega) (by omega) (f11) (Nat.lt_succ_self _)
  · exfalso; omega

abbrev qX6_explore_2 (h : fz_H) (fr hr su rt : Int) : fz_H → Option fz_V → Prop := fun h' r0 => fz_Iv h' ∧ fz_fr [(18, 99999), (19, 99999), (29, 99999), (33, 5), (33, 6), (33, 7), (34, 99999)] h h' ∧ fl_MM h' ∧ r0 = none ∧ (h' 33 5, h' 33 6, h' 33 7) = fl_exC h 2 fr hr 2 su rt (h 33 5, h 33 6, h 33 7)
set_option maxHeartbeats 1000000 in
set_option maxRecDepth 100000 in
theorem sX6_explore_2 (h : fz_H) (hI : fz_Iv h) (fr hr su rt : Int) (hMM : fl_MM h) (hp0 : 0 ≤ fr ∧ fr < 8) (hp1 : 0 ≤ hr ∧ hr ≤ 96) (hp2 : hr ≤ 48) (hp3 : 0 ≤ rt ∧ rt < 64) : fz_R 6 mX6_explore 0 [(0, fz_r 33), (1, fz_i fr), (2, fz_i hr), (3, fz_i 2), (4, fz_i su), (5, fz_i rt)] [] h (qX6_explore_2 h fr hr su rt) := by
  refine fz_knowl (fun hk => ?_)
  have hr_fr : -2147483648 ≤ fr ∧ fr < 2147483648 := hk _ (List.Mem.tail _ (List.Mem.head _))
  have hr_hr : -2147483648 ≤ hr ∧ hr < 2147483648 := hk _ (List.Mem.tail _ (List.Mem.tail _ (List.Mem.head _)))
  have hr_su : -2147483648 ≤ su ∧ su < 2147483648 := hk _ (List.Mem.tail _ (List.Mem.tail _ (List.Mem.tail _ (List.Mem.tail _ (List.Mem.head _)))))
  have hr_rt : -2147483648 ≤ rt ∧ rt < 2147483648 := hk _ (List.Mem.tail _ (List.Mem.tail _ (List.Mem.tail _ (List.Mem.tail _ (List.Mem.tail _ (List.Mem.head _))))))
  clear hk
  have hf : fz_fr [(18, 99999), (19, 99999), (29, 99999), (33, 5), (33, 6), (33, 7), (34, 99999)] h h := fz_fr_rf
  have b1 : (-2147483648) ≤ h 33 5 ∧ h 33 5 ≤ 2147483647 := hI.1 33 _
  have b2 : 0 ≤ h 33 6 ∧ h 33 6 ≤ 4 := hI.1 33 _
  have b3 : (-2147483648) ≤ h 33 7 ∧ h 33 7 ≤ 2147483647 := hI.1 33 _
  have k4 : 0 ≤ h 1 8 ∧ h 1 8 ≤ 12 := hI.1 1 _
  refine fz_aload_n kX6_explore rfl rfl ?_
  refine fz_iload_n kX6_explore rfl rfl ?_
  refine fz_iload kX6_explore rfl rfl ?_
  refine fz_iload kX6_explore rfl rfl ?_
  refine fz_callV (d' := 0) (M' := mX6_compare) (As := [fz_i 2, fz_i su, fz_i rt]) (st := []) kX6_explore rfl rfl vX6_compare rfl rfl rfl rfl (Nat.le_of_ble_eq_true rfl) (Nat.le_of_ble_eq_true rfl) (by decide) (sX6_compare h hI 2 su rt (by omega)) (fun H5 r6 q7 o8 => ?_)
  obtain ⟨hI9, hf10, rfl, f11⟩ := q7
  clear o8
  have hf12 := fz_fr_tr hf hf10 (show fz_su [(33, 5), (33, 6), (33, 7)] [(18, 99999), (19, 99999), (29, 99999), (33, 5), (33, 6), (33, 7), (34, 99999)] = true from rfl)
  have hMM13 : fl_MM H5 := fl_MM_eq (funext fun s => hf10 34 s rfl) (hf10 33 3 rfl) (hf10 33 4 rfl) (funext fun s => hf10 28 s rfl) (hf10 27 8 rfl) (funext fun s => hf10 2 s rfl) (funext fun s => hf10 8 s rfl) (funext fun s => hf10 9 s rfl) (funext fun s => hf10 10 s rfl) (funext fun s => hf10 11 s rfl) (funext fun s => hf10 12 s rfl) (funext fun s => hf10 13 s rfl) (funext fun s => hf10 14 s rfl) (funext fun s => hf10 15 s rfl) (funext fun s => hf10 16 s rfl) (funext fun s => hf10 17 s rfl) hMM
  refine fz_iload_n kX6_explore rfl rfl ?_
  refine fz_iconst ⟨by decide, by decide⟩ kX6_explore rfl ?_
  refine fz_icmp_lt (tgt := 15) kX6_explore rfl (by decide) (fun c14 => ?_) (fun c14 => ?_)
  · refine fz_iconst ⟨by decide, by decide⟩ kX6_explore rfl ?_
    refine fz_istore (ls' := [(6, fz_i 0), (0, fz_r 33), (1, fz_i fr), (2, fz_i hr), (3, fz_i 2), (4, fz_i su), (5, fz_i rt)]) kX6_explore rfl (by decide) rfl ?_
    have lp21 : ∀ (n20 : Nat) (x15 : Int) (H17 : fz_H), fz_Iv H17 → fz_fr [(18, 99999), (19, 99999), (29, 99999), (33, 5), (33, 6), (33, 7), (34, 99999)] h H17 → fl_MM H17 → (0 ≤ x15 ∧ x15 ≤ 2147483647) → (x15 ≤ h 1 8) → ((H17 33 5, H17 33 6, H17 33 7) = fl_fo (fl_gxC h 1 fr hr 2 su rt) (x15).toNat (fl_cmr 2 su rt (h 33 5, h 33 6, h 33 7))) → ((h 1 8) - x15).toNat < n20 → fz_R 6 mX6_explore 18 [(6, fz_i x15), (0, fz_r 33), (1, fz_i fr), (2, fz_i hr), (3, fz_i 2), (4, fz_i su), (5, fz_i rt)] [] H17 (qX6_explore_2 h fr hr su rt) := by
      intro n20
      induction n20 with
      | zero => intro x15 H17 hI18 hf19 hMM16 hv24 hv25 hv26 hm23; exact absurd hm23 (by omega)
      | succ n20 ih22 =>
        intro x15 H17 hI18 hf19 hMM16 hv24 hv25 hv26 hm23
        refine fz_iload kX6_explore rfl rfl ?_
        refine fz_aload_n kX6_explore rfl rfl ?_
        refine fz_getR (t := 1) kX6_explore rfl rfl ?_
        refine fz_getV (v := h 1 8) kX6_explore rfl rfl (hf19 1 8 rfl) ?_
        have b27 : 0 ≤ h 1 8 ∧ h 1 8 ≤ 12 := hI.1 1 _
        refine fz_icmp_ge (tgt := 206) kX6_explore rfl (by decide) (fun c28 => ?_) (fun c28 => ?_)
        · exact fz_vret kX6_explore rfl rfl ⟨hI18, hf19, hMM16, rfl, (by exact fl_rgC_e hv26 (by omega))⟩
        · refine fz_aload_n kX6_explore rfl rfl ?_
          refine fz_getR (t := 1) kX6_explore rfl rfl ?_
          refine fz_iload kX6_explore rfl rfl ?_
          refine fz_iload_n kX6_explore rfl rfl ?_
          refine fz_callV (d' := 0) (M' := mX2_acrossFrom) (As := [fz_i x15, fz_i fr]) (st := []) kX6_explore rfl rfl vX2_acrossFrom rfl rfl rfl rfl (Nat.le_of_ble_eq_true rfl) (Nat.le_of_ble_eq_true rfl) (by decide) (sX2_acrossFrom H17 hI18 x15 fr (by omega)) (fun H30 r31 q32 o33 => ?_)
          obtain ⟨e34, y38, rfl, f35, f36, f37⟩ := q32
          subst H30
          clear o33
          have k39 : y38 = fz_ac (h 5 (x15).toNat) (h 6 (x15).toNat) fr := by have z := f37; rw [hf19 5 _ rfl, hf19 6 _ rfl] at z; exact z
          refine fz_istore (ls' := [(7, fz_i y38), (6, fz_i x15), (0, fz_r 33), (1, fz_i fr), (2, fz_i hr), (3, fz_i 2), (4, fz_i su), (5, fz_i rt)]) kX6_explore rfl (by decide) rfl ?_
          refine fz_iload_n kX6_explore rfl rfl ?_
          refine fz_aload_n kX6_explore rfl rfl ?_
          refine fz_getR (t := 1) kX6_explore rfl rfl ?_
          refine fz_getR (t := 3) kX6_explore rfl rfl ?_
          refine fz_iload kX6_explore rfl rfl ?_
          refine fz_ialdV (n := 12) (v := h 3 (x15.toNat)) kX6_explore rfl rfl (by omega) (by omega) (hf19 3 _ rfl) ?_
          have b41 : 0 ≤ h 3 (x15.toNat) ∧ h 3 (x15.toNat) ≤ 24 := hI.1 3 _
          refine fz_iaddN kX6_explore rfl (by omega) ?_
          refine fz_istore (ls' := [(8, fz_i (hr + (h 3 (x15.toNat)))), (7, fz_i y38), (6, fz_i x15), (0, fz_r 33), (1, fz_i fr), (2, fz_i hr), (3, fz_i 2), (4, fz_i su), (5, fz_i rt)]) kX6_explore rfl (by decide) rfl ?_
          refine fz_iload kX6_explore rfl rfl ?_
          refine fz_if_lt (tgt := 200) kX6_explore rfl (by decide) (fun c42 => ?_) (fun c42 => ?_)
          · refine fz_iincN (ls' := [(6, fz_i (x15 + 1)), (8, fz_i (hr + (h 3 (x15.toNat)))), (7, fz_i y38), (0, fz_r 33), (1, fz_i fr), (2, fz_i hr), (3, fz_i 2), (4, fz_i su), (5, fz_i rt)]) kX6_explore rfl (by decide) rfl (by omega) rfl ?_
            refine fz_goto (tgt := 18) kX6_explore rfl (by decide) ?_
            refine fz_sub (fz_pk_sub (ls' := [(6, fz_i (x15 + 1)), (0, fz_r 33), (1, fz_i fr), (2, fz_i hr), (3, fz_i 2), (4, fz_i su), (5, fz_i rt)]) [0, 3, 4, 5, 6, 7, 8] rfl) ?_
            exact ih22 (x15 + 1) H17 hI18 hf19 hMM16 (by omega) (by omega) (by first | exact fl_rgC_n hv26 (by omega) k39 rfl (Or.inl (by omega)) | exact fl_rgC_n hv26 (by omega) k39 rfl (Or.inr (by omega)) | exact fl_rgC_a lost (by omega) k39 rfl lost (fun z => (hI.1 2 z).1) (fun z => (hI.1 14 z).2) (fun z => hI.1 28 z) (by omega) | exact fl_rgC_y lost (by omega) k39 rfl (by omega) (by omega) lost (by omega) (fl_exC_hh (h := h) lost rfl (lost 33 3 rfl) (lost 33 4 rfl) lost) | (exfalso; omega)) (by omega)
          · refine fz_iload kX6_explore rfl rfl ?_
            refine fz_bipush ⟨by decide, by decide⟩ kX6_explore rfl ?_
            refine fz_icmp_ge (tgt := 200) kX6_explore rfl (by decide) (fun c44 => ?_) (fun c44 => ?_)
            · exfalso; omega
            · refine fz_aload_n kX6_explore rfl rfl ?_
              refine fz_getV (v := h 33 4) kX6_explore rfl rfl (hf19 33 4 rfl) ?_
              have b45 : 0 ≤ h 33 4 ∧ h 33 4 ≤ 999 := hI.1 33 _
              refine fz_iload kX6_explore rfl rfl ?_
              refine fz_iaddN kX6_explore rfl (by omega) ?_
              refine fz_sipush ⟨by decide, by decide⟩ kX6_explore rfl ?_
              refine fz_icmp_le (tgt := 84) kX6_explore rfl (by decide) (fun c46 => ?_) (fun c46 => ?_)
              · refine fz_iload kX6_explore rfl rfl ?_
                refine fz_bipush ⟨by decide, by decide⟩ kX6_explore rfl ?_
                refine fz_imulN kX6_explore rfl (by omega) ?_
                refine fz_iload kX6_explore rfl rfl ?_
                refine fz_iaddN kX6_explore rfl (by omega) ?_
                refine fz_istore (ls' := [(9, fz_i ((y38 * 97) + (hr + (h 3 (x15.toNat))))), (8, fz_i (hr + (h 3 (x15.toNat)))), (7, fz_i y38), (6, fz_i x15), (0, fz_r 33), (1, fz_i fr), (2, fz_i hr), (3, fz_i 2), (4, fz_i su), (5, fz_i rt)]) kX6_explore rfl (by decide) rfl ?_
                refine fz_aload_n kX6_explore rfl rfl ?_
                refine fz_getR (t := 34) kX6_explore rfl rfl ?_
                refine fz_iload kX6_explore rfl rfl ?_
                obtain ⟨v47, e48⟩ : ∃ z, H17 34 (((y38 * 97) + (hr + (h 3 (x15.toNat)))).toNat) = z := ⟨_, rfl⟩
                refine fz_ialdV (n := 776) (v := v47) kX6_explore rfl rfl (by omega) (by omega) e48 ?_
                have b49 : (-2147483648) ≤ v47 ∧ v47 ≤ 2147483647 := by rw [← e48]; exact hI18.1 34 _
                refine fz_ldc (x := (-2000000000)) kX6_explore rfl rfl rfl ?_
                refine fz_icmp_ne (tgt := 159) kX6_explore rfl (by decide) (fun c50 => ?_) (fun c50 => ?_)
                · have k51 : True := trivial
                  refine fz_aload_n kX6_explore rfl rfl ?_
                  refine fz_getR (t := 34) kX6_explore rfl rfl ?_
                  refine fz_iload kX6_explore rfl rfl ?_
                  obtain ⟨v52, e53⟩ : ∃ z, H17 34 (((y38 * 97) + (hr + (h 3 (x15.toNat)))).toNat) = z := ⟨_, rfl⟩
                  refine fz_ialdV (n := 776) (v := v52) kX6_explore rfl rfl (by omega) (by omega) e53 ?_
                  have b54 : (-2147483648) ≤ v52 ∧ v52 ≤ 2147483647 := by rw [← e53]; exact hI18.1 34 _
                  have k55 : v52 = fl_mv h y38 (hr + (h 3 (x15.toNat))) := fl_mv_at hMM16 e53 rfl ⟨by omega, by omega⟩ ⟨by omega, by omega⟩ (by first | omega | (have q : H17 34 (((y38 * 97) + (hr + (h 3 (x15.toNat))))).toNat = lost := (by rw [lost, lost]; exact fz_up_e); omega)) (fl_mv_fr hf19 rfl (hf19 33 3 rfl) (hf19 33 4 rfl))
                  have k57 : (H17 33 5, H17 33 6, H17 33 7) = fl_fo (fl_gxC h 1 fr hr 2 su rt) (x15).toNat (fl_cmr 2 su rt (h 33 5, h 33 6, h 33 7)) := by first | exact hv26 | (rw [show H17 33 5 = lost 33 5 by omega, show H17 33 6 = lost 33 6 by omega, show H17 33 7 = lost 33 7 by omega]; exact hv26)
                  refine fz_ldc (x := (-1999999999)) kX6_explore rfl rfl rfl ?_
                  refine fz_icmp_eq (tgt := 200) kX6_explore rfl (by decide) (fun c59 => ?_) (fun c59 => ?_)
                  · refine fz_iincN (ls' := [(6, fz_i (x15 + 1)), (9, fz_i ((y38 * 97) + (hr + (h 3 (x15.toNat))))), (8, fz_i (hr + (h 3 (x15.toNat)))), (7, fz_i y38), (0, fz_r 33), (1, fz_i fr), (2, fz_i hr), (3, fz_i 2), (4, fz_i su), (5, fz_i rt)]) kX6_explore rfl (by decide) rfl (by omega) rfl ?_
                    refine fz_goto (tgt := 18) kX6_explore rfl (by decide) ?_
                    refine fz_sub (fz_pk_sub (ls' := [(6, fz_i (x15 + 1)), (0, fz_r 33), (1, fz_i fr), (2, fz_i hr), (3, fz_i 2), (4, fz_i su), (5, fz_i rt)]) [0, 4, 5, 6, 7, 8, 9] rfl) ?_
                    exact ih22 (x15 + 1) H17 hI18 hf19 hMM16 (by omega) (by omega) (by first | exact fl_rgC_n hv26 (by omega) k39 rfl (Or.inl (by omega)) | exact fl_rgC_n hv26 (by omega) k39 rfl (Or.inr (by omega)) | exact fl_rgC_a k57 (by omega) k39 rfl k55 (fun z => (hI.1 2 z).1) (fun z => (hI.1 14 z).2) (fun z => hI.1 28 z) (by omega) | exact fl_rgC_y k57 (by omega) k39 rfl (by omega) (by omega) lost (by omega) (fl_exC_hh (h := h) lost rfl (lost 33 3 rfl) (lost 33 4 rfl) lost) | (exfalso; omega)) (by omega)
                  · refine fz_aload_n kX6_explore rfl rfl ?_
                    refine fz_iload kX6_explore rfl rfl ?_
                    refine fz_iload kX6_explore rfl rfl ?_
                    refine fz_iload_n kX6_explore rfl rfl ?_
                    refine fz_iconst ⟨by decide, by decide⟩ kX6_explore rfl ?_
                    refine fz_iaddN kX6_explore rfl ⟨by decide, by decide⟩ ?_
                    refine fz_eqi (y := 3) rfl ?_
                    refine fz_iload kX6_explore rfl rfl ?_
                    refine fz_aload_n kX6_explore rfl rfl ?_
                    refine fz_getR (t := 34) kX6_explore rfl rfl ?_
                    refine fz_iload kX6_explore rfl rfl ?_
                    obtain ⟨v61, e62⟩ : ∃ z, H17 34 (((y38 * 97) + (hr + (h 3 (x15.toNat)))).toNat) = z := ⟨_, rfl⟩
                    refine fz_ialdV (n := 776) (v := v61) kX6_explore rfl rfl (by omega) (by omega) e62 ?_
                    have b63 : (-2147483648) ≤ v61 ∧ v61 ≤ 2147483647 := by rw [← e62]; exact hI18.1 34 _
                    have k64 : v61 = fl_mv h y38 (hr + (h 3 (x15.toNat))) := e62.symm.trans (e53.trans k55)
                    refine fz_iadd kX6_explore rfl ?_
                    have b66 := fz_w_b (su + v61)
                    refine fz_iload kX6_explore rfl rfl ?_
                    refine fz_bipush ⟨by decide, by decide⟩ kX6_explore rfl ?_
                    refine fz_imulN kX6_explore rfl (by omega) ?_
                    refine fz_iload kX6_explore rfl rfl ?_
                    refine fz_iaddN kX6_explore rfl (by omega) ?_
                    have b67 : (-2147483648) ≤ H17 33 5 ∧ H17 33 5 ≤ 2147483647 := hI18.1 33 _
                    have b68 : 0 ≤ H17 33 6 ∧ H17 33 6 ≤ 4 := hI18.1 33 _
                    have b69 : (-2147483648) ≤ H17 33 7 ∧ H17 33 7 ≤ 2147483647 := hI18.1 33 _
                    refine fz_callV (d' := 5) (M' := mX6_explore) (As := [fz_i y38, fz_i (hr + (h 3 (x15.toNat))), fz_i 3, fz_i (fz_w (su + v61)), fz_i ((rt * 8) + y38)]) (st := []) kX6_explore rfl rfl vX6_explore rfl rfl rfl rfl (Nat.le_of_ble_eq_true rfl) (Nat.le_of_ble_eq_true rfl) (by decide) (sX6_explore_3 H17 hI18 y38 (hr + (h 3 (x15.toNat))) (fz_w (su + v61)) ((rt * 8) + y38) hMM16 (by omega) (by omega) (by omega) (by omega)) (fun H70 r71 q72 o73 => ?_)
                    obtain ⟨hI74, hf75, hMM76, rfl, f77⟩ := q72
                    clear o73
                    have hf78 := fz_fr_tr hf19 hf75 (show fz_su [(18, 99999), (19, 99999), (29, 99999), (33, 5), (33, 6), (33, 7), (34, 99999)] [(18, 99999), (19, 99999), (29, 99999), (33, 5), (33, 6), (33, 7), (34, 99999)] = true from rfl)
                    refine fz_iincN (ls' := [(6, fz_i (x15 + 1)), (9, fz_i ((y38 * 97) + (hr + (h 3 (x15.toNat))))), (8, fz_i (hr + (h 3 (x15.toNat)))), (7, fz_i y38), (0, fz_r 33), (1, fz_i fr), (2, fz_i hr), (3, fz_i 2), (4, fz_i su), (5, fz_i rt)]) kX6_explore rfl (by decide) rfl (by omega) rfl ?_
                    refine fz_goto (tgt := 18) kX6_explore rfl (by decide) ?_
                    refine fz_sub (fz_pk_sub (ls' := [(6, fz_i (x15 + 1)), (0, fz_r 33), (1, fz_i fr), (2, fz_i hr), (3, fz_i 2), (4, fz_i su), (5, fz_i rt)]) [0, 4, 5, 6, 7, 8, 9] rfl) ?_
                    exact ih22 (x15 + 1) H70 hI74 hf78 hMM76 (by omega) (by omega) (by first | exact fl_rgC_n hv26 (by omega) k39 rfl (Or.inl (by omega)) | exact fl_rgC_n hv26 (by omega) k39 rfl (Or.inr (by omega)) | exact fl_rgC_a k57 (by omega) k39 rfl k55 (fun z => (hI.1 2 z).1) (fun z => (hI.1 14 z).2) (fun z => hI.1 28 z) (by omega) | exact fl_rgC_y k57 (by omega) k39 rfl (by omega) (by omega) k64 (by omega) (fl_exC_hh (h := h) hf19 rfl (hf19 33 3 rfl) (hf19 33 4 rfl) f77) | (exfalso; omega)) (by omega)
                · refine fz_aload_n kX6_explore rfl rfl ?_
                  refine fz_getR (t := 27) kX6_explore rfl rfl ?_
                  refine fz_aload_n kX6_explore rfl rfl ?_
                  refine fz_getV (v := h 33 3) kX6_explore rfl rfl (hf19 33 3 rfl) ?_
                  have b80 : 0 ≤ h 33 3 ∧ h 33 3 ≤ 3 := hI.1 33 _
                  refine fz_aload_n kX6_explore rfl rfl ?_
                  refine fz_getV (v := h 33 3) kX6_explore rfl rfl (hf19 33 3 rfl) ?_
                  refine fz_iload kX6_explore rfl rfl ?_
                  refine fz_aload_n kX6_explore rfl rfl ?_
                  refine fz_getV (v := h 33 4) kX6_explore rfl rfl (hf19 33 4 rfl) ?_
                  refine fz_iload kX6_explore rfl rfl ?_
                  refine fz_iaddN kX6_explore rfl (by omega) ?_
                  refine fz_callV (d' := 4) (M' := mX8_listen) (As := [fz_i (h 33 3), fz_i (h 33 3), fz_i y38, fz_i ((h 33 4) + (hr + (h 3 (x15.toNat))))]) (st := []) kX6_explore rfl rfl vX8_listen rfl rfl rfl rfl (Nat.le_of_ble_eq_true rfl) (Nat.le_of_ble_eq_true rfl) (by decide) (sX8_listen H17 hI18 (h 33 3) (h 33 3) y38 ((h 33 4) + (hr + (h 3 (x15.toNat)))) (by omega)) (fun H81 r82 q83 o84 => ?_)
                  obtain ⟨hI85, hf86, rfl, f87⟩ := q83
                  clear o84
                  have hf88 := fz_fr_tr hf19 hf86 (show fz_su [(18, 99999), (19, 99999), (29, 99999)] [(18, 99999), (19, 99999), (29, 99999), (33, 5), (33, 6), (33, 7), (34, 99999)] = true from rfl)
                  have hMM89 : fl_MM H81 := fl_MM_eq (funext fun s => hf86 34 s rfl) (hf86 33 3 rfl) (hf86 33 4 rfl) (funext fun s => hf86 28 s rfl) (hf86 27 8 rfl) (funext fun s => hf86 2 s rfl) (funext fun s => hf86 8 s rfl) (funext fun s => hf86 9 s rfl) (funext fun s => hf86 10 s rfl) (funext fun s => hf86 11 s rfl) (funext fun s => hf86 12 s rfl) (funext fun s => hf86 13 s rfl) (funext fun s => hf86 14 s rfl) (funext fun s => hf86 15 s rfl) (funext fun s => hf86 16 s rfl) (funext fun s => hf86 17 s rfl) hMM16
                  have t90 : H81 33 5 = H17 33 5 := hf86 33 5 rfl
                  have t91 : H81 33 6 = H17 33 6 := hf86 33 6 rfl
                  have t92 : H81 33 7 = H17 33 7 := hf86 33 7 rfl
                  refine fz_aload_n kX6_explore rfl rfl ?_
                  refine fz_getR (t := 34) kX6_explore rfl rfl ?_
                  refine fz_iload kX6_explore rfl rfl ?_
                  refine fz_aload_n kX6_explore rfl rfl ?_
                  refine fz_getR (t := 27) kX6_explore rfl rfl ?_
                  have b93 : (-2147483648) ≤ H81 29 1 ∧ H81 29 1 ≤ 2147483647 := hI85.1 29 _
                  have b94 : 0 ≤ h 27 8 ∧ h 27 8 ≤ 99 := hI.1 27 _
                  have e95 : H81 27 8 = h 27 8 := hf88 27 8 rfl
                  refine fz_callV (d' := 1) (M' := mX8_isArrested) (As := []) (st := [fz_i ((y38 * 97) + (hr + (h 3 (x15.toNat)))), fz_r 34]) kX6_explore rfl rfl vX8_isArrested rfl rfl rfl rfl (Nat.le_of_ble_eq_true rfl) (Nat.le_of_ble_eq_true rfl) (by decide) (sX8_isArrested H81 hI85  ) (fun H96 r97 q98 o99 => ?_)
                  obtain ⟨e100, y102, rfl, p103, f101⟩ := q98
                  subst H96
                  clear o99
                  refine fz_if_eq (tgt := 151) kX6_explore rfl (by decide) (fun c104 => ?_) (fun c104 => ?_)
                  · refine fz_aload_n kX6_explore rfl rfl ?_
                    refine fz_getR (t := 27) kX6_explore rfl rfl ?_
                    refine fz_callV (d' := 0) (M' := mX8_reception) (As := []) (st := [fz_i ((y38 * 97) + (hr + (h 3 (x15.toNat)))), fz_r 34]) kX6_explore rfl rfl vX8_reception rfl rfl rfl rfl (Nat.le_of_ble_eq_true rfl) (Nat.le_of_ble_eq_true rfl) (by decide) (sX8_reception H81 hI85  ) (fun H105 r106 q107 o108 => ?_)
                    obtain ⟨e109, y112, rfl, f110, f111⟩ := q107
                    subst H105
                    clear o108
                    obtain ⟨k113, k114⟩ : ∃ z, z = y112 := ⟨_, rfl⟩
                    have k116 : -1999999999 ≤ y112 ∧ y112 ≤ 4455 := by first | omega | (have q := fl_rp_vb f87 (fun z => (hI18.1 2 z).1) (fun z => (hI18.1 14 z).2) (fun z => hI85.1 28 z) f111; omega)
                    refine fz_iast (n := 776) kX6_explore rfl rfl (by omega) (by omega) ?_
                    refine fz_nmu (S := [(18, 99999), (19, 99999), (29, 99999), (33, 5), (33, 6), (33, 7), (34, 99999)]) (h0 := h) (fz_Iv_up hI85 (by decide) (show ((-2147483648) : Int) ≤ y112 by omega) (show (y112 : Int) ≤ 2147483647 by omega)) (fz_fr_up hf88 rfl) (fun H117 hI118 hf119 e120 => ?_)
                    have t121 : H117 33 5 = H81 33 5 := by rw [e120]; exact fz_up_o (by decide)
                    have t122 : H117 33 6 = H81 33 6 := by rw [e120]; exact fz_up_o (by decide)
                    have t123 : H117 33 7 = H81 33 7 := by rw [e120]; exact fz_up_o (by decide)
                    have hMM124 : fl_MM H117 := by first | exact fl_MM_st hMM89 e120 rfl ⟨by omega, by omega⟩ ⟨by omega, by omega⟩ (fl_mv_a f87 (fl_SC_fr hf86 rfl) f101 (hf88 33 3 rfl).symm (by rw [hf88 33 4 rfl]) (by omega)) | exact fl_MM_st hMM89 e120 rfl ⟨by omega, by omega⟩ ⟨by omega, by omega⟩ (fl_mv_r f87 (fl_SC_fr hf86 rfl) f101 (hf88 33 3 rfl).symm (by rw [hf88 33 4 rfl]) (by omega) f111)
                    have k126 : True := trivial
                    refine fz_aload_n kX6_explore rfl rfl ?_
                    refine fz_getR (t := 34) kX6_explore rfl rfl ?_
                    refine fz_iload kX6_explore rfl rfl ?_
                    obtain ⟨v127, e128⟩ : ∃ z, H117 34 (((y38 * 97) + (hr + (h 3 (x15.toNat)))).toNat) = z := ⟨_, rfl⟩
                    refine fz_ialdV (n := 776) (v := v127) kX6_explore rfl rfl (by omega) (by omega) e128 ?_
                    have b129 : (-2147483648) ≤ v127 ∧ v127 ≤ 2147483647 := by rw [← e128]; exact hI118.1 34 _
                    have k130 : v127 = fl_mv h y38 (hr + (h 3 (x15.toNat))) := fl_mv_at hMM124 e128 rfl ⟨by omega, by omega⟩ ⟨by omega, by omega⟩ (by first | omega | (have q : H117 34 (((y38 * 97) + (hr + (h 3 (x15.toNat))))).toNat = k113 := (by rw [k114, e120]; exact fz_up_e); omega)) (fl_mv_fr hf119 rfl (hf119 33 3 rfl) (hf119 33 4 rfl))
                    have k132 : (H117 33 5, H117 33 6, H117 33 7) = fl_fo (fl_gxC h 1 fr hr 2 su rt) (x15).toNat (fl_cmr 2 su rt (h 33 5, h 33 6, h 33 7)) := by first | exact hv26 | (rw [show H117 33 5 = H17 33 5 by omega, show H117 33 6 = H17 33 6 by omega, show H117 33 7 = H17 33 7 by omega]; exact hv26)
                    refine fz_ldc (x := (-1999999999)) kX6_explore rfl rfl rfl ?_
                    refine fz_icmp_eq (tgt := 200) kX6_explore rfl (by decide) (fun c134 => ?_) (fun c134 => ?_)
                    · refine fz_iincN (ls' := [(6, fz_i (x15 + 1)), (9, fz_i ((y38 * 97) + (hr + (h 3 (x15.toNat))))), (8, fz_i (hr + (h 3 (x15.toNat)))), (7, fz_i y38), (0, fz_r 33), (1, fz_i fr), (2, fz_i hr), (3, fz_i 2), (4, fz_i su), (5, fz_i rt)]) kX6_explore rfl (by decide) rfl (by omega) rfl ?_
                      refine fz_goto (tgt := 18) kX6_explore rfl (by decide) ?_
                      refine fz_sub (fz_pk_sub (ls' := [(6, fz_i (x15 + 1)), (0, fz_r 33), (1, fz_i fr), (2, fz_i hr), (3, fz_i 2), (4, fz_i su), (5, fz_i rt)]) [0, 4, 5, 6, 7, 8, 9] rfl) ?_
                      exact ih22 (x15 + 1) H117 hI118 hf119 hMM124 (by omega) (by omega) (by first | exact fl_rgC_n hv26 (by omega) k39 rfl (Or.inl (by omega)) | exact fl_rgC_n hv26 (by omega) k39 rfl (Or.inr (by omega)) | exact fl_rgC_a k132 (by omega) k39 rfl k130 (fun z => (hI.1 2 z).1) (fun z => (hI.1 14 z).2) (fun z => hI.1 28 z) (by omega) | exact fl_rgC_y k132 (by omega) k39 rfl (by omega) (by omega) lost (by omega) (fl_exC_hh (h := h) lost rfl (lost 33 3 rfl) (lost 33 4 rfl) lost) | (exfalso; omega)) (by omega)
                    · refine fz_aload_n kX6_explore rfl rfl ?_
                      refine fz_iload kX6_explore rfl rfl ?_
                      refine fz_iload kX6_explore rfl rfl ?_
                      refine fz_iload_n kX6_explore rfl rfl ?_
                      refine fz_iconst ⟨by decide, by decide⟩ kX6_explore rfl ?_
                      refine fz_iaddN kX6_explore rfl ⟨by decide, by decide⟩ ?_
                      refine fz_eqi (y := 3) rfl ?_
                      refine fz_iload kX6_explore rfl rfl ?_
                      refine fz_aload_n kX6_explore rfl rfl ?_
                      refine fz_getR (t := 34) kX6_explore rfl rfl ?_
                      refine fz_iload kX6_explore rfl rfl ?_
                      obtain ⟨v136, e137⟩ : ∃ z, H117 34 (((y38 * 97) + (hr + (h 3 (x15.toNat)))).toNat) = z := ⟨_, rfl⟩
                      refine fz_ialdV (n := 776) (v := v136) kX6_explore rfl rfl (by omega) (by omega) e137 ?_
                      have b138 : (-2147483648) ≤ v136 ∧ v136 ≤ 2147483647 := by rw [← e137]; exact hI118.1 34 _
                      have k139 : v136 = fl_mv h y38 (hr + (h 3 (x15.toNat))) := e137.symm.trans (e128.trans k130)
                      refine fz_iadd kX6_explore rfl ?_
                      have b141 := fz_w_b (su + v136)
                      refine fz_iload kX6_explore rfl rfl ?_
                      refine fz_bipush ⟨by decide, by decide⟩ kX6_explore rfl ?_
                      refine fz_imulN kX6_explore rfl (by omega) ?_
                      refine fz_iload kX6_explore rfl rfl ?_
                      refine fz_iaddN kX6_explore rfl (by omega) ?_
                      have b142 : (-2147483648) ≤ H117 33 5 ∧ H117 33 5 ≤ 2147483647 := hI118.1 33 _
                      have b143 : 0 ≤ H117 33 6 ∧ H117 33 6 ≤ 4 := hI118.1 33 _
                      have b144 : (-2147483648) ≤ H117 33 7 ∧ H117 33 7 ≤ 2147483647 := hI118.1 33 _
                      refine fz_callV (d' := 5) (M' := mX6_explore) (As := [fz_i y38, fz_i (hr + (h 3 (x15.toNat))), fz_i 3, fz_i (fz_w (su + v136)), fz_i ((rt * 8) + y38)]) (st := []) kX6_explore rfl rfl vX6_explore rfl rfl rfl rfl (Nat.le_of_ble_eq_true rfl) (Nat.le_of_ble_eq_true rfl) (by decide) (sX6_explore_3 H117 hI118 y38 (hr + (h 3 (x15.toNat))) (fz_w (su + v136)) ((rt * 8) + y38) hMM124 (by omega) (by omega) (by omega) (by omega)) (fun H145 r146 q147 o148 => ?_)
                      obtain ⟨hI149, hf150, hMM151, rfl, f152⟩ := q147
                      clear o148
                      have hf153 := fz_fr_tr hf119 hf150 (show fz_su [(18, 99999), (19, 99999), (29, 99999), (33, 5), (33, 6), (33, 7), (34, 99999)] [(18, 99999), (19, 99999), (29, 99999), (33, 5), (33, 6), (33, 7), (34, 99999)] = true from rfl)
                      refine fz_iincN (ls' := [(6, fz_i (x15 + 1)), (9, fz_i ((y38 * 97) + (hr + (h 3 (x15.toNat))))), (8, fz_i (hr + (h 3 (x15.toNat)))), (7, fz_i y38), (0, fz_r 33), (1, fz_i fr), (2, fz_i hr), (3, fz_i 2), (4, fz_i su), (5, fz_i rt)]) kX6_explore rfl (by decide) rfl (by omega) rfl ?_
                      refine fz_goto (tgt := 18) kX6_explore rfl (by decide) ?_
                      refine fz_sub (fz_pk_sub (ls' := [(6, fz_i (x15 + 1)), (0, fz_r 33), (1, fz_i fr), (2, fz_i hr), (3, fz_i 2), (4, fz_i su), (5, fz_i rt)]) [0, 4, 5, 6, 7, 8, 9] rfl) ?_
                      exact ih22 (x15 + 1) H145 hI149 hf153 hMM151 (by omega) (by omega) (by first | exact fl_rgC_n hv26 (by omega) k39 rfl (Or.inl (by omega)) | exact fl_rgC_n hv26 (by omega) k39 rfl (Or.inr (by omega)) | exact fl_rgC_a k132 (by omega) k39 rfl k130 (fun z => (hI.1 2 z).1) (fun z => (hI.1 14 z).2) (fun z => hI.1 28 z) (by omega) | exact fl_rgC_y k132 (by omega) k39 rfl (by omega) (by omega) k139 (by omega) (fl_exC_hh (h := h) hf119 rfl (hf119 33 3 rfl) (hf119 33 4 rfl) f152) | (exfalso; omega)) (by omega)
                  · refine fz_ldc (x := (-1999999999)) kX6_explore rfl rfl rfl ?_
                    refine fz_goto (tgt := 158) kX6_explore rfl (by decide) ?_
                    obtain ⟨k155, k156⟩ : ∃ z, z = (-1999999999) := ⟨_, rfl⟩
                    have k158 : -1999999999 ≤ (-1999999999) ∧ (-1999999999) ≤ 4455 := by first | omega | (have q := fl_rp_vb f87 (fun z => (hI18.1 2 z).1) (fun z => (hI18.1 14 z).2) (fun z => hI85.1 28 z) lost; omega)
                    refine fz_iast (n := 776) kX6_explore rfl rfl (by omega) (by omega) ?_
                    refine fz_nmu (S := [(18, 99999), (19, 99999), (29, 99999), (33, 5), (33, 6), (33, 7), (34, 99999)]) (h0 := h) (fz_Iv_up hI85 (by decide) (show ((-2147483648) : Int) ≤ (-1999999999) by decide) (show ((-1999999999) : Int) ≤ 2147483647 by decide)) (fz_fr_up hf88 rfl) (fun H159 hI160 hf161 e162 => ?_)
                    have t163 : H159 33 5 = H81 33 5 := by rw [e162]; exact fz_up_o (by decide)
                    have t164 : H159 33 6 = H81 33 6 := by rw [e162]; exact fz_up_o (by decide)
                    have t165 : H159 33 7 = H81 33 7 := by rw [e162]; exact fz_up_o (by decide)
                    have hMM166 : fl_MM H159 := by first | exact fl_MM_st hMM89 e162 rfl ⟨by omega, by omega⟩ ⟨by omega, by omega⟩ (fl_mv_a f87 (fl_SC_fr hf86 rfl) f101 (hf88 33 3 rfl).symm (by rw [hf88 33 4 rfl]) (by omega)) | exact fl_MM_st hMM89 e162 rfl ⟨by omega, by omega⟩ ⟨by omega, by omega⟩ (fl_mv_r f87 (fl_SC_fr hf86 rfl) f101 (hf88 33 3 rfl).symm (by rw [hf88 33 4 rfl]) (by omega) lost)
                    have k168 : True := trivial
                    refine fz_aload_n kX6_explore rfl rfl ?_
                    refine fz_getR (t := 34) kX6_explore rfl rfl ?_
                    refine fz_iload kX6_explore rfl rfl ?_
                    obtain ⟨v169, e170⟩ : ∃ z, H159 34 (((y38 * 97) + (hr + (h 3 (x15.toNat)))).toNat) = z := ⟨_, rfl⟩
                    refine fz_ialdV (n := 776) (v := v169) kX6_explore rfl rfl (by omega) (by omega) e170 ?_
                    have b171 : (-2147483648) ≤ v169 ∧ v169 ≤ 2147483647 := by rw [← e170]; exact hI160.1 34 _
                    have k172 : v169 = fl_mv h y38 (hr + (h 3 (x15.toNat))) := fl_mv_at hMM166 e170 rfl ⟨by omega, by omega⟩ ⟨by omega, by omega⟩ (by first | omega | (have q : H159 34 (((y38 * 97) + (hr + (h 3 (x15.toNat))))).toNat = k155 := (by rw [k156, e162]; exact fz_up_e); omega)) (fl_mv_fr hf161 rfl (hf161 33 3 rfl) (hf161 33 4 rfl))
                    have k174 : (H159 33 5, H159 33 6, H159 33 7) = fl_fo (fl_gxC h 1 fr hr 2 su rt) (x15).toNat (fl_cmr 2 su rt (h 33 5, h 33 6, h 33 7)) := by first | exact hv26 | (rw [show H159 33 5 = H17 33 5 by omega, show H159 33 6 = H17 33 6 by omega, show H159 33 7 = H17 33 7 by omega]; exact hv26)
                    refine fz_ldc (x := (-1999999999)) kX6_explore rfl rfl rfl ?_
                    refine fz_icmp_eq (tgt := 200) kX6_explore rfl (by decide) (fun c176 => ?_) (fun c176 => ?_)
                    · refine fz_iincN (ls' := [(6, fz_i (x15 + 1)), (9, fz_i ((y38 * 97) + (hr + (h 3 (x15.toNat))))), (8, fz_i (hr + (h 3 (x15.toNat)))), (7, fz_i y38), (0, fz_r 33), (1, fz_i fr), (2, fz_i hr), (3, fz_i 2), (4, fz_i su), (5, fz_i rt)]) kX6_explore rfl (by decide) rfl (by omega) rfl ?_
                      refine fz_goto (tgt := 18) kX6_explore rfl (by decide) ?_
                      refine fz_sub (fz_pk_sub (ls' := [(6, fz_i (x15 + 1)), (0, fz_r 33), (1, fz_i fr), (2, fz_i hr), (3, fz_i 2), (4, fz_i su), (5, fz_i rt)]) [0, 4, 5, 6, 7, 8, 9] rfl) ?_
                      exact ih22 (x15 + 1) H159 hI160 hf161 hMM166 (by omega) (by omega) (by first | exact fl_rgC_n hv26 (by omega) k39 rfl (Or.inl (by omega)) | exact fl_rgC_n hv26 (by omega) k39 rfl (Or.inr (by omega)) | exact fl_rgC_a k174 (by omega) k39 rfl k172 (fun z => (hI.1 2 z).1) (fun z => (hI.1 14 z).2) (fun z => hI.1 28 z) (by omega) | exact fl_rgC_y k174 (by omega) k39 rfl (by omega) (by omega) lost (by omega) (fl_exC_hh (h := h) lost rfl (lost 33 3 rfl) (lost 33 4 rfl) lost) | (exfalso; omega)) (by omega)
                    · refine fz_aload_n kX6_explore rfl rfl ?_
                      refine fz_iload kX6_explore rfl rfl ?_
                      refine fz_iload kX6_explore rfl rfl ?_
                      refine fz_iload_n kX6_explore rfl rfl ?_
                      refine fz_iconst ⟨by decide, by decide⟩ kX6_explore rfl ?_
                      refine fz_iaddN kX6_explore rfl ⟨by decide, by decide⟩ ?_
                      refine fz_eqi (y := 3) rfl ?_
                      refine fz_iload kX6_explore rfl rfl ?_
                      refine fz_aload_n kX6_explore rfl rfl ?_
                      refine fz_getR (t := 34) kX6_explore rfl rfl ?_
                      refine fz_iload kX6_explore rfl rfl ?_
                      obtain ⟨v178, e179⟩ : ∃ z, H159 34 (((y38 * 97) + (hr + (h 3 (x15.toNat)))).toNat) = z := ⟨_, rfl⟩
                      refine fz_ialdV (n := 776) (v := v178) kX6_explore rfl rfl (by omega) (by omega) e179 ?_
                      have b180 : (-2147483648) ≤ v178 ∧ v178 ≤ 2147483647 := by rw [← e179]; exact hI160.1 34 _
                      have k181 : v178 = fl_mv h y38 (hr + (h 3 (x15.toNat))) := e179.symm.trans (e170.trans k172)
                      refine fz_iadd kX6_explore rfl ?_
                      have b183 := fz_w_b (su + v178)
                      refine fz_iload kX6_explore rfl rfl ?_
                      refine fz_bipush ⟨by decide, by decide⟩ kX6_explore rfl ?_
                      refine fz_imulN kX6_explore rfl (by omega) ?_
                      refine fz_iload kX6_explore rfl rfl ?_
                      refine fz_iaddN kX6_explore rfl (by omega) ?_
                      have b184 : (-2147483648) ≤ H159 33 5 ∧ H159 33 5 ≤ 2147483647 := hI160.1 33 _
                      have b185 : 0 ≤ H159 33 6 ∧ H159 33 6 ≤ 4 := hI160.1 33 _
                      have b186 : (-2147483648) ≤ H159 33 7 ∧ H159 33 7 ≤ 2147483647 := hI160.1 33 _
                      refine fz_callV (d' := 5) (M' := mX6_explore) (As := [fz_i y38, fz_i (hr + (h 3 (x15.toNat))), fz_i 3, fz_i (fz_w (su + v178)), fz_i ((rt * 8) + y38)]) (st := []) kX6_explore rfl rfl vX6_explore rfl rfl rfl rfl (Nat.le_of_ble_eq_true rfl) (Nat.le_of_ble_eq_true rfl) (by decide) (sX6_explore_3 H159 hI160 y38 (hr + (h 3 (x15.toNat))) (fz_w (su + v178)) ((rt * 8) + y38) hMM166 (by omega) (by omega) (by omega) (by omega)) (fun H187 r188 q189 o190 => ?_)
                      obtain ⟨hI191, hf192, hMM193, rfl, f194⟩ := q189
                      clear o190
                      have hf195 := fz_fr_tr hf161 hf192 (show fz_su [(18, 99999), (19, 99999), (29, 99999), (33, 5), (33, 6), (33, 7), (34, 99999)] [(18, 99999), (19, 99999), (29, 99999), (33, 5), (33, 6), (33, 7), (34, 99999)] = true from rfl)
                      refine fz_iincN (ls' := [(6, fz_i (x15 + 1)), (9, fz_i ((y38 * 97) + (hr + (h 3 (x15.toNat))))), (8, fz_i (hr + (h 3 (x15.toNat)))), (7, fz_i y38), (0, fz_r 33), (1, fz_i fr), (2, fz_i hr), (3, fz_i 2), (4, fz_i su), (5, fz_i rt)]) kX6_explore rfl (by decide) rfl (by omega) rfl ?_
                      refine fz_goto (tgt := 18) kX6_explore rfl (by decide) ?_
                      refine fz_sub (fz_pk_sub (ls' := [(6, fz_i (x15 + 1)), (0, fz_r 33), (1, fz_i fr), (2, fz_i hr), (3, fz_i 2), (4, fz_i su), (5, fz_i rt)]) [0, 4, 5, 6, 7, 8, 9] rfl) ?_
                      exact ih22 (x15 + 1) H187 hI191 hf195 hMM193 (by omega) (by omega) (by first | exact fl_rgC_n hv26 (by omega) k39 rfl (Or.inl (by omega)) | exact fl_rgC_n hv26 (by omega) k39 rfl (Or.inr (by omega)) | exact fl_rgC_a k174 (by omega) k39 rfl k172 (fun z => (hI.1 2 z).1) (fun z => (hI.1 14 z).2) (fun z => hI.1 28 z) (by omega) | exact fl_rgC_y k174 (by omega) k39 rfl (by omega) (by omega) k181 (by omega) (fl_exC_hh (h := h) hf161 rfl (hf161 33 3 rfl) (hf161 33 4 rfl) f194) | (exfalso; omega)) (by omega)
              · refine fz_goto (tgt := 200) kX6_explore rfl (by decide) ?_
                refine fz_iincN (ls' := [(6, fz_i (x15 + 1)), (8, fz_i (hr + (h 3 (x15.toNat)))), (7, fz_i y38), (0, fz_r 33), (1, fz_i fr), (2, fz_i hr), (3, fz_i 2), (4, fz_i su), (5, fz_i rt)]) kX6_explore rfl (by decide) rfl (by omega) rfl ?_
                refine fz_goto (tgt := 18) kX6_explore rfl (by decide) ?_
                refine fz_sub (fz_pk_sub (ls' := [(6, fz_i (x15 + 1)), (0, fz_r 33), (1, fz_i fr), (2, fz_i hr), (3, fz_i 2), (4, fz_i su), (5, fz_i rt)]) [0, 3, 4, 5, 6, 7, 8] rfl) ?_
                exact ih22 (x15 + 1) H17 hI18 hf19 hMM16 (by omega) (by omega) (by first | exact fl_rgC_n hv26 (by omega) k39 rfl (Or.inl (by omega)) | exact fl_rgC_n hv26 (by omega) k39 rfl (Or.inr (by omega)) | exact fl_rgC_a lost (by omega) k39 rfl lost (fun z => (hI.1 2 z).1) (fun z => (hI.1 14 z).2) (fun z => hI.1 28 z) (by omega) | exact fl_rgC_y lost (by omega) k39 rfl (by omega) (by omega) lost (by omega) (fl_exC_hh (h := h) lost rfl (lost 33 3 rfl) (lost 33 4 rfl) lost) | (exfalso; omega)) (by omega)
    exact lp21 _ 0 H5 hI9 hf12 hMM13 (by omega) (by omega) (f11) (Nat.lt_succ_self _)
  · exfalso; omega

abbrev qX6_explore_1 (h : fz_H) (fr hr su rt : Int) : fz_H → Option fz_V → Prop := fun h' r0 => fz_Iv h' ∧ fz_fr [(18, 99999), (19, 99999), (29, 99999), (33, 5), (33, 6), (33, 7), (34, 99999)] h h' ∧ fl_MM h' ∧ r0 = none ∧ (h' 33 5, h' 33 6, h' 33 7) = fl_exC h 3 fr hr 1 su rt (h 33 5, h 33 6, h 33 7)
set_option maxHeartbeats 1000000 in
set_option maxRecDepth 100000 in
theorem sX6_explore_1 (h : fz_H) (hI : fz_Iv h) (fr hr su rt : Int) (hMM : fl_MM h) (hp0 : 0 ≤ fr ∧ fr < 8) (hp1 : 0 ≤ hr ∧ hr ≤ 96) (hp2 : hr ≤ 24) (hp3 : 0 ≤ rt ∧ rt < 8) : fz_R 7 mX6_explore 0 [(0, fz_r 33), (1, fz_i fr), (2, fz_i hr), (3, fz_i 1), (4, fz_i su), (5, fz_i rt)] [] h (qX6_explore_1 h fr hr su rt) := by
  refine fz_knowl (fun hk => ?_)
  have hr_fr : -2147483648 ≤ fr ∧ fr < 2147483648 := hk _ (List.Mem.tail _ (List.Mem.head _))
  have hr_hr : -2147483648 ≤ hr ∧ hr < 2147483648 := hk _ (List.Mem.tail _ (List.Mem.tail _ (List.Mem.head _)))
  have hr_su : -2147483648 ≤ su ∧ su < 2147483648 := hk _ (List.Mem.tail _ (List.Mem.tail _ (List.Mem.tail _ (List.Mem.tail _ (List.Mem.head _)))))
  have hr_rt : -2147483648 ≤ rt ∧ rt < 2147483648 := hk _ (List.Mem.tail _ (List.Mem.tail _ (List.Mem.tail _ (List.Mem.tail _ (List.Mem.tail _ (List.Mem.head _))))))
  clear hk
  have hf : fz_fr [(18, 99999), (19, 99999), (29, 99999), (33, 5), (33, 6), (33, 7), (34, 99999)] h h := fz_fr_rf
  have b1 : (-2147483648) ≤ h 33 5 ∧ h 33 5 ≤ 2147483647 := hI.1 33 _
  have b2 : 0 ≤ h 33 6 ∧ h 33 6 ≤ 4 := hI.1 33 _
  have b3 : (-2147483648) ≤ h 33 7 ∧ h 33 7 ≤ 2147483647 := hI.1 33 _
  have k4 : 0 ≤ h 1 8 ∧ h 1 8 ≤ 12 := hI.1 1 _
  refine fz_aload_n kX6_explore rfl rfl ?_
  refine fz_iload_n kX6_explore rfl rfl ?_
  refine fz_iload kX6_explore rfl rfl ?_
  refine fz_iload kX6_explore rfl rfl ?_
  refine fz_callV (d' := 0) (M' := mX6_compare) (As := [fz_i 1, fz_i su, fz_i rt]) (st := []) kX6_explore rfl rfl vX6_compare rfl rfl rfl rfl (Nat.le_of_ble_eq_true rfl) (Nat.le_of_ble_eq_true rfl) (by decide) (sX6_compare h hI 1 su rt (by omega)) (fun H5 r6 q7 o8 => ?_)
  obtain ⟨hI9, hf10, rfl, f11⟩ := q7
  clear o8
  have hf12 := fz_fr_tr hf hf10 (show fz_su [(33, 5), (33, 6), (33, 7)] [(18, 99999), (19, 99999), (29, 99999), (33, 5), (33, 6), (33, 7), (34, 99999)] = true from rfl)
  have hMM13 : fl_MM H5 := fl_MM_eq (funext fun s => hf10 34 s rfl) (hf10 33 3 rfl) (hf10 33 4 rfl) (funext fun s => hf10 28 s rfl) (hf10 27 8 rfl) (funext fun s => hf10 2 s rfl) (funext fun s => hf10 8 s rfl) (funext fun s => hf10 9 s rfl) (funext fun s => hf10 10 s rfl) (funext fun s => hf10 11 s rfl) (funext fun s => hf10 12 s rfl) (funext fun s => hf10 13 s rfl) (funext fun s => hf10 14 s rfl) (funext fun s => hf10 15 s rfl) (funext fun s => hf10 16 s rfl) (funext fun s => hf10 17 s rfl) hMM
  refine fz_iload_n kX6_explore rfl rfl ?_
  refine fz_iconst ⟨by decide, by decide⟩ kX6_explore rfl ?_
  refine fz_icmp_lt (tgt := 15) kX6_explore rfl (by decide) (fun c14 => ?_) (fun c14 => ?_)
  · refine fz_iconst ⟨by decide, by decide⟩ kX6_explore rfl ?_
    refine fz_istore (ls' := [(6, fz_i 0), (0, fz_r 33), (1, fz_i fr), (2, fz_i hr), (3, fz_i 1), (4, fz_i su), (5, fz_i rt)]) kX6_explore rfl (by decide) rfl ?_
    have lp21 : ∀ (n20 : Nat) (x15 : Int) (H17 : fz_H), fz_Iv H17 → fz_fr [(18, 99999), (19, 99999), (29, 99999), (33, 5), (33, 6), (33, 7), (34, 99999)] h H17 → fl_MM H17 → (0 ≤ x15 ∧ x15 ≤ 2147483647) → (x15 ≤ h 1 8) → ((H17 33 5, H17 33 6, H17 33 7) = fl_fo (fl_gxC h 2 fr hr 1 su rt) (x15).toNat (fl_cmr 1 su rt (h 33 5, h 33 6, h 33 7))) → ((h 1 8) - x15).toNat < n20 → fz_R 7 mX6_explore 18 [(6, fz_i x15), (0, fz_r 33), (1, fz_i fr), (2, fz_i hr), (3, fz_i 1), (4, fz_i su), (5, fz_i rt)] [] H17 (qX6_explore_1 h fr hr su rt) := by
      intro n20
      induction n20 with
      | zero => intro x15 H17 hI18 hf19 hMM16 hv24 hv25 hv26 hm23; exact absurd hm23 (by omega)
      | succ n20 ih22 =>
        intro x15 H17 hI18 hf19 hMM16 hv24 hv25 hv26 hm23
        refine fz_iload kX6_explore rfl rfl ?_
        refine fz_aload_n kX6_explore rfl rfl ?_
        refine fz_getR (t := 1) kX6_explore rfl rfl ?_
        refine fz_getV (v := h 1 8) kX6_explore rfl rfl (hf19 1 8 rfl) ?_
        have b27 : 0 ≤ h 1 8 ∧ h 1 8 ≤ 12 := hI.1 1 _
        refine fz_icmp_ge (tgt := 206) kX6_explore rfl (by decide) (fun c28 => ?_) (fun c28 => ?_)
        · exact fz_vret kX6_explore rfl rfl ⟨hI18, hf19, hMM16, rfl, (by exact fl_rgC_e hv26 (by omega))⟩
        · refine fz_aload_n kX6_explore rfl rfl ?_
          refine fz_getR (t := 1) kX6_explore rfl rfl ?_
          refine fz_iload kX6_explore rfl rfl ?_
          refine fz_iload_n kX6_explore rfl rfl ?_
          refine fz_callV (d' := 0) (M' := mX2_acrossFrom) (As := [fz_i x15, fz_i fr]) (st := []) kX6_explore rfl rfl vX2_acrossFrom rfl rfl rfl rfl (Nat.le_of_ble_eq_true rfl) (Nat.le_of_ble_eq_true rfl) (by decide) (sX2_acrossFrom H17 hI18 x15 fr (by omega)) (fun H30 r31 q32 o33 => ?_)
          obtain ⟨e34, y38, rfl, f35, f36, f37⟩ := q32
          subst H30
          clear o33
          have k39 : y38 = fz_ac (h 5 (x15).toNat) (h 6 (x15).toNat) fr := by have z := f37; rw [hf19 5 _ rfl, hf19 6 _ rfl] at z; exact z
          refine fz_istore (ls' := [(7, fz_i y38), (6, fz_i x15), (0, fz_r 33), (1, fz_i fr), (2, fz_i hr), (3, fz_i 1), (4, fz_i su), (5, fz_i rt)]) kX6_explore rfl (by decide) rfl ?_
          refine fz_iload_n kX6_explore rfl rfl ?_
          refine fz_aload_n kX6_explore rfl rfl ?_
          refine fz_getR (t := 1) kX6_explore rfl rfl ?_
          refine fz_getR (t := 3) kX6_explore rfl rfl ?_
          refine fz_iload kX6_explore rfl rfl ?_
          refine fz_ialdV (n := 12) (v := h 3 (x15.toNat)) kX6_explore rfl rfl (by omega) (by omega) (hf19 3 _ rfl) ?_
          have b41 : 0 ≤ h 3 (x15.toNat) ∧ h 3 (x15.toNat) ≤ 24 := hI.1 3 _
          refine fz_iaddN kX6_explore rfl (by omega) ?_
          refine fz_istore (ls' := [(8, fz_i (hr + (h 3 (x15.toNat)))), (7, fz_i y38), (6, fz_i x15), (0, fz_r 33), (1, fz_i fr), (2, fz_i hr), (3, fz_i 1), (4, fz_i su), (5, fz_i rt)]) kX6_explore rfl (by decide) rfl ?_
          refine fz_iload kX6_explore rfl rfl ?_
          refine fz_if_lt (tgt := 200) kX6_explore rfl (by decide) (fun c42 => ?_) (fun c42 => ?_)
          · refine fz_iincN (ls' := [(6, fz_i (x15 + 1)), (8, fz_i (hr + (h 3 (x15.toNat)))), (7, fz_i y38), (0, fz_r 33), (1, fz_i fr), (2, fz_i hr), (3, fz_i 1), (4, fz_i su), (5, fz_i rt)]) kX6_explore rfl (by decide) rfl (by omega) rfl ?_
            refine fz_goto (tgt := 18) kX6_explore rfl (by decide) ?_
            refine fz_sub (fz_pk_sub (ls' := [(6, fz_i (x15 + 1)), (0, fz_r 33), (1, fz_i fr), (2, fz_i hr), (3, fz_i 1), (4, fz_i su), (5, fz_i rt)]) [0, 3, 4, 5, 6, 7, 8] rfl) ?_
            exact ih22 (x15 + 1) H17 hI18 hf19 hMM16 (by omega) (by omega) (by first | exact fl_rgC_n hv26 (by omega) k39 rfl (Or.inl (by omega)) | exact fl_rgC_n hv26 (by omega) k39 rfl (Or.inr (by omega)) | exact fl_rgC_a lost (by omega) k39 rfl lost (fun z => (hI.1 2 z).1) (fun z => (hI.1 14 z).2) (fun z => hI.1 28 z) (by omega) | exact fl_rgC_y lost (by omega) k39 rfl (by omega) (by omega) lost (by omega) (fl_exC_hh (h := h) lost rfl (lost 33 3 rfl) (lost 33 4 rfl) lost) | (exfalso; omega)) (by omega)
          · refine fz_iload kX6_explore rfl rfl ?_
            refine fz_bipush ⟨by decide, by decide⟩ kX6_explore rfl ?_
            refine fz_icmp_ge (tgt := 200) kX6_explore rfl (by decide) (fun c44 => ?_) (fun c44 => ?_)
            · exfalso; omega
            · refine fz_aload_n kX6_explore rfl rfl ?_
              refine fz_getV (v := h 33 4) kX6_explore rfl rfl (hf19 33 4 rfl) ?_
              have b45 : 0 ≤ h 33 4 ∧ h 33 4 ≤ 999 := hI.1 33 _
              refine fz_iload kX6_explore rfl rfl ?_
              refine fz_iaddN kX6_explore rfl (by omega) ?_
              refine fz_sipush ⟨by decide, by decide⟩ kX6_explore rfl ?_
              refine fz_icmp_le (tgt := 84) kX6_explore rfl (by decide) (fun c46 => ?_) (fun c46 => ?_)
              · refine fz_iload kX6_explore rfl rfl ?_
                refine fz_bipush ⟨by decide, by decide⟩ kX6_explore rfl ?_
                refine fz_imulN kX6_explore rfl (by omega) ?_
                refine fz_iload kX6_explore rfl rfl ?_
                refine fz_iaddN kX6_explore rfl (by omega) ?_
                refine fz_istore (ls' := [(9, fz_i ((y38 * 97) + (hr + (h 3 (x15.toNat))))), (8, fz_i (hr + (h 3 (x15.toNat)))), (7, fz_i y38), (6, fz_i x15), (0, fz_r 33), (1, fz_i fr), (2, fz_i hr), (3, fz_i 1), (4, fz_i su), (5, fz_i rt)]) kX6_explore rfl (by decide) rfl ?_
                refine fz_aload_n kX6_explore rfl rfl ?_
                refine fz_getR (t := 34) kX6_explore rfl rfl ?_
                refine fz_iload kX6_explore rfl rfl ?_
                obtain ⟨v47, e48⟩ : ∃ z, H17 34 (((y38 * 97) + (hr + (h 3 (x15.toNat)))).toNat) = z := ⟨_, rfl⟩
                refine fz_ialdV (n := 776) (v := v47) kX6_explore rfl rfl (by omega) (by omega) e48 ?_
                have b49 : (-2147483648) ≤ v47 ∧ v47 ≤ 2147483647 := by rw [← e48]; exact hI18.1 34 _
                refine fz_ldc (x := (-2000000000)) kX6_explore rfl rfl rfl ?_
                refine fz_icmp_ne (tgt := 159) kX6_explore rfl (by decide) (fun c50 => ?_) (fun c50 => ?_)
                · have k51 : True := trivial
                  refine fz_aload_n kX6_explore rfl rfl ?_
                  refine fz_getR (t := 34) kX6_explore rfl rfl ?_
                  refine fz_iload kX6_explore rfl rfl ?_
                  obtain ⟨v52, e53⟩ : ∃ z, H17 34 (((y38 * 97) + (hr + (h 3 (x15.toNat)))).toNat) = z := ⟨_, rfl⟩
                  refine fz_ialdV (n := 776) (v := v52) kX6_explore rfl rfl (by omega) (by omega) e53 ?_
                  have b54 : (-2147483648) ≤ v52 ∧ v52 ≤ 2147483647 := by rw [← e53]; exact hI18.1 34 _
                  have k55 : v52 = fl_mv h y38 (hr + (h 3 (x15.toNat))) := fl_mv_at hMM16 e53 rfl ⟨by omega, by omega⟩ ⟨by omega, by omega⟩ (by first | omega | (have q : H17 34 (((y38 * 97) + (hr + (h 3 (x15.toNat))))).toNat = lost := (by rw [lost, lost]; exact fz_up_e); omega)) (fl_mv_fr hf19 rfl (hf19 33 3 rfl) (hf19 33 4 rfl))
                  have k57 : (H17 33 5, H17 33 6, H17 33 7) = fl_fo (fl_gxC h 2 fr hr 1 su rt) (x15).toNat (fl_cmr 1 su rt (h 33 5, h 33 6, h 33 7)) := by first | exact hv26 | (rw [show H17 33 5 = lost 33 5 by omega, show H17 33 6 = lost 33 6 by omega, show H17 33 7 = lost 33 7 by omega]; exact hv26)
                  refine fz_ldc (x := (-1999999999)) kX6_explore rfl rfl rfl ?_
                  refine fz_icmp_eq (tgt := 200) kX6_explore rfl (by decide) (fun c59 => ?_) (fun c59 => ?_)
                  · refine fz_iincN (ls' := [(6, fz_i (x15 + 1)), (9, fz_i ((y38 * 97) + (hr + (h 3 (x15.toNat))))), (8, fz_i (hr + (h 3 (x15.toNat)))), (7, fz_i y38), (0, fz_r 33), (1, fz_i fr), (2, fz_i hr), (3, fz_i 1), (4, fz_i su), (5, fz_i rt)]) kX6_explore rfl (by decide) rfl (by omega) rfl ?_
                    refine fz_goto (tgt := 18) kX6_explore rfl (by decide) ?_
                    refine fz_sub (fz_pk_sub (ls' := [(6, fz_i (x15 + 1)), (0, fz_r 33), (1, fz_i fr), (2, fz_i hr), (3, fz_i 1), (4, fz_i su), (5, fz_i rt)]) [0, 4, 5, 6, 7, 8, 9] rfl) ?_
                    exact ih22 (x15 + 1) H17 hI18 hf19 hMM16 (by omega) (by omega) (by first | exact fl_rgC_n hv26 (by omega) k39 rfl (Or.inl (by omega)) | exact fl_rgC_n hv26 (by omega) k39 rfl (Or.inr (by omega)) | exact fl_rgC_a k57 (by omega) k39 rfl k55 (fun z => (hI.1 2 z).1) (fun z => (hI.1 14 z).2) (fun z => hI.1 28 z) (by omega) | exact fl_rgC_y k57 (by omega) k39 rfl (by omega) (by omega) lost (by omega) (fl_exC_hh (h := h) lost rfl (lost 33 3 rfl) (lost 33 4 rfl) lost) | (exfalso; omega)) (by omega)
                  · refine fz_aload_n kX6_explore rfl rfl ?_
                    refine fz_iload kX6_explore rfl rfl ?_
                    refine fz_iload kX6_explore rfl rfl ?_
                    refine fz_iload_n kX6_explore rfl rfl ?_
                    refine fz_iconst ⟨by decide, by decide⟩ kX6_explore rfl ?_
                    refine fz_iaddN kX6_explore rfl ⟨by decide, by decide⟩ ?_
                    refine fz_eqi (y := 2) rfl ?_
                    refine fz_iload kX6_explore rfl rfl ?_
                    refine fz_aload_n kX6_explore rfl rfl ?_
                    refine fz_getR (t := 34) kX6_explore rfl rfl ?_
                    refine fz_iload kX6_explore rfl rfl ?_
                    obtain ⟨v61, e62⟩ : ∃ z, H17 34 (((y38 * 97) + (hr + (h 3 (x15.toNat)))).toNat) = z := ⟨_, rfl⟩
                    refine fz_ialdV (n := 776) (v := v61) kX6_explore rfl rfl (by omega) (by omega) e62 ?_
                    have b63 : (-2147483648) ≤ v61 ∧ v61 ≤ 2147483647 := by rw [← e62]; exact hI18.1 34 _
                    have k64 : v61 = fl_mv h y38 (hr + (h 3 (x15.toNat))) := e62.symm.trans (e53.trans k55)
                    refine fz_iadd kX6_explore rfl ?_
                    have b66 := fz_w_b (su + v61)
                    refine fz_iload kX6_explore rfl rfl ?_
                    refine fz_bipush ⟨by decide, by decide⟩ kX6_explore rfl ?_
                    refine fz_imulN kX6_explore rfl (by omega) ?_
                    refine fz_iload kX6_explore rfl rfl ?_
                    refine fz_iaddN kX6_explore rfl (by omega) ?_
                    have b67 : (-2147483648) ≤ H17 33 5 ∧ H17 33 5 ≤ 2147483647 := hI18.1 33 _
                    have b68 : 0 ≤ H17 33 6 ∧ H17 33 6 ≤ 4 := hI18.1 33 _
                    have b69 : (-2147483648) ≤ H17 33 7 ∧ H17 33 7 ≤ 2147483647 := hI18.1 33 _
                    refine fz_callV (d' := 6) (M' := mX6_explore) (As := [fz_i y38, fz_i (hr + (h 3 (x15.toNat))), fz_i 2, fz_i (fz_w (su + v61)), fz_i ((rt * 8) + y38)]) (st := []) kX6_explore rfl rfl vX6_explore rfl rfl rfl rfl (Nat.le_of_ble_eq_true rfl) (Nat.le_of_ble_eq_true rfl) (by decide) (sX6_explore_2 H17 hI18 y38 (hr + (h 3 (x15.toNat))) (fz_w (su + v61)) ((rt * 8) + y38) hMM16 (by omega) (by omega) (by omega) (by omega)) (fun H70 r71 q72 o73 => ?_)
                    obtain ⟨hI74, hf75, hMM76, rfl, f77⟩ := q72
                    clear o73
                    have hf78 := fz_fr_tr hf19 hf75 (show fz_su [(18, 99999), (19, 99999), (29, 99999), (33, 5), (33, 6), (33, 7), (34, 99999)] [(18, 99999), (19, 99999), (29, 99999), (33, 5), (33, 6), (33, 7), (34, 99999)] = true from rfl)
                    refine fz_iincN (ls' := [(6, fz_i (x15 + 1)), (9, fz_i ((y38 * 97) + (hr + (h 3 (x15.toNat))))), (8, fz_i (hr + (h 3 (x15.toNat)))), (7, fz_i y38), (0, fz_r 33), (1, fz_i fr), (2, fz_i hr), (3, fz_i 1), (4, fz_i su), (5, fz_i rt)]) kX6_explore rfl (by decide) rfl (by omega) rfl ?_
                    refine fz_goto (tgt := 18) kX6_explore rfl (by decide) ?_
                    refine fz_sub (fz_pk_sub (ls' := [(6, fz_i (x15 + 1)), (0, fz_r 33), (1, fz_i fr), (2, fz_i hr), (3, fz_i 1), (4, fz_i su), (5, fz_i rt)]) [0, 4, 5, 6, 7, 8, 9] rfl) ?_
                    exact ih22 (x15 + 1) H70 hI74 hf78 hMM76 (by omega) (by omega) (by first | exact fl_rgC_n hv26 (by omega) k39 rfl (Or.inl (by omega)) | exact fl_rgC_n hv26 (by omega) k39 rfl (Or.inr (by omega)) | exact fl_rgC_a k57 (by omega) k39 rfl k55 (fun z => (hI.1 2 z).1) (fun z => (hI.1 14 z).2) (fun z => hI.1 28 z) (by omega) | exact fl_rgC_y k57 (by omega) k39 rfl (by omega) (by omega) k64 (by omega) (fl_exC_hh (h := h) hf19 rfl (hf19 33 3 rfl) (hf19 33 4 rfl) f77) | (exfalso; omega)) (by omega)
                · refine fz_aload_n kX6_explore rfl rfl ?_
                  refine fz_getR (t := 27) kX6_explore rfl rfl ?_
                  refine fz_aload_n kX6_explore rfl rfl ?_
                  refine fz_getV (v := h 33 3) kX6_explore rfl rfl (hf19 33 3 rfl) ?_
                  have b80 : 0 ≤ h 33 3 ∧ h 33 3 ≤ 3 := hI.1 33 _
                  refine fz_aload_n kX6_explore rfl rfl ?_
                  refine fz_getV (v := h 33 3) kX6_explore rfl rfl (hf19 33 3 rfl) ?_
                  refine fz_iload kX6_explore rfl rfl ?_
                  refine fz_aload_n kX6_explore rfl rfl ?_
                  refine fz_getV (v := h 33 4) kX6_explore rfl rfl (hf19 33 4 rfl) ?_
                  refine fz_iload kX6_explore rfl rfl ?_
                  refine fz_iaddN kX6_explore rfl (by omega) ?_
                  refine fz_callV (d' := 4) (M' := mX8_listen) (As := [fz_i (h 33 3), fz_i (h 33 3), fz_i y38, fz_i ((h 33 4) + (hr + (h 3 (x15.toNat))))]) (st := []) kX6_explore rfl rfl vX8_listen rfl rfl rfl rfl (Nat.le_of_ble_eq_true rfl) (Nat.le_of_ble_eq_true rfl) (by decide) (sX8_listen H17 hI18 (h 33 3) (h 33 3) y38 ((h 33 4) + (hr + (h 3 (x15.toNat)))) (by omega)) (fun H81 r82 q83 o84 => ?_)
                  obtain ⟨hI85, hf86, rfl, f87⟩ := q83
                  clear o84
                  have hf88 := fz_fr_tr hf19 hf86 (show fz_su [(18, 99999), (19, 99999), (29, 99999)] [(18, 99999), (19, 99999), (29, 99999), (33, 5), (33, 6), (33, 7), (34, 99999)] = true from rfl)
                  have hMM89 : fl_MM H81 := fl_MM_eq (funext fun s => hf86 34 s rfl) (hf86 33 3 rfl) (hf86 33 4 rfl) (funext fun s => hf86 28 s rfl) (hf86 27 8 rfl) (funext fun s => hf86 2 s rfl) (funext fun s => hf86 8 s rfl) (funext fun s => hf86 9 s rfl) (funext fun s => hf86 10 s rfl) (funext fun s => hf86 11 s rfl) (funext fun s => hf86 12 s rfl) (funext fun s => hf86 13 s rfl) (funext fun s => hf86 14 s rfl) (funext fun s => hf86 15 s rfl) (funext fun s => hf86 16 s rfl) (funext fun s => hf86 17 s rfl) hMM16
                  have t90 : H81 33 5 = H17 33 5 := hf86 33 5 rfl
                  have t91 : H81 33 6 = H17 33 6 := hf86 33 6 rfl
                  have t92 : H81 33 7 = H17 33 7 := hf86 33 7 rfl
                  refine fz_aload_n kX6_explore rfl rfl ?_
                  refine fz_getR (t := 34) kX6_explore rfl rfl ?_
                  refine fz_iload kX6_explore rfl rfl ?_
                  refine fz_aload_n kX6_explore rfl rfl ?_
                  refine fz_getR (t := 27) kX6_explore rfl rfl ?_
                  have b93 : (-2147483648) ≤ H81 29 1 ∧ H81 29 1 ≤ 2147483647 := hI85.1 29 _
                  have b94 : 0 ≤ h 27 8 ∧ h 27 8 ≤ 99 := hI.1 27 _
                  have e95 : H81 27 8 = h 27 8 := hf88 27 8 rfl
                  refine fz_callV (d' := 1) (M' := mX8_isArrested) (As := []) (st := [fz_i ((y38 * 97) + (hr + (h 3 (x15.toNat)))), fz_r 34]) kX6_explore rfl rfl vX8_isArrested rfl rfl rfl rfl (Nat.le_of_ble_eq_true rfl) (Nat.le_of_ble_eq_true rfl) (by decide) (sX8_isArrested H81 hI85  ) (fun H96 r97 q98 o99 => ?_)
                  obtain ⟨e100, y102, rfl, p103, f101⟩ := q98
                  subst H96
                  clear o99
                  refine fz_if_eq (tgt := 151) kX6_explore rfl (by decide) (fun c104 => ?_) (fun c104 => ?_)
                  · refine fz_aload_n kX6_explore rfl rfl ?_
                    refine fz_getR (t := 27) kX6_explore rfl rfl ?_
                    refine fz_callV (d' := 0) (M' := mX8_reception) (As := []) (st := [fz_i ((y38 * 97) + (hr + (h 3 (x15.toNat)))), fz_r 34]) kX6_explore rfl rfl vX8_reception rfl rfl rfl rfl (Nat.le_of_ble_eq_true rfl) (Nat.le_of_ble_eq_true rfl) (by decide) (sX8_reception H81 hI85  ) (fun H105 r106 q107 o108 => ?_)
                    obtain ⟨e109, y112, rfl, f110, f111⟩ := q107
                    subst H105
                    clear o108
                    obtain ⟨k113, k114⟩ : ∃ z, z = y112 := ⟨_, rfl⟩
                    have k116 : -1999999999 ≤ y112 ∧ y112 ≤ 4455 := by first | omega | (have q := fl_rp_vb f87 (fun z => (hI18.1 2 z).1) (fun z => (hI18.1 14 z).2) (fun z => hI85.1 28 z) f111; omega)
                    refine fz_iast (n := 776) kX6_explore rfl rfl (by omega) (by omega) ?_
                    refine fz_nmu (S := [(18, 99999), (19, 99999), (29, 99999), (33, 5), (33, 6), (33, 7), (34, 99999)]) (h0 := h) (fz_Iv_up hI85 (by decide) (show ((-2147483648) : Int) ≤ y112 by omega) (show (y112 : Int) ≤ 2147483647 by omega)) (fz_fr_up hf88 rfl) (fun H117 hI118 hf119 e120 => ?_)
                    have t121 : H117 33 5 = H81 33 5 := by rw [e120]; exact fz_up_o (by decide)
                    have t122 : H117 33 6 = H81 33 6 := by rw [e120]; exact fz_up_o (by decide)
                    have t123 : H117 33 7 = H81 33 7 := by rw [e120]; exact fz_up_o (by decide)
                    have hMM124 : fl_MM H117 := by first | exact fl_MM_st hMM89 e120 rfl ⟨by omega, by omega⟩ ⟨by omega, by omega⟩ (fl_mv_a f87 (fl_SC_fr hf86 rfl) f101 (hf88 33 3 rfl).symm (by rw [hf88 33 4 rfl]) (by omega)) | exact fl_MM_st hMM89 e120 rfl ⟨by omega, by omega⟩ ⟨by omega, by omega⟩ (fl_mv_r f87 (fl_SC_fr hf86 rfl) f101 (hf88 33 3 rfl).symm (by rw [hf88 33 4 rfl]) (by omega) f111)
                    have k126 : True := trivial
                    refine fz_aload_n kX6_explore rfl rfl ?_
                    refine fz_getR (t := 34) kX6_explore rfl rfl ?_
                    refine fz_iload kX6_explore rfl rfl ?_
                    obtain ⟨v127, e128⟩ : ∃ z, H117 34 (((y38 * 97) + (hr + (h 3 (x15.toNat)))).toNat) = z := ⟨_, rfl⟩
                    refine fz_ialdV (n := 776) (v := v127) kX6_explore rfl rfl (by omega) (by omega) e128 ?_
                    have b129 : (-2147483648) ≤ v127 ∧ v127 ≤ 2147483647 := by rw [← e128]; exact hI118.1 34 _
                    have k130 : v127 = fl_mv h y38 (hr + (h 3 (x15.toNat))) := fl_mv_at hMM124 e128 rfl ⟨by omega, by omega⟩ ⟨by omega, by omega⟩ (by first | omega | (have q : H117 34 (((y38 * 97) + (hr + (h 3 (x15.toNat))))).toNat = k113 := (by rw [k114, e120]; exact fz_up_e); omega)) (fl_mv_fr hf119 rfl (hf119 33 3 rfl) (hf119 33 4 rfl))
                    have k132 : (H117 33 5, H117 33 6, H117 33 7) = fl_fo (fl_gxC h 2 fr hr 1 su rt) (x15).toNat (fl_cmr 1 su rt (h 33 5, h 33 6, h 33 7)) := by first | exact hv26 | (rw [show H117 33 5 = H17 33 5 by omega, show H117 33 6 = H17 33 6 by omega, show H117 33 7 = H17 33 7 by omega]; exact hv26)
                    refine fz_ldc (x := (-1999999999)) kX6_explore rfl rfl rfl ?_
                    refine fz_icmp_eq (tgt := 200) kX6_explore rfl (by decide) (fun c134 => ?_) (fun c134 => ?_)
                    · refine fz_iincN (ls' := [(6, fz_i (x15 + 1)), (9, fz_i ((y38 * 97) + (hr + (h 3 (x15.toNat))))), (8, fz_i (hr + (h 3 (x15.toNat)))), (7, fz_i y38), (0, fz_r 33), (1, fz_i fr), (2, fz_i hr), (3, fz_i 1), (4, fz_i su), (5, fz_i rt)]) kX6_explore rfl (by decide) rfl (by omega) rfl ?_
                      refine fz_goto (tgt := 18) kX6_explore rfl (by decide) ?_
                      refine fz_sub (fz_pk_sub (ls' := [(6, fz_i (x15 + 1)), (0, fz_r 33), (1, fz_i fr), (2, fz_i hr), (3, fz_i 1), (4, fz_i su), (5, fz_i rt)]) [0, 4, 5, 6, 7, 8, 9] rfl) ?_
                      exact ih22 (x15 + 1) H117 hI118 hf119 hMM124 (by omega) (by omega) (by first | exact fl_rgC_n hv26 (by omega) k39 rfl (Or.inl (by omega)) | exact fl_rgC_n hv26 (by omega) k39 rfl (Or.inr (by omega)) | exact fl_rgC_a k132 (by omega) k39 rfl k130 (fun z => (hI.1 2 z).1) (fun z => (hI.1 14 z).2) (fun z => hI.1 28 z) (by omega) | exact fl_rgC_y k132 (by omega) k39 rfl (by omega) (by omega) lost (by omega) (fl_exC_hh (h := h) lost rfl (lost 33 3 rfl) (lost 33 4 rfl) lost) | (exfalso; omega)) (by omega)
                    · refine fz_aload_n kX6_explore rfl rfl ?_
                      refine fz_iload kX6_explore rfl rfl ?_
                      refine fz_iload kX6_explore rfl rfl ?_
                      refine fz_iload_n kX6_explore rfl rfl ?_
                      refine fz_iconst ⟨by decide, by decide⟩ kX6_explore rfl ?_
                      refine fz_iaddN kX6_explore rfl ⟨by decide, by decide⟩ ?_
                      refine fz_eqi (y := 2) rfl ?_
                      refine fz_iload kX6_explore rfl rfl ?_
                      refine fz_aload_n kX6_explore rfl rfl ?_
                      refine fz_getR (t := 34) kX6_explore rfl rfl ?_
                      refine fz_iload kX6_explore rfl rfl ?_
                      obtain ⟨v136, e137⟩ : ∃ z, H117 34 (((y38 * 97) + (hr + (h 3 (x15.toNat)))).toNat) = z := ⟨_, rfl⟩
                      refine fz_ialdV (n := 776) (v := v136) kX6_explore rfl rfl (by omega) (by omega) e137 ?_
                      have b138 : (-2147483648) ≤ v136 ∧ v136 ≤ 2147483647 := by rw [← e137]; exact hI118.1 34 _
                      have k139 : v136 = fl_mv h y38 (hr + (h 3 (x15.toNat))) := e137.symm.trans (e128.trans k130)
                      refine fz_iadd kX6_explore rfl ?_
                      have b141 := fz_w_b (su + v136)
                      refine fz_iload kX6_explore rfl rfl ?_
                      refine fz_bipush ⟨by decide, by decide⟩ kX6_explore rfl ?_
                      refine fz_imulN kX6_explore rfl (by omega) ?_
                      refine fz_iload kX6_explore rfl rfl ?_
                      refine fz_iaddN kX6_explore rfl (by omega) ?_
                      have b142 : (-2147483648) ≤ H117 33 5 ∧ H117 33 5 ≤ 2147483647 := hI118.1 33 _
                      have b143 : 0 ≤ H117 33 6 ∧ H117 33 6 ≤ 4 := hI118.1 33 _
                      have b144 : (-2147483648) ≤ H117 33 7 ∧ H117 33 7 ≤ 2147483647 := hI118.1 33 _
                      refine fz_callV (d' := 6) (M' := mX6_explore) (As := [fz_i y38, fz_i (hr + (h 3 (x15.toNat))), fz_i 2, fz_i (fz_w (su + v136)), fz_i ((rt * 8) + y38)]) (st := []) kX6_explore rfl rfl vX6_explore rfl rfl rfl rfl (Nat.le_of_ble_eq_true rfl) (Nat.le_of_ble_eq_true rfl) (by decide) (sX6_explore_2 H117 hI118 y38 (hr + (h 3 (x15.toNat))) (fz_w (su + v136)) ((rt * 8) + y38) hMM124 (by omega) (by omega) (by omega) (by omega)) (fun H145 r146 q147 o148 => ?_)
                      obtain ⟨hI149, hf150, hMM151, rfl, f152⟩ := q147
                      clear o148
                      have hf153 := fz_fr_tr hf119 hf150 (show fz_su [(18, 99999), (19, 99999), (29, 99999), (33, 5), (33, 6), (33, 7), (34, 99999)] [(18, 99999), (19, 99999), (29, 99999), (33, 5), (33, 6), (33, 7), (34, 99999)] = true from rfl)
                      refine fz_iincN (ls' := [(6, fz_i (x15 + 1)), (9, fz_i ((y38 * 97) + (hr + (h 3 (x15.toNat))))), (8, fz_i (hr + (h 3 (x15.toNat)))), (7, fz_i y38), (0, fz_r 33), (1, fz_i fr), (2, fz_i hr), (3, fz_i 1), (4, fz_i su), (5, fz_i rt)]) kX6_explore rfl (by decide) rfl (by omega) rfl ?_
                      refine fz_goto (tgt := 18) kX6_explore rfl (by decide) ?_
                      refine fz_sub (fz_pk_sub (ls' := [(6, fz_i (x15 + 1)), (0, fz_r 33), (1, fz_i fr), (2, fz_i hr), (3, fz_i 1), (4, fz_i su), (5, fz_i rt)]) [0, 4, 5, 6, 7, 8, 9] rfl) ?_
                      exact ih22 (x15 + 1) H145 hI149 hf153 hMM151 (by omega) (by omega) (by first | exact fl_rgC_n hv26 (by omega) k39 rfl (Or.inl (by omega)) | exact fl_rgC_n hv26 (by omega) k39 rfl (Or.inr (by omega)) | exact fl_rgC_a k132 (by omega) k39 rfl k130 (fun z => (hI.1 2 z).1) (fun z => (hI.1 14 z).2) (fun z => hI.1 28 z) (by omega) | exact fl_rgC_y k132 (by omega) k39 rfl (by omega) (by omega) k139 (by omega) (fl_exC_hh (h := h) hf119 rfl (hf119 33 3 rfl) (hf119 33 4 rfl) f152) | (exfalso; omega)) (by omega)
                  · refine fz_ldc (x := (-1999999999)) kX6_explore rfl rfl rfl ?_
                    refine fz_goto (tgt := 158) kX6_explore rfl (by decide) ?_
                    obtain ⟨k155, k156⟩ : ∃ z, z = (-1999999999) := ⟨_, rfl⟩
                    have k158 : -1999999999 ≤ (-1999999999) ∧ (-1999999999) ≤ 4455 := by first | omega | (have q := fl_rp_vb f87 (fun z => (hI18.1 2 z).1) (fun z => (hI18.1 14 z).2) (fun z => hI85.1 28 z) lost; omega)
                    refine fz_iast (n := 776) kX6_explore rfl rfl (by omega) (by omega) ?_
                    refine fz_nmu (S := [(18, 99999), (19, 99999), (29, 99999), (33, 5), (33, 6), (33, 7), (34, 99999)]) (h0 := h) (fz_Iv_up hI85 (by decide) (show ((-2147483648) : Int) ≤ (-1999999999) by decide) (show ((-1999999999) : Int) ≤ 2147483647 by decide)) (fz_fr_up hf88 rfl) (fun H159 hI160 hf161 e162 => ?_)
                    have t163 : H159 33 5 = H81 33 5 := by rw [e162]; exact fz_up_o (by decide)
                    have t164 : H159 33 6 = H81 33 6 := by rw [e162]; exact fz_up_o (by decide)
                    have t165 : H159 33 7 = H81 33 7 := by rw [e162]; exact fz_up_o (by decide)
                    have hMM166 : fl_MM H159 := by first | exact fl_MM_st hMM89 e162 rfl ⟨by omega, by omega⟩ ⟨by omega, by omega⟩ (fl_mv_a f87 (fl_SC_fr hf86 rfl) f101 (hf88 33 3 rfl).symm (by rw [hf88 33 4 rfl]) (by omega)) | exact fl_MM_st hMM89 e162 rfl ⟨by omega, by omega⟩ ⟨by omega, by omega⟩ (fl_mv_r f87 (fl_SC_fr hf86 rfl) f101 (hf88 33 3 rfl).symm (by rw [hf88 33 4 rfl]) (by omega) lost)
                    have k168 : True := trivial
                    refine fz_aload_n kX6_explore rfl rfl ?_
                    refine fz_getR (t := 34) kX6_explore rfl rfl ?_
                    refine fz_iload kX6_explore rfl rfl ?_
                    obtain ⟨v169, e170⟩ : ∃ z, H159 34 (((y38 * 97) + (hr + (h 3 (x15.toNat)))).toNat) = z := ⟨_, rfl⟩
                    refine fz_ialdV (n := 776) (v := v169) kX6_explore rfl rfl (by omega) (by omega) e170 ?_
                    have b171 : (-2147483648) ≤ v169 ∧ v169 ≤ 2147483647 := by rw [← e170]; exact hI160.1 34 _
                    have k172 : v169 = fl_mv h y38 (hr + (h 3 (x15.toNat))) := fl_mv_at hMM166 e170 rfl ⟨by omega, by omega⟩ ⟨by omega, by omega⟩ (by first | omega | (have q : H159 34 (((y38 * 97) + (hr + (h 3 (x15.toNat))))).toNat = k155 := (by rw [k156, e162]; exact fz_up_e); omega)) (fl_mv_fr hf161 rfl (hf161 33 3 rfl) (hf161 33 4 rfl))
                    have k174 : (H159 33 5, H159 33 6, H159 33 7) = fl_fo (fl_gxC h 2 fr hr 1 su rt) (x15).toNat (fl_cmr 1 su rt (h 33 5, h 33 6, h 33 7)) := by first | exact hv26 | (rw [show H159 33 5 = H17 33 5 by omega, show H159 33 6 = H17 33 6 by omega, show H159 33 7 = H17 33 7 by omega]; exact hv26)
                    refine fz_ldc (x := (-1999999999)) kX6_explore rfl rfl rfl ?_
                    refine fz_icmp_eq (tgt := 200) kX6_explore rfl (by decide) (fun c176 => ?_) (fun c176 => ?_)
                    · refine fz_iincN (ls' := [(6, fz_i (x15 + 1)), (9, fz_i ((y38 * 97) + (hr + (h 3 (x15.toNat))))), (8, fz_i (hr + (h 3 (x15.toNat)))), (7, fz_i y38), (0, fz_r 33), (1, fz_i fr), (2, fz_i hr), (3, fz_i 1), (4, fz_i su), (5, fz_i rt)]) kX6_explore rfl (by decide) rfl (by omega) rfl ?_
                      refine fz_goto (tgt := 18) kX6_explore rfl (by decide) ?_
                      refine fz_sub (fz_pk_sub (ls' := [(6, fz_i (x15 + 1)), (0, fz_r 33), (1, fz_i fr), (2, fz_i hr), (3, fz_i 1), (4, fz_i su), (5, fz_i rt)]) [0, 4, 5, 6, 7, 8, 9] rfl) ?_
                      exact ih22 (x15 + 1) H159 hI160 hf161 hMM166 (by omega) (by omega) (by first | exact fl_rgC_n hv26 (by omega) k39 rfl (Or.inl (by omega)) | exact fl_rgC_n hv26 (by omega) k39 rfl (Or.inr (by omega)) | exact fl_rgC_a k174 (by omega) k39 rfl k172 (fun z => (hI.1 2 z).1) (fun z => (hI.1 14 z).2) (fun z => hI.1 28 z) (by omega) | exact fl_rgC_y k174 (by omega) k39 rfl (by omega) (by omega) lost (by omega) (fl_exC_hh (h := h) lost rfl (lost 33 3 rfl) (lost 33 4 rfl) lost) | (exfalso; omega)) (by omega)
                    · refine fz_aload_n kX6_explore rfl rfl ?_
                      refine fz_iload kX6_explore rfl rfl ?_
                      refine fz_iload kX6_explore rfl rfl ?_
                      refine fz_iload_n kX6_explore rfl rfl ?_
                      refine fz_iconst ⟨by decide, by decide⟩ kX6_explore rfl ?_
                      refine fz_iaddN kX6_explore rfl ⟨by decide, by decide⟩ ?_
                      refine fz_eqi (y := 2) rfl ?_
                      refine fz_iload kX6_explore rfl rfl ?_
                      refine fz_aload_n kX6_explore rfl rfl ?_
                      refine fz_getR (t := 34) kX6_explore rfl rfl ?_
                      refine fz_iload kX6_explore rfl rfl ?_
                      obtain ⟨v178, e179⟩ : ∃ z, H159 34 (((y38 * 97) + (hr + (h 3 (x15.toNat)))).toNat) = z := ⟨_, rfl⟩
                      refine fz_ialdV (n := 776) (v := v178) kX6_explore rfl rfl (by omega) (by omega) e179 ?_
                      have b180 : (-2147483648) ≤ v178 ∧ v178 ≤ 2147483647 := by rw [← e179]; exact hI160.1 34 _
                      have k181 : v178 = fl_mv h y38 (hr + (h 3 (x15.toNat))) := e179.symm.trans (e170.trans k172)
                      refine fz_iadd kX6_explore rfl ?_
                      have b183 := fz_w_b (su + v178)
                      refine fz_iload kX6_explore rfl rfl ?_
                      refine fz_bipush ⟨by decide, by decide⟩ kX6_explore rfl ?_
                      refine fz_imulN kX6_explore rfl (by omega) ?_
                      refine fz_iload kX6_explore rfl rfl ?_
                      refine fz_iaddN kX6_explore rfl (by omega) ?_
                      have b184 : (-2147483648) ≤ H159 33 5 ∧ H159 33 5 ≤ 2147483647 := hI160.1 33 _
                      have b185 : 0 ≤ H159 33 6 ∧ H159 33 6 ≤ 4 := hI160.1 33 _
                      have b186 : (-2147483648) ≤ H159 33 7 ∧ H159 33 7 ≤ 2147483647 := hI160.1 33 _
                      refine fz_callV (d' := 6) (M' := mX6_explore) (As := [fz_i y38, fz_i (hr + (h 3 (x15.toNat))), fz_i 2, fz_i (fz_w (su + v178)), fz_i ((rt * 8) + y38)]) (st := []) kX6_explore rfl rfl vX6_explore rfl rfl rfl rfl (Nat.le_of_ble_eq_true rfl) (Nat.le_of_ble_eq_true rfl) (by decide) (sX6_explore_2 H159 hI160 y38 (hr + (h 3 (x15.toNat))) (fz_w (su + v178)) ((rt * 8) + y38) hMM166 (by omega) (by omega) (by omega) (by omega)) (fun H187 r188 q189 o190 => ?_)
                      obtain ⟨hI191, hf192, hMM193, rfl, f194⟩ := q189
                      clear o190
                      have hf195 := fz_fr_tr hf161 hf192 (show fz_su [(18, 99999), (19, 99999), (29, 99999), (33, 5), (33, 6), (33, 7), (34, 99999)] [(18, 99999), (19, 99999), (29, 99999), (33, 5), (33, 6), (33, 7), (34, 99999)] = true from rfl)
                      refine fz_iincN (ls' := [(6, fz_i (x15 + 1)), (9, fz_i ((y38 * 97) + (hr + (h 3 (x15.toNat))))), (8, fz_i (hr + (h 3 (x15.toNat)))), (7, fz_i y38), (0, fz_r 33), (1, fz_i fr), (2, fz_i hr), (3, fz_i 1), (4, fz_i su), (5, fz_i rt)]) kX6_explore rfl (by decide) rfl (by omega) rfl ?_
                      refine fz_goto (tgt := 18) kX6_explore rfl (by decide) ?_
                      refine fz_sub (fz_pk_sub (ls' := [(6, fz_i (x15 + 1)), (0, fz_r 33), (1, fz_i fr), (2, fz_i hr), (3, fz_i 1), (4, fz_i su), (5, fz_i rt)]) [0, 4, 5, 6, 7, 8, 9] rfl) ?_
                      exact ih22 (x15 + 1) H187 hI191 hf195 hMM193 (by omega) (by omega) (by first | exact fl_rgC_n hv26 (by omega) k39 rfl (Or.inl (by omega)) | exact fl_rgC_n hv26 (by omega) k39 rfl (Or.inr (by omega)) | exact fl_rgC_a k174 (by omega) k39 rfl k172 (fun z => (hI.1 2 z).1) (fun z => (hI.1 14 z).2) (fun z => hI.1 28 z) (by omega) | exact fl_rgC_y k174 (by omega) k39 rfl (by omega) (by omega) k181 (by omega) (fl_exC_hh (h := h) hf161 rfl (hf161 33 3 rfl) (hf161 33 4 rfl) f194) | (exfalso; omega)) (by omega)
              · refine fz_goto (tgt := 200) kX6_explore rfl (by decide) ?_
                refine fz_iincN (ls' := [(6, fz_i (x15 + 1)), (8, fz_i (hr + (h 3 (x15.toNat)))), (7, fz_i y38), (0, fz_r 33), (1, fz_i fr), (2, fz_i hr), (3, fz_i 1), (4, fz_i su), (5, fz_i rt)]) kX6_explore rfl (by decide) rfl (by omega) rfl ?_
                refine fz_goto (tgt := 18) kX6_explore rfl (by decide) ?_
                refine fz_sub (fz_pk_sub (ls' := [(6, fz_i (x15 + 1)), (0, fz_r 33), (1, fz_i fr), (2, fz_i hr), (3, fz_i 1), (4, fz_i su), (5, fz_i rt)]) [0, 3, 4, 5, 6, 7, 8] rfl) ?_
                exact ih22 (x15 + 1) H17 hI18 hf19 hMM16 (by omega) (by omega) (by first | exact fl_rgC_n hv26 (by omega) k39 rfl (Or.inl (by omega)) | exact fl_rgC_n hv26 (by omega) k39 rfl (Or.inr (by omega)) | exact fl_rgC_a lost (by omega) k39 rfl lost (fun z => (hI.1 2 z).1) (fun z => (hI.1 14 z).2) (fun z => hI.1 28 z) (by omega) | exact fl_rgC_y lost (by omega) k39 rfl (by omega) (by omega) lost (by omega) (fl_exC_hh (h := h) lost rfl (lost 33 3 rfl) (lost 33 4 rfl) lost) | (exfalso; omega)) (by omega)
    exact lp21 _ 0 H5 hI9 hf12 hMM13 (by omega) (by omega) (f11) (Nat.lt_succ_self _)
  · exfalso; omega

abbrev qX6_explore_0 (h : fz_H) (fr hr su rt : Int) : fz_H → Option fz_V → Prop := fun h' r0 => fz_Iv h' ∧ fz_fr [(18, 99999), (19, 99999), (29, 99999), (33, 5), (33, 6), (33, 7), (34, 99999)] h h' ∧ fl_MM h' ∧ r0 = none ∧ (h' 33 5, h' 33 6, h' 33 7) = fl_exC h 4 fr hr 0 su rt (h 33 5, h 33 6, h 33 7)
set_option maxHeartbeats 1000000 in
set_option maxRecDepth 100000 in
theorem sX6_explore_0 (h : fz_H) (hI : fz_Iv h) (fr hr su rt : Int) (hMM : fl_MM h) (hp0 : 0 ≤ fr ∧ fr < 8) (hp1 : 0 ≤ hr ∧ hr ≤ 96) (hp2 : hr ≤ 0) (hp3 : 0 ≤ rt ∧ rt < 1) : fz_R 8 mX6_explore 0 [(0, fz_r 33), (1, fz_i fr), (2, fz_i hr), (3, fz_i 0), (4, fz_i su), (5, fz_i rt)] [] h (qX6_explore_0 h fr hr su rt) := by
  refine fz_knowl (fun hk => ?_)
  have hr_fr : -2147483648 ≤ fr ∧ fr < 2147483648 := hk _ (List.Mem.tail _ (List.Mem.head _))
  have hr_hr : -2147483648 ≤ hr ∧ hr < 2147483648 := hk _ (List.Mem.tail _ (List.Mem.tail _ (List.Mem.head _)))
  have hr_su : -2147483648 ≤ su ∧ su < 2147483648 := hk _ (List.Mem.tail _ (List.Mem.tail _ (List.Mem.tail _ (List.Mem.tail _ (List.Mem.head _)))))
  have hr_rt : -2147483648 ≤ rt ∧ rt < 2147483648 := hk _ (List.Mem.tail _ (List.Mem.tail _ (List.Mem.tail _ (List.Mem.tail _ (List.Mem.tail _ (List.Mem.head _))))))
  clear hk
  have hf : fz_fr [(18, 99999), (19, 99999), (29, 99999), (33, 5), (33, 6), (33, 7), (34, 99999)] h h := fz_fr_rf
  have b1 : (-2147483648) ≤ h 33 5 ∧ h 33 5 ≤ 2147483647 := hI.1 33 _
  have b2 : 0 ≤ h 33 6 ∧ h 33 6 ≤ 4 := hI.1 33 _
  have b3 : (-2147483648) ≤ h 33 7 ∧ h 33 7 ≤ 2147483647 := hI.1 33 _
  have k4 : 0 ≤ h 1 8 ∧ h 1 8 ≤ 12 := hI.1 1 _
  refine fz_aload_n kX6_explore rfl rfl ?_
  refine fz_iload_n kX6_explore rfl rfl ?_
  refine fz_iload kX6_explore rfl rfl ?_
  refine fz_iload kX6_explore rfl rfl ?_
  refine fz_callV (d' := 0) (M' := mX6_compare) (As := [fz_i 0, fz_i su, fz_i rt]) (st := []) kX6_explore rfl rfl vX6_compare rfl rfl rfl rfl (Nat.le_of_ble_eq_true rfl) (Nat.le_of_ble_eq_true rfl) (by decide) (sX6_compare h hI 0 su rt (by omega)) (fun H5 r6 q7 o8 => ?_)
  obtain ⟨hI9, hf10, rfl, f11⟩ := q7
  clear o8
  have hf12 := fz_fr_tr hf hf10 (show fz_su [(33, 5), (33, 6), (33, 7)] [(18, 99999), (19, 99999), (29, 99999), (33, 5), (33, 6), (33, 7), (34, 99999)] = true from rfl)
  have hMM13 : fl_MM H5 := fl_MM_eq (funext fun s => hf10 34 s rfl) (hf10 33 3 rfl) (hf10 33 4 rfl) (funext fun s => hf10 28 s rfl) (hf10 27 8 rfl) (funext fun s => hf10 2 s rfl) (funext fun s => hf10 8 s rfl) (funext fun s => hf10 9 s rfl) (funext fun s => hf10 10 s rfl) (funext fun s => hf10 11 s rfl) (funext fun s => hf10 12 s rfl) (funext fun s => hf10 13 s rfl) (funext fun s => hf10 14 s rfl) (funext fun s => hf10 15 s rfl) (funext fun s => hf10 16 s rfl) (funext fun s => hf10 17 s rfl) hMM
  refine fz_iload_n kX6_explore rfl rfl ?_
  refine fz_iconst ⟨by decide, by decide⟩ kX6_explore rfl ?_
  refine fz_icmp_lt (tgt := 15) kX6_explore rfl (by decide) (fun c14 => ?_) (fun c14 => ?_)
  · refine fz_iconst ⟨by decide, by decide⟩ kX6_explore rfl ?_
    refine fz_istore (ls' := [(6, fz_i 0), (0, fz_r 33), (1, fz_i fr), (2, fz_i hr), (3, fz_i 0), (4, fz_i su), (5, fz_i rt)]) kX6_explore rfl (by decide) rfl ?_
    have lp21 : ∀ (n20 : Nat) (x15 : Int) (H17 : fz_H), fz_Iv H17 → fz_fr [(18, 99999), (19, 99999), (29, 99999), (33, 5), (33, 6), (33, 7), (34, 99999)] h H17 → fl_MM H17 → (0 ≤ x15 ∧ x15 ≤ 2147483647) → (x15 ≤ h 1 8) → ((H17 33 5, H17 33 6, H17 33 7) = fl_fo (fl_gxC h 3 fr hr 0 su rt) (x15).toNat (fl_cmr 0 su rt (h 33 5, h 33 6, h 33 7))) → ((h 1 8) - x15).toNat < n20 → fz_R 8 mX6_explore 18 [(6, fz_i x15), (0, fz_r 33), (1, fz_i fr), (2, fz_i hr), (3, fz_i 0), (4, fz_i su), (5, fz_i rt)] [] H17 (qX6_explore_0 h fr hr su rt) := by
      intro n20
      induction n20 with
      | zero => intro x15 H17 hI18 hf19 hMM16 hv24 hv25 hv26 hm23; exact absurd hm23 (by omega)
      | succ n20 ih22 =>
        intro x15 H17 hI18 hf19 hMM16 hv24 hv25 hv26 hm23
        refine fz_iload kX6_explore rfl rfl ?_
        refine fz_aload_n kX6_explore rfl rfl ?_
        refine fz_getR (t := 1) kX6_explore rfl rfl ?_
        refine fz_getV (v := h 1 8) kX6_explore rfl rfl (hf19 1 8 rfl) ?_
        have b27 : 0 ≤ h 1 8 ∧ h 1 8 ≤ 12 := hI.1 1 _
        refine fz_icmp_ge (tgt := 206) kX6_explore rfl (by decide) (fun c28 => ?_) (fun c28 => ?_)
        · exact fz_vret kX6_explore rfl rfl ⟨hI18, hf19, hMM16, rfl, (by exact fl_rgC_e hv26 (by omega))⟩
        · refine fz_aload_n kX6_explore rfl rfl ?_
          refine fz_getR (t := 1) kX6_explore rfl rfl ?_
          refine fz_iload kX6_explore rfl rfl ?_
          refine fz_iload_n kX6_explore rfl rfl ?_
          refine fz_callV (d' := 0) (M' := mX2_acrossFrom) (As := [fz_i x15, fz_i fr]) (st := []) kX6_explore rfl rfl vX2_acrossFrom rfl rfl rfl rfl (Nat.le_of_ble_eq_true rfl) (Nat.le_of_ble_eq_true rfl) (by decide) (sX2_acrossFrom H17 hI18 x15 fr (by omega)) (fun H30 r31 q32 o33 => ?_)
          obtain ⟨e34, y38, rfl, f35, f36, f37⟩ := q32
          subst H30
          clear o33
          have k39 : y38 = fz_ac (h 5 (x15).toNat) (h 6 (x15).toNat) fr := by have z := f37; rw [hf19 5 _ rfl, hf19 6 _ rfl] at z; exact z
          refine fz_istore (ls' := [(7, fz_i y38), (6, fz_i x15), (0, fz_r 33), (1, fz_i fr), (2, fz_i hr), (3, fz_i 0), (4, fz_i su), (5, fz_i rt)]) kX6_explore rfl (by decide) rfl ?_
          refine fz_iload_n kX6_explore rfl rfl ?_
          refine fz_aload_n kX6_explore rfl rfl ?_
          refine fz_getR (t := 1) kX6_explore rfl rfl ?_
          refine fz_getR (t := 3) kX6_explore rfl rfl ?_
          refine fz_iload kX6_explore rfl rfl ?_
          refine fz_ialdV (n := 12) (v := h 3 (x15.toNat)) kX6_explore rfl rfl (by omega) (by omega) (hf19 3 _ rfl) ?_
          have b41 : 0 ≤ h 3 (x15.toNat) ∧ h 3 (x15.toNat) ≤ 24 := hI.1 3 _
          refine fz_iaddN kX6_explore rfl (by omega) ?_
          refine fz_istore (ls' := [(8, fz_i (hr + (h 3 (x15.toNat)))), (7, fz_i y38), (6, fz_i x15), (0, fz_r 33), (1, fz_i fr), (2, fz_i hr), (3, fz_i 0), (4, fz_i su), (5, fz_i rt)]) kX6_explore rfl (by decide) rfl ?_
          refine fz_iload kX6_explore rfl rfl ?_
          refine fz_if_lt (tgt := 200) kX6_explore rfl (by decide) (fun c42 => ?_) (fun c42 => ?_)
          · refine fz_iincN (ls' := [(6, fz_i (x15 + 1)), (8, fz_i (hr + (h 3 (x15.toNat)))), (7, fz_i y38), (0, fz_r 33), (1, fz_i fr), (2, fz_i hr), (3, fz_i 0), (4, fz_i su), (5, fz_i rt)]) kX6_explore rfl (by decide) rfl (by omega) rfl ?_
            refine fz_goto (tgt := 18) kX6_explore rfl (by decide) ?_
            refine fz_sub (fz_pk_sub (ls' := [(6, fz_i (x15 + 1)), (0, fz_r 33), (1, fz_i fr), (2, fz_i hr), (3, fz_i 0), (4, fz_i su), (5, fz_i rt)]) [0, 3, 4, 5, 6, 7, 8] rfl) ?_
            exact ih22 (x15 + 1) H17 hI18 hf19 hMM16 (by omega) (by omega) (by first | exact fl_rgC_n hv26 (by omega) k39 rfl (Or.inl (by omega)) | exact fl_rgC_n hv26 (by omega) k39 rfl (Or.inr (by omega)) | exact fl_rgC_a lost (by omega) k39 rfl lost (fun z => (hI.1 2 z).1) (fun z => (hI.1 14 z).2) (fun z => hI.1 28 z) (by omega) | exact fl_rgC_y lost (by omega) k39 rfl (by omega) (by omega) lost (by omega) (by have z := (fl_exC_hh (h := h) lost rfl (lost 33 3 rfl) (lost 33 4 rfl) lost); rw [show rt = 0 by omega]; exact z) | (exfalso; omega)) (by omega)
          · refine fz_iload kX6_explore rfl rfl ?_
            refine fz_bipush ⟨by decide, by decide⟩ kX6_explore rfl ?_
            refine fz_icmp_ge (tgt := 200) kX6_explore rfl (by decide) (fun c44 => ?_) (fun c44 => ?_)
            · exfalso; omega
            · refine fz_aload_n kX6_explore rfl rfl ?_
              refine fz_getV (v := h 33 4) kX6_explore rfl rfl (hf19 33 4 rfl) ?_
              have b45 : 0 ≤ h 33 4 ∧ h 33 4 ≤ 999 := hI.1 33 _
              refine fz_iload kX6_explore rfl rfl ?_
              refine fz_iaddN kX6_explore rfl (by omega) ?_
              refine fz_sipush ⟨by decide, by decide⟩ kX6_explore rfl ?_
              refine fz_icmp_le (tgt := 84) kX6_explore rfl (by decide) (fun c46 => ?_) (fun c46 => ?_)
              · refine fz_iload kX6_explore rfl rfl ?_
                refine fz_bipush ⟨by decide, by decide⟩ kX6_explore rfl ?_
                refine fz_imulN kX6_explore rfl (by omega) ?_
                refine fz_iload kX6_explore rfl rfl ?_
                refine fz_iaddN kX6_explore rfl (by omega) ?_
                refine fz_istore (ls' := [(9, fz_i ((y38 * 97) + (hr + (h 3 (x15.toNat))))), (8, fz_i (hr + (h 3 (x15.toNat)))), (7, fz_i y38), (6, fz_i x15), (0, fz_r 33), (1, fz_i fr), (2, fz_i hr), (3, fz_i 0), (4, fz_i su), (5, fz_i rt)]) kX6_explore rfl (by decide) rfl ?_
                refine fz_aload_n kX6_explore rfl rfl ?_
                refine fz_getR (t := 34) kX6_explore rfl rfl ?_
                refine fz_iload kX6_explore rfl rfl ?_
                obtain ⟨v47, e48⟩ : ∃ z, H17 34 (((y38 * 97) + (hr + (h 3 (x15.toNat)))).toNat) = z := ⟨_, rfl⟩
                refine fz_ialdV (n := 776) (v := v47) kX6_explore rfl rfl (by omega) (by omega) e48 ?_
                have b49 : (-2147483648) ≤ v47 ∧ v47 ≤ 2147483647 := by rw [← e48]; exact hI18.1 34 _
                refine fz_ldc (x := (-2000000000)) kX6_explore rfl rfl rfl ?_
                refine fz_icmp_ne (tgt := 159) kX6_explore rfl (by decide) (fun c50 => ?_) (fun c50 => ?_)
                · have k51 : True := trivial
                  refine fz_aload_n kX6_explore rfl rfl ?_
                  refine fz_getR (t := 34) kX6_explore rfl rfl ?_
                  refine fz_iload kX6_explore rfl rfl ?_
                  obtain ⟨v52, e53⟩ : ∃ z, H17 34 (((y38 * 97) + (hr + (h 3 (x15.toNat)))).toNat) = z := ⟨_, rfl⟩
                  refine fz_ialdV (n := 776) (v := v52) kX6_explore rfl rfl (by omega) (by omega) e53 ?_
                  have b54 : (-2147483648) ≤ v52 ∧ v52 ≤ 2147483647 := by rw [← e53]; exact hI18.1 34 _
                  have k55 : v52 = fl_mv h y38 (hr + (h 3 (x15.toNat))) := fl_mv_at hMM16 e53 rfl ⟨by omega, by omega⟩ ⟨by omega, by omega⟩ (by first | omega | (have q : H17 34 (((y38 * 97) + (hr + (h 3 (x15.toNat))))).toNat = lost := (by rw [lost, lost]; exact fz_up_e); omega)) (fl_mv_fr hf19 rfl (hf19 33 3 rfl) (hf19 33 4 rfl))
                  have k57 : (H17 33 5, H17 33 6, H17 33 7) = fl_fo (fl_gxC h 3 fr hr 0 su rt) (x15).toNat (fl_cmr 0 su rt (h 33 5, h 33 6, h 33 7)) := by first | exact hv26 | (rw [show H17 33 5 = lost 33 5 by omega, show H17 33 6 = lost 33 6 by omega, show H17 33 7 = lost 33 7 by omega]; exact hv26)
                  refine fz_ldc (x := (-1999999999)) kX6_explore rfl rfl rfl ?_
                  refine fz_icmp_eq (tgt := 200) kX6_explore rfl (by decide) (fun c59 => ?_) (fun c59 => ?_)
                  · refine fz_iincN (ls' := [(6, fz_i (x15 + 1)), (9, fz_i ((y38 * 97) + (hr + (h 3 (x15.toNat))))), (8, fz_i (hr + (h 3 (x15.toNat)))), (7, fz_i y38), (0, fz_r 33), (1, fz_i fr), (2, fz_i hr), (3, fz_i 0), (4, fz_i su), (5, fz_i rt)]) kX6_explore rfl (by decide) rfl (by omega) rfl ?_
                    refine fz_goto (tgt := 18) kX6_explore rfl (by decide) ?_
                    refine fz_sub (fz_pk_sub (ls' := [(6, fz_i (x15 + 1)), (0, fz_r 33), (1, fz_i fr), (2, fz_i hr), (3, fz_i 0), (4, fz_i su), (5, fz_i rt)]) [0, 4, 5, 6, 7, 8, 9] rfl) ?_
                    exact ih22 (x15 + 1) H17 hI18 hf19 hMM16 (by omega) (by omega) (by first | exact fl_rgC_n hv26 (by omega) k39 rfl (Or.inl (by omega)) | exact fl_rgC_n hv26 (by omega) k39 rfl (Or.inr (by omega)) | exact fl_rgC_a k57 (by omega) k39 rfl k55 (fun z => (hI.1 2 z).1) (fun z => (hI.1 14 z).2) (fun z => hI.1 28 z) (by omega) | exact fl_rgC_y k57 (by omega) k39 rfl (by omega) (by omega) lost (by omega) (by have z := (fl_exC_hh (h := h) lost rfl (lost 33 3 rfl) (lost 33 4 rfl) lost); rw [show rt = 0 by omega]; exact z) | (exfalso; omega)) (by omega)
                  · refine fz_aload_n kX6_explore rfl rfl ?_
                    refine fz_iload kX6_explore rfl rfl ?_
                    refine fz_iload kX6_explore rfl rfl ?_
                    refine fz_iload_n kX6_explore rfl rfl ?_
                    refine fz_iconst ⟨by decide, by decide⟩ kX6_explore rfl ?_
                    refine fz_iaddN kX6_explore rfl ⟨by decide, by decide⟩ ?_
                    refine fz_eqi (y := 1) rfl ?_
                    refine fz_iload kX6_explore rfl rfl ?_
                    refine fz_aload_n kX6_explore rfl rfl ?_
                    refine fz_getR (t := 34) kX6_explore rfl rfl ?_
                    refine fz_iload kX6_explore rfl rfl ?_
                    obtain ⟨v61, e62⟩ : ∃ z, H17 34 (((y38 * 97) + (hr + (h 3 (x15.toNat)))).toNat) = z := ⟨_, rfl⟩
                    refine fz_ialdV (n := 776) (v := v61) kX6_explore rfl rfl (by omega) (by omega) e62 ?_
                    have b63 : (-2147483648) ≤ v61 ∧ v61 ≤ 2147483647 := by rw [← e62]; exact hI18.1 34 _
                    have k64 : v61 = fl_mv h y38 (hr + (h 3 (x15.toNat))) := e62.symm.trans (e53.trans k55)
                    refine fz_iadd kX6_explore rfl ?_
                    have b66 := fz_w_b (su + v61)
                    refine fz_iload kX6_explore rfl rfl ?_
                    refine fz_bipush ⟨by decide, by decide⟩ kX6_explore rfl ?_
                    refine fz_imulN kX6_explore rfl (by omega) ?_
                    refine fz_eqi (y := 0) (by omega) ?_
                    refine fz_iload kX6_explore rfl rfl ?_
                    refine fz_iaddN kX6_explore rfl (by omega) ?_
                    have b67 : (-2147483648) ≤ H17 33 5 ∧ H17 33 5 ≤ 2147483647 := hI18.1 33 _
                    have b68 : 0 ≤ H17 33 6 ∧ H17 33 6 ≤ 4 := hI18.1 33 _
                    have b69 : (-2147483648) ≤ H17 33 7 ∧ H17 33 7 ≤ 2147483647 := hI18.1 33 _
                    refine fz_callV (d' := 7) (M' := mX6_explore) (As := [fz_i y38, fz_i (hr + (h 3 (x15.toNat))), fz_i 1, fz_i (fz_w (su + v61)), fz_i (0 + y38)]) (st := []) kX6_explore rfl rfl vX6_explore rfl rfl rfl rfl (Nat.le_of_ble_eq_true rfl) (Nat.le_of_ble_eq_true rfl) (by decide) (sX6_explore_1 H17 hI18 y38 (hr + (h 3 (x15.toNat))) (fz_w (su + v61)) (0 + y38) hMM16 (by omega) (by omega) (by omega) (by omega)) (fun H70 r71 q72 o73 => ?_)
                    obtain ⟨hI74, hf75, hMM76, rfl, f77⟩ := q72
                    clear o73
                    have hf78 := fz_fr_tr hf19 hf75 (show fz_su [(18, 99999), (19, 99999), (29, 99999), (33, 5), (33, 6), (33, 7), (34, 99999)] [(18, 99999), (19, 99999), (29, 99999), (33, 5), (33, 6), (33, 7), (34, 99999)] = true from rfl)
                    refine fz_iincN (ls' := [(6, fz_i (x15 + 1)), (9, fz_i ((y38 * 97) + (hr + (h 3 (x15.toNat))))), (8, fz_i (hr + (h 3 (x15.toNat)))), (7, fz_i y38), (0, fz_r 33), (1, fz_i fr), (2, fz_i hr), (3, fz_i 0), (4, fz_i su), (5, fz_i rt)]) kX6_explore rfl (by decide) rfl (by omega) rfl ?_
                    refine fz_goto (tgt := 18) kX6_explore rfl (by decide) ?_
                    refine fz_sub (fz_pk_sub (ls' := [(6, fz_i (x15 + 1)), (0, fz_r 33), (1, fz_i fr), (2, fz_i hr), (3, fz_i 0), (4, fz_i su), (5, fz_i rt)]) [0, 4, 5, 6, 7, 8, 9] rfl) ?_
                    exact ih22 (x15 + 1) H70 hI74 hf78 hMM76 (by omega) (by omega) (by first | exact fl_rgC_n hv26 (by omega) k39 rfl (Or.inl (by omega)) | exact fl_rgC_n hv26 (by omega) k39 rfl (Or.inr (by omega)) | exact fl_rgC_a k57 (by omega) k39 rfl k55 (fun z => (hI.1 2 z).1) (fun z => (hI.1 14 z).2) (fun z => hI.1 28 z) (by omega) | exact fl_rgC_y k57 (by omega) k39 rfl (by omega) (by omega) k64 (by omega) (by have z := (fl_exC_hh (h := h) hf19 rfl (hf19 33 3 rfl) (hf19 33 4 rfl) f77); rw [show rt = 0 by omega]; exact z) | (exfalso; omega)) (by omega)
                · refine fz_aload_n kX6_explore rfl rfl ?_
                  refine fz_getR (t := 27) kX6_explore rfl rfl ?_
                  refine fz_aload_n kX6_explore rfl rfl ?_
                  refine fz_getV (v := h 33 3) kX6_explore rfl rfl (hf19 33 3 rfl) ?_
                  have b80 : 0 ≤ h 33 3 ∧ h 33 3 ≤ 3 := hI.1 33 _
                  refine fz_aload_n kX6_explore rfl rfl ?_
                  refine fz_getV (v := h 33 3) kX6_explore rfl rfl (hf19 33 3 rfl) ?_
                  refine fz_iload kX6_explore rfl rfl ?_
                  refine fz_aload_n kX6_explore rfl rfl ?_
                  refine fz_getV (v := h 33 4) kX6_explore rfl rfl (hf19 33 4 rfl) ?_
                  refine fz_iload kX6_explore rfl rfl ?_
                  refine fz_iaddN kX6_explore rfl (by omega) ?_
                  refine fz_callV (d' := 4) (M' := mX8_listen) (As := [fz_i (h 33 3), fz_i (h 33 3), fz_i y38, fz_i ((h 33 4) + (hr + (h 3 (x15.toNat))))]) (st := []) kX6_explore rfl rfl vX8_listen rfl rfl rfl rfl (Nat.le_of_ble_eq_true rfl) (Nat.le_of_ble_eq_true rfl) (by decide) (sX8_listen H17 hI18 (h 33 3) (h 33 3) y38 ((h 33 4) + (hr + (h 3 (x15.toNat)))) (by omega)) (fun H81 r82 q83 o84 => ?_)
                  obtain ⟨hI85, hf86, rfl, f87⟩ := q83
                  clear o84
                  have hf88 := fz_fr_tr hf19 hf86 (show fz_su [(18, 99999), (19, 99999), (29, 99999)] [(18, 99999), (19, 99999), (29, 99999), (33, 5), (33, 6), (33, 7), (34, 99999)] = true from rfl)
                  have hMM89 : fl_MM H81 := fl_MM_eq (funext fun s => hf86 34 s rfl) (hf86 33 3 rfl) (hf86 33 4 rfl) (funext fun s => hf86 28 s rfl) (hf86 27 8 rfl) (funext fun s => hf86 2 s rfl) (funext fun s => hf86 8 s rfl) (funext fun s => hf86 9 s rfl) (funext fun s => hf86 10 s rfl) (funext fun s => hf86 11 s rfl) (funext fun s => hf86 12 s rfl) (funext fun s => hf86 13 s rfl) (funext fun s => hf86 14 s rfl) (funext fun s => hf86 15 s rfl) (funext fun s => hf86 16 s rfl) (funext fun s => hf86 17 s rfl) hMM16
                  have t90 : H81 33 5 = H17 33 5 := hf86 33 5 rfl
                  have t91 : H81 33 6 = H17 33 6 := hf86 33 6 rfl
                  have t92 : H81 33 7 = H17 33 7 := hf86 33 7 rfl
                  refine fz_aload_n kX6_explore rfl rfl ?_
                  refine fz_getR (t := 34) kX6_explore rfl rfl ?_
                  refine fz_iload kX6_explore rfl rfl ?_
                  refine fz_aload_n kX6_explore rfl rfl ?_
                  refine fz_getR (t := 27) kX6_explore rfl rfl ?_
                  have b93 : (-2147483648) ≤ H81 29 1 ∧ H81 29 1 ≤ 2147483647 := hI85.1 29 _
                  have b94 : 0 ≤ h 27 8 ∧ h 27 8 ≤ 99 := hI.1 27 _
                  have e95 : H81 27 8 = h 27 8 := hf88 27 8 rfl
                  refine fz_callV (d' := 1) (M' := mX8_isArrested) (As := []) (st := [fz_i ((y38 * 97) + (hr + (h 3 (x15.toNat)))), fz_r 34]) kX6_explore rfl rfl vX8_isArrested rfl rfl rfl rfl (Nat.le_of_ble_eq_true rfl) (Nat.le_of_ble_eq_true rfl) (by decide) (sX8_isArrested H81 hI85  ) (fun H96 r97 q98 o99 => ?_)
                  obtain ⟨e100, y102, rfl, p103, f101⟩ := q98
                  subst H96
                  clear o99
                  refine fz_if_eq (tgt := 151) kX6_explore rfl (by decide) (fun c104 => ?_) (fun c104 => ?_)
                  · refine fz_aload_n kX6_explore rfl rfl ?_
                    refine fz_getR (t := 27) kX6_explore rfl rfl ?_
                    refine fz_callV (d' := 0) (M' := mX8_reception) (As := []) (st := [fz_i ((y38 * 97) + (hr + (h 3 (x15.toNat)))), fz_r 34]) kX6_explore rfl rfl vX8_reception rfl rfl rfl rfl (Nat.le_of_ble_eq_true rfl) (Nat.le_of_ble_eq_true rfl) (by decide) (sX8_reception H81 hI85  ) (fun H105 r106 q107 o108 => ?_)
                    obtain ⟨e109, y112, rfl, f110, f111⟩ := q107
                    subst H105
                    clear o108
                    obtain ⟨k113, k114⟩ : ∃ z, z = y112 := ⟨_, rfl⟩
                    have k116 : -1999999999 ≤ y112 ∧ y112 ≤ 4455 := by first | omega | (have q := fl_rp_vb f87 (fun z => (hI18.1 2 z).1) (fun z => (hI18.1 14 z).2) (fun z => hI85.1 28 z) f111; omega)
                    refine fz_iast (n := 776) kX6_explore rfl rfl (by omega) (by omega) ?_
                    refine fz_nmu (S := [(18, 99999), (19, 99999), (29, 99999), (33, 5), (33, 6), (33, 7), (34, 99999)]) (h0 := h) (fz_Iv_up hI85 (by decide) (show ((-2147483648) : Int) ≤ y112 by omega) (show (y112 : Int) ≤ 2147483647 by omega)) (fz_fr_up hf88 rfl) (fun H117 hI118 hf119 e120 => ?_)
                    have t121 : H117 33 5 = H81 33 5 := by rw [e120]; exact fz_up_o (by decide)
                    have t122 : H117 33 6 = H81 33 6 := by rw [e120]; exact fz_up_o (by decide)
                    have t123 : H117 33 7 = H81 33 7 := by rw [e120]; exact fz_up_o (by decide)
                    have hMM124 : fl_MM H117 := by first | exact fl_MM_st hMM89 e120 rfl ⟨by omega, by omega⟩ ⟨by omega, by omega⟩ (fl_mv_a f87 (fl_SC_fr hf86 rfl) f101 (hf88 33 3 rfl).symm (by rw [hf88 33 4 rfl]) (by omega)) | exact fl_MM_st hMM89 e120 rfl ⟨by omega, by omega⟩ ⟨by omega, by omega⟩ (fl_mv_r f87 (fl_SC_fr hf86 rfl) f101 (hf88 33 3 rfl).symm (by rw [hf88 33 4 rfl]) (by omega) f111)
                    have k126 : True := trivial
                    refine fz_aload_n kX6_explore rfl rfl ?_
                    refine fz_getR (t := 34) kX6_explore rfl rfl ?_
                    refine fz_iload kX6_explore rfl rfl ?_
                    obtain ⟨v127, e128⟩ : ∃ z, H117 34 (((y38 * 97) + (hr + (h 3 (x15.toNat)))).toNat) = z := ⟨_, rfl⟩
                    refine fz_ialdV (n := 776) (v := v127) kX6_explore rfl rfl (by omega) (by omega) e128 ?_
                    have b129 : (-2147483648) ≤ v127 ∧ v127 ≤ 2147483647 := by rw [← e128]; exact hI118.1 34 _
                    have k130 : v127 = fl_mv h y38 (hr + (h 3 (x15.toNat))) := fl_mv_at hMM124 e128 rfl ⟨by omega, by omega⟩ ⟨by omega, by omega⟩ (by first | omega | (have q : H117 34 (((y38 * 97) + (hr + (h 3 (x15.toNat))))).toNat = k113 := (by rw [k114, e120]; exact fz_up_e); omega)) (fl_mv_fr hf119 rfl (hf119 33 3 rfl) (hf119 33 4 rfl))
                    have k132 : (H117 33 5, H117 33 6, H117 33 7) = fl_fo (fl_gxC h 3 fr hr 0 su rt) (x15).toNat (fl_cmr 0 su rt (h 33 5, h 33 6, h 33 7)) := by first | exact hv26 | (rw [show H117 33 5 = H17 33 5 by omega, show H117 33 6 = H17 33 6 by omega, show H117 33 7 = H17 33 7 by omega]; exact hv26)
                    refine fz_ldc (x := (-1999999999)) kX6_explore rfl rfl rfl ?_
                    refine fz_icmp_eq (tgt := 200) kX6_explore rfl (by decide) (fun c134 => ?_) (fun c134 => ?_)
                    · refine fz_iincN (ls' := [(6, fz_i (x15 + 1)), (9, fz_i ((y38 * 97) + (hr + (h 3 (x15.toNat))))), (8, fz_i (hr + (h 3 (x15.toNat)))), (7, fz_i y38), (0, fz_r 33), (1, fz_i fr), (2, fz_i hr), (3, fz_i 0), (4, fz_i su), (5, fz_i rt)]) kX6_explore rfl (by decide) rfl (by omega) rfl ?_
                      refine fz_goto (tgt := 18) kX6_explore rfl (by decide) ?_
                      refine fz_sub (fz_pk_sub (ls' := [(6, fz_i (x15 + 1)), (0, fz_r 33), (1, fz_i fr), (2, fz_i hr), (3, fz_i 0), (4, fz_i su), (5, fz_i rt)]) [0, 4, 5, 6, 7, 8, 9] rfl) ?_
                      exact ih22 (x15 + 1) H117 hI118 hf119 hMM124 (by omega) (by omega) (by first | exact fl_rgC_n hv26 (by omega) k39 rfl (Or.inl (by omega)) | exact fl_rgC_n hv26 (by omega) k39 rfl (Or.inr (by omega)) | exact fl_rgC_a k132 (by omega) k39 rfl k130 (fun z => (hI.1 2 z).1) (fun z => (hI.1 14 z).2) (fun z => hI.1 28 z) (by omega) | exact fl_rgC_y k132 (by omega) k39 rfl (by omega) (by omega) lost (by omega) (by have z := (fl_exC_hh (h := h) lost rfl (lost 33 3 rfl) (lost 33 4 rfl) lost); rw [show rt = 0 by omega]; exact z) | (exfalso; omega)) (by omega)
                    · refine fz_aload_n kX6_explore rfl rfl ?_
                      refine fz_iload kX6_explore rfl rfl ?_
                      refine fz_iload kX6_explore rfl rfl ?_
                      refine fz_iload_n kX6_explore rfl rfl ?_
                      refine fz_iconst ⟨by decide, by decide⟩ kX6_explore rfl ?_
                      refine fz_iaddN kX6_explore rfl ⟨by decide, by decide⟩ ?_
                      refine fz_eqi (y := 1) rfl ?_
                      refine fz_iload kX6_explore rfl rfl ?_
                      refine fz_aload_n kX6_explore rfl rfl ?_
                      refine fz_getR (t := 34) kX6_explore rfl rfl ?_
                      refine fz_iload kX6_explore rfl rfl ?_
                      obtain ⟨v136, e137⟩ : ∃ z, H117 34 (((y38 * 97) + (hr + (h 3 (x15.toNat)))).toNat) = z := ⟨_, rfl⟩
                      refine fz_ialdV (n := 776) (v := v136) kX6_explore rfl rfl (by omega) (by omega) e137 ?_
                      have b138 : (-2147483648) ≤ v136 ∧ v136 ≤ 2147483647 := by rw [← e137]; exact hI118.1 34 _
                      have k139 : v136 = fl_mv h y38 (hr + (h 3 (x15.toNat))) := e137.symm.trans (e128.trans k130)
                      refine fz_iadd kX6_explore rfl ?_
                      have b141 := fz_w_b (su + v136)
                      refine fz_iload kX6_explore rfl rfl ?_
                      refine fz_bipush ⟨by decide, by decide⟩ kX6_explore rfl ?_
                      refine fz_imulN kX6_explore rfl (by omega) ?_
                      refine fz_eqi (y := 0) (by omega) ?_
                      refine fz_iload kX6_explore rfl rfl ?_
                      refine fz_iaddN kX6_explore rfl (by omega) ?_
                      have b142 : (-2147483648) ≤ H117 33 5 ∧ H117 33 5 ≤ 2147483647 := hI118.1 33 _
                      have b143 : 0 ≤ H117 33 6 ∧ H117 33 6 ≤ 4 := hI118.1 33 _
                      have b144 : (-2147483648) ≤ H117 33 7 ∧ H117 33 7 ≤ 2147483647 := hI118.1 33 _
                      refine fz_callV (d' := 7) (M' := mX6_explore) (As := [fz_i y38, fz_i (hr + (h 3 (x15.toNat))), fz_i 1, fz_i (fz_w (su + v136)), fz_i (0 + y38)]) (st := []) kX6_explore rfl rfl vX6_explore rfl rfl rfl rfl (Nat.le_of_ble_eq_true rfl) (Nat.le_of_ble_eq_true rfl) (by decide) (sX6_explore_1 H117 hI118 y38 (hr + (h 3 (x15.toNat))) (fz_w (su + v136)) (0 + y38) hMM124 (by omega) (by omega) (by omega) (by omega)) (fun H145 r146 q147 o148 => ?_)
                      obtain ⟨hI149, hf150, hMM151, rfl, f152⟩ := q147
                      clear o148
                      have hf153 := fz_fr_tr hf119 hf150 (show fz_su [(18, 99999), (19, 99999), (29, 99999), (33, 5), (33, 6), (33, 7), (34, 99999)] [(18, 99999), (19, 99999), (29, 99999), (33, 5), (33, 6), (33, 7), (34, 99999)] = true from rfl)
                      refine fz_iincN (ls' := [(6, fz_i (x15 + 1)), (9, fz_i ((y38 * 97) + (hr + (h 3 (x15.toNat))))), (8, fz_i (hr + (h 3 (x15.toNat)))), (7, fz_i y38), (0, fz_r 33), (1, fz_i fr), (2, fz_i hr), (3, fz_i 0), (4, fz_i su), (5, fz_i rt)]) kX6_explore rfl (by decide) rfl (by omega) rfl ?_
                      refine fz_goto (tgt := 18) kX6_explore rfl (by decide) ?_
                      refine fz_sub (fz_pk_sub (ls' := [(6, fz_i (x15 + 1)), (0, fz_r 33), (1, fz_i fr), (2, fz_i hr), (3, fz_i 0), (4, fz_i su), (5, fz_i rt)]) [0, 4, 5, 6, 7, 8, 9] rfl) ?_
                      exact ih22 (x15 + 1) H145 hI149 hf153 hMM151 (by omega) (by omega) (by first | exact fl_rgC_n hv26 (by omega) k39 rfl (Or.inl (by omega)) | exact fl_rgC_n hv26 (by omega) k39 rfl (Or.inr (by omega)) | exact fl_rgC_a k132 (by omega) k39 rfl k130 (fun z => (hI.1 2 z).1) (fun z => (hI.1 14 z).2) (fun z => hI.1 28 z) (by omega) | exact fl_rgC_y k132 (by omega) k39 rfl (by omega) (by omega) k139 (by omega) (by have z := (fl_exC_hh (h := h) hf119 rfl (hf119 33 3 rfl) (hf119 33 4 rfl) f152); rw [show rt = 0 by omega]; exact z) | (exfalso; omega)) (by omega)
                  · refine fz_ldc (x := (-1999999999)) kX6_explore rfl rfl rfl ?_
                    refine fz_goto (tgt := 158) kX6_explore rfl (by decide) ?_
                    obtain ⟨k155, k156⟩ : ∃ z, z = (-1999999999) := ⟨_, rfl⟩
                    have k158 : -1999999999 ≤ (-1999999999) ∧ (-1999999999) ≤ 4455 := by first | omega | (have q := fl_rp_vb f87 (fun z => (hI18.1 2 z).1) (fun z => (hI18.1 14 z).2) (fun z => hI85.1 28 z) lost; omega)
                    refine fz_iast (n := 776) kX6_explore rfl rfl (by omega) (by omega) ?_
                    refine fz_nmu (S := [(18, 99999), (19, 99999), (29, 99999), (33, 5), (33, 6), (33, 7), (34, 99999)]) (h0 := h) (fz_Iv_up hI85 (by decide) (show ((-2147483648) : Int) ≤ (-1999999999) by decide) (show ((-1999999999) : Int) ≤ 2147483647 by decide)) (fz_fr_up hf88 rfl) (fun H159 hI160 hf161 e162 => ?_)
                    have t163 : H159 33 5 = H81 33 5 := by rw [e162]; exact fz_up_o (by decide)
                    have t164 : H159 33 6 = H81 33 6 := by rw [e162]; exact fz_up_o (by decide)
                    have t165 : H159 33 7 = H81 33 7 := by rw [e162]; exact fz_up_o (by decide)
                    have hMM166 : fl_MM H159 := by first | exact fl_MM_st hMM89 e162 rfl ⟨by omega, by omega⟩ ⟨by omega, by omega⟩ (fl_mv_a f87 (fl_SC_fr hf86 rfl) f101 (hf88 33 3 rfl).symm (by rw [hf88 33 4 rfl]) (by omega)) | exact fl_MM_st hMM89 e162 rfl ⟨by omega, by omega⟩ ⟨by omega, by omega⟩ (fl_mv_r f87 (fl_SC_fr hf86 rfl) f101 (hf88 33 3 rfl).symm (by rw [hf88 33 4 rfl]) (by omega) lost)
                    have k168 : True := trivial
                    refine fz_aload_n kX6_explore rfl rfl ?_
                    refine fz_getR (t := 34) kX6_explore rfl rfl ?_
                    refine fz_iload kX6_explore rfl rfl ?_
                    obtain ⟨v169, e170⟩ : ∃ z, H159 34 (((y38 * 97) + (hr + (h 3 (x15.toNat)))).toNat) = z := ⟨_, rfl⟩
                    refine fz_ialdV (n := 776) (v := v169) kX6_explore rfl rfl (by omega) (by omega) e170 ?_
                    have b171 : (-2147483648) ≤ v169 ∧ v169 ≤ 2147483647 := by rw [← e170]; exact hI160.1 34 _
                    have k172 : v169 = fl_mv h y38 (hr + (h 3 (x15.toNat))) := fl_mv_at hMM166 e170 rfl ⟨by omega, by omega⟩ ⟨by omega, by omega⟩ (by first | omega | (have q : H159 34 (((y38 * 97) + (hr + (h 3 (x15.toNat))))).toNat = k155 := (by rw [k156, e162]; exact fz_up_e); omega)) (fl_mv_fr hf161 rfl (hf161 33 3 rfl) (hf161 33 4 rfl))
                    have k174 : (H159 33 5, H159 33 6, H159 33 7) = fl_fo (fl_gxC h 3 fr hr 0 su rt) (x15).toNat (fl_cmr 0 su rt (h 33 5, h 33 6, h 33 7)) := by first | exact hv26 | (rw [show H159 33 5 = H17 33 5 by omega, show H159 33 6 = H17 33 6 by omega, show H159 33 7 = H17 33 7 by omega]; exact hv26)
                    refine fz_ldc (x := (-1999999999)) kX6_explore rfl rfl rfl ?_
                    refine fz_icmp_eq (tgt := 200) kX6_explore rfl (by decide) (fun c176 => ?_) (fun c176 => ?_)
                    · refine fz_iincN (ls' := [(6, fz_i (x15 + 1)), (9, fz_i ((y38 * 97) + (hr + (h 3 (x15.toNat))))), (8, fz_i (hr + (h 3 (x15.toNat)))), (7, fz_i y38), (0, fz_r 33), (1, fz_i fr), (2, fz_i hr), (3, fz_i 0), (4, fz_i su), (5, fz_i rt)]) kX6_explore rfl (by decide) rfl (by omega) rfl ?_
                      refine fz_goto (tgt := 18) kX6_explore rfl (by decide) ?_
                      refine fz_sub (fz_pk_sub (ls' := [(6, fz_i (x15 + 1)), (0, fz_r 33), (1, fz_i fr), (2, fz_i hr), (3, fz_i 0), (4, fz_i su), (5, fz_i rt)]) [0, 4, 5, 6, 7, 8, 9] rfl) ?_
                      exact ih22 (x15 + 1) H159 hI160 hf161 hMM166 (by omega) (by omega) (by first | exact fl_rgC_n hv26 (by omega) k39 rfl (Or.inl (by omega)) | exact fl_rgC_n hv26 (by omega) k39 rfl (Or.inr (by omega)) | exact fl_rgC_a k174 (by omega) k39 rfl k172 (fun z => (hI.1 2 z).1) (fun z => (hI.1 14 z).2) (fun z => hI.1 28 z) (by omega) | exact fl_rgC_y k174 (by omega) k39 rfl (by omega) (by omega) lost (by omega) (by have z := (fl_exC_hh (h := h) lost rfl (lost 33 3 rfl) (lost 33 4 rfl) lost); rw [show rt = 0 by omega]; exact z) | (exfalso; omega)) (by omega)
                    · refine fz_aload_n kX6_explore rfl rfl ?_
                      refine fz_iload kX6_explore rfl rfl ?_
                      refine fz_iload kX6_explore rfl rfl ?_
                      refine fz_iload_n kX6_explore rfl rfl ?_
                      refine fz_iconst ⟨by decide, by decide⟩ kX6_explore rfl ?_
                      refine fz_iaddN kX6_explore rfl ⟨by decide, by decide⟩ ?_
                      refine fz_eqi (y := 1) rfl ?_
                      refine fz_iload kX6_explore rfl rfl ?_
                      refine fz_aload_n kX6_explore rfl rfl ?_
                      refine fz_getR (t := 34) kX6_explore rfl rfl ?_
                      refine fz_iload kX6_explore rfl rfl ?_
                      obtain ⟨v178, e179⟩ : ∃ z, H159 34 (((y38 * 97) + (hr + (h 3 (x15.toNat)))).toNat) = z := ⟨_, rfl⟩
                      refine fz_ialdV (n := 776) (v := v178) kX6_explore rfl rfl (by omega) (by omega) e179 ?_
                      have b180 : (-2147483648) ≤ v178 ∧ v178 ≤ 2147483647 := by rw [← e179]; exact hI160.1 34 _
                      have k181 : v178 = fl_mv h y38 (hr + (h 3 (x15.toNat))) := e179.symm.trans (e170.trans k172)
                      refine fz_iadd kX6_explore rfl ?_
                      have b183 := fz_w_b (su + v178)
                      refine fz_iload kX6_explore rfl rfl ?_
                      refine fz_bipush ⟨by decide, by decide⟩ kX6_explore rfl ?_
                      refine fz_imulN kX6_explore rfl (by omega) ?_
                      refine fz_eqi (y := 0) (by omega) ?_
                      refine fz_iload kX6_explore rfl rfl ?_
                      refine fz_iaddN kX6_explore rfl (by omega) ?_
                      have b184 : (-2147483648) ≤ H159 33 5 ∧ H159 33 5 ≤ 2147483647 := hI160.1 33 _
                      have b185 : 0 ≤ H159 33 6 ∧ H159 33 6 ≤ 4 := hI160.1 33 _
                      have b186 : (-2147483648) ≤ H159 33 7 ∧ H159 33 7 ≤ 2147483647 := hI160.1 33 _
                      refine fz_callV (d' := 7) (M' := mX6_explore) (As := [fz_i y38, fz_i (hr + (h 3 (x15.toNat))), fz_i 1, fz_i (fz_w (su + v178)), fz_i (0 + y38)]) (st := []) kX6_explore rfl rfl vX6_explore rfl rfl rfl rfl (Nat.le_of_ble_eq_true rfl) (Nat.le_of_ble_eq_true rfl) (by decide) (sX6_explore_1 H159 hI160 y38 (hr + (h 3 (x15.toNat))) (fz_w (su + v178)) (0 + y38) hMM166 (by omega) (by omega) (by omega) (by omega)) (fun H187 r188 q189 o190 => ?_)
                      obtain ⟨hI191, hf192, hMM193, rfl, f194⟩ := q189
                      clear o190
                      have hf195 := fz_fr_tr hf161 hf192 (show fz_su [(18, 99999), (19, 99999), (29, 99999), (33, 5), (33, 6), (33, 7), (34, 99999)] [(18, 99999), (19, 99999), (29, 99999), (33, 5), (33, 6), (33, 7), (34, 99999)] = true from rfl)
                      refine fz_iincN (ls' := [(6, fz_i (x15 + 1)), (9, fz_i ((y38 * 97) + (hr + (h 3 (x15.toNat))))), (8, fz_i (hr + (h 3 (x15.toNat)))), (7, fz_i y38), (0, fz_r 33), (1, fz_i fr), (2, fz_i hr), (3, fz_i 0), (4, fz_i su), (5, fz_i rt)]) kX6_explore rfl (by decide) rfl (by omega) rfl ?_
                      refine fz_goto (tgt := 18) kX6_explore rfl (by decide) ?_
                      refine fz_sub (fz_pk_sub (ls' := [(6, fz_i (x15 + 1)), (0, fz_r 33), (1, fz_i fr), (2, fz_i hr), (3, fz_i 0), (4, fz_i su), (5, fz_i rt)]) [0, 4, 5, 6, 7, 8, 9] rfl) ?_
                      exact ih22 (x15 + 1) H187 hI191 hf195 hMM193 (by omega) (by omega) (by first | exact fl_rgC_n hv26 (by omega) k39 rfl (Or.inl (by omega)) | exact fl_rgC_n hv26 (by omega) k39 rfl (Or.inr (by omega)) | exact fl_rgC_a k174 (by omega) k39 rfl k172 (fun z => (hI.1 2 z).1) (fun z => (hI.1 14 z).2) (fun z => hI.1 28 z) (by omega) | exact fl_rgC_y k174 (by omega) k39 rfl (by omega) (by omega) k181 (by omega) (by have z := (fl_exC_hh (h := h) hf161 rfl (hf161 33 3 rfl) (hf161 33 4 rfl) f194); rw [show rt = 0 by omega]; exact z) | (exfalso; omega)) (by omega)
              · refine fz_goto (tgt := 200) kX6_explore rfl (by decide) ?_
                refine fz_iincN (ls' := [(6, fz_i (x15 + 1)), (8, fz_i (hr + (h 3 (x15.toNat)))), (7, fz_i y38), (0, fz_r 33), (1, fz_i fr), (2, fz_i hr), (3, fz_i 0), (4, fz_i su), (5, fz_i rt)]) kX6_explore rfl (by decide) rfl (by omega) rfl ?_
                refine fz_goto (tgt := 18) kX6_explore rfl (by decide) ?_
                refine fz_sub (fz_pk_sub (ls' := [(6, fz_i (x15 + 1)), (0, fz_r 33), (1, fz_i fr), (2, fz_i hr), (3, fz_i 0), (4, fz_i su), (5, fz_i rt)]) [0, 3, 4, 5, 6, 7, 8] rfl) ?_
                exact ih22 (x15 + 1) H17 hI18 hf19 hMM16 (by omega) (by omega) (by first | exact fl_rgC_n hv26 (by omega) k39 rfl (Or.inl (by omega)) | exact fl_rgC_n hv26 (by omega) k39 rfl (Or.inr (by omega)) | exact fl_rgC_a lost (by omega) k39 rfl lost (fun z => (hI.1 2 z).1) (fun z => (hI.1 14 z).2) (fun z => hI.1 28 z) (by omega) | exact fl_rgC_y lost (by omega) k39 rfl (by omega) (by omega) lost (by omega) (by have z := (fl_exC_hh (h := h) lost rfl (lost 33 3 rfl) (lost 33 4 rfl) lost); rw [show rt = 0 by omega]; exact z) | (exfalso; omega)) (by omega)
    exact lp21 _ 0 H5 hI9 hf12 hMM13 (by omega) (by omega) (f11) (Nat.lt_succ_self _)
  · exfalso; omega

abbrev qX6_seek (h : fz_H) (on fr hr : Int) : fz_H → Option fz_V → Prop := fun h' r0 => fz_Iv h' ∧ fz_fr [(18, 99999), (19, 99999), (29, 99999), (33, 3), (33, 4), (33, 5), (33, 6), (33, 7), (34, 99999)] h h' ∧ r0 = none ∧ (h' 33 5, h' 33 6, h' 33 7) = fl_seC h on fr hr
set_option maxHeartbeats 1000000 in
set_option maxRecDepth 100000 in
theorem sX6_seek (h : fz_H) (hI : fz_Iv h) (on fr hr : Int) (hp0 : 0 ≤ on ∧ on < 4) (hp1 : 0 ≤ fr ∧ fr < 8) (hp2 : 0 ≤ hr ∧ hr ≤ 999) : fz_R 9 mX6_seek 0 [(0, fz_r 33), (1, fz_i on), (2, fz_i fr), (3, fz_i hr)] [] h (qX6_seek h on fr hr) := by
  refine fz_knowl (fun hk => ?_)
  have hr_on : -2147483648 ≤ on ∧ on < 2147483648 := hk _ (List.Mem.tail _ (List.Mem.head _))
  have hr_fr : -2147483648 ≤ fr ∧ fr < 2147483648 := hk _ (List.Mem.tail _ (List.Mem.tail _ (List.Mem.head _)))
  have hr_hr : -2147483648 ≤ hr ∧ hr < 2147483648 := hk _ (List.Mem.tail _ (List.Mem.tail _ (List.Mem.tail _ (List.Mem.head _))))
  clear hk
  have hf : fz_fr [(18, 99999), (19, 99999), (29, 99999), (33, 3), (33, 4), (33, 5), (33, 6), (33, 7), (34, 99999)] h h := fz_fr_rf
  refine fz_aload_n kX6_seek rfl rfl ?_
  refine fz_getR (t := 34) kX6_seek rfl rfl ?_
  refine fz_ldc (x := (-2000000000)) kX6_seek rfl rfl rfl ?_
  refine fz_callS (d' := 0) (M' := mJ7_fill_53178) (As := [fz_r 34, fz_i (-2000000000)]) (st := []) kX6_seek rfl rfl vJ7_fill_53178 rfl rfl (Nat.le_of_ble_eq_true rfl) (Nat.le_of_ble_eq_true rfl) (by decide) (sJ7_fill_53178_34 h hI (-2000000000) ) (fun H1 r2 q3 o4 => ?_)
  obtain ⟨hI5, hf6, rfl, f7⟩ := q3
  clear o4
  have hf8 := fz_fr_tr hf hf6 (show fz_su [(34, 99999)] [(18, 99999), (19, 99999), (29, 99999), (33, 3), (33, 4), (33, 5), (33, 6), (33, 7), (34, 99999)] = true from rfl)
  refine fz_aload_n kX6_seek rfl rfl ?_
  refine fz_iload_n kX6_seek rfl rfl ?_
  refine fz_putI kX6_seek rfl rfl rfl ?_
  refine fz_nmu (S := [(18, 99999), (19, 99999), (29, 99999), (33, 3), (33, 4), (33, 5), (33, 6), (33, 7), (34, 99999)]) (h0 := h) (fz_Iv_up hI5 (by decide) (show (0 : Int) ≤ on by omega) (show (on : Int) ≤ 3 by omega)) (fz_fr_up hf8 rfl) (fun H9 hI10 hf11 e12 => ?_)
  have k13 : H9 33 3 = on := by rw [e12]; exact fz_up_e
  refine fz_aload_n kX6_seek rfl rfl ?_
  refine fz_iload_n kX6_seek rfl rfl ?_
  refine fz_putI kX6_seek rfl rfl rfl ?_
  refine fz_nmu (S := [(18, 99999), (19, 99999), (29, 99999), (33, 3), (33, 4), (33, 5), (33, 6), (33, 7), (34, 99999)]) (h0 := h) (fz_Iv_up hI10 (by decide) (show (0 : Int) ≤ hr by omega) (show (hr : Int) ≤ 999 by omega)) (fz_fr_up hf11 rfl) (fun H14 hI15 hf16 e17 => ?_)
  have k18 : H14 33 3 = on := by rw [e17]; exact (fz_up_s (by decide)).trans k13
  have k19 : H14 33 4 = hr := by rw [e17]; exact fz_up_e
  refine fz_aload_n kX6_seek rfl rfl ?_
  refine fz_iconst ⟨by decide, by decide⟩ kX6_seek rfl ?_
  refine fz_putI kX6_seek rfl rfl rfl ?_
  refine fz_nmu (S := [(18, 99999), (19, 99999), (29, 99999), (33, 3), (33, 4), (33, 5), (33, 6), (33, 7), (34, 99999)]) (h0 := h) (fz_Iv_up hI15 (by decide) (show ((-2147483648) : Int) ≤ 0 by decide) (show (0 : Int) ≤ 2147483647 by decide)) (fz_fr_up hf16 rfl) (fun H20 hI21 hf22 e23 => ?_)
  have k24 : H20 33 3 = on := by rw [e23]; exact (fz_up_s (by decide)).trans k18
  have k25 : H20 33 4 = hr := by rw [e23]; exact (fz_up_s (by decide)).trans k19
  have k26 : H20 33 5 = 0 := by rw [e23]; exact fz_up_e
  refine fz_aload_n kX6_seek rfl rfl ?_
  refine fz_iconst ⟨by decide, by decide⟩ kX6_seek rfl ?_
  refine fz_putI kX6_seek rfl rfl rfl ?_
  refine fz_nmu (S := [(18, 99999), (19, 99999), (29, 99999), (33, 3), (33, 4), (33, 5), (33, 6), (33, 7), (34, 99999)]) (h0 := h) (fz_Iv_up hI21 (by decide) (show (0 : Int) ≤ 0 by decide) (show (0 : Int) ≤ 4 by decide)) (fz_fr_up hf22 rfl) (fun H27 hI28 hf29 e30 => ?_)
  have k31 : H27 33 3 = on := by rw [e30]; exact (fz_up_s (by decide)).trans k24
  have k32 : H27 33 4 = hr := by rw [e30]; exact (fz_up_s (by decide)).trans k25
  have k33 : H27 33 5 = 0 := by rw [e30]; exact (fz_up_s (by decide)).trans k26
  have k34 : H27 33 6 = 0 := by rw [e30]; exact fz_up_e
  refine fz_aload_n kX6_seek rfl rfl ?_
  refine fz_iconst ⟨by decide, by decide⟩ kX6_seek rfl ?_
  refine fz_putI kX6_seek rfl rfl rfl ?_
  refine fz_nmu (S := [(18, 99999), (19, 99999), (29, 99999), (33, 3), (33, 4), (33, 5), (33, 6), (33, 7), (34, 99999)]) (h0 := h) (fz_Iv_up hI28 (by decide) (show ((-2147483648) : Int) ≤ 0 by decide) (show (0 : Int) ≤ 2147483647 by decide)) (fz_fr_up hf29 rfl) (fun H35 hI36 hf37 e38 => ?_)
  have k39 : H35 33 3 = on := by rw [e38]; exact (fz_up_s (by decide)).trans k31
  have k40 : H35 33 4 = hr := by rw [e38]; exact (fz_up_s (by decide)).trans k32
  have k41 : H35 33 5 = 0 := by rw [e38]; exact (fz_up_s (by decide)).trans k33
  have k42 : H35 33 6 = 0 := by rw [e38]; exact (fz_up_s (by decide)).trans k34
  have k43 : H35 33 7 = 0 := by rw [e38]; exact fz_up_e
  have hMM44 : fl_MM H35 := fl_MM_u (fun z hz => by rw [e38, fz_up_o (by decide), e30, fz_up_o (by decide), e23, fz_up_o (by decide), e17, fz_up_o (by decide), e12, fz_up_o (by decide)]; exact f7 z hz) rfl
  refine fz_aload_n kX6_seek rfl rfl ?_
  refine fz_iload_n kX6_seek rfl rfl ?_
  refine fz_iconst ⟨by decide, by decide⟩ kX6_seek rfl ?_
  refine fz_iconst ⟨by decide, by decide⟩ kX6_seek rfl ?_
  refine fz_iconst ⟨by decide, by decide⟩ kX6_seek rfl ?_
  refine fz_iconst ⟨by decide, by decide⟩ kX6_seek rfl ?_
  have b46 : (-2147483648) ≤ H35 33 5 ∧ H35 33 5 ≤ 2147483647 := hI36.1 33 _
  have b47 : 0 ≤ H35 33 6 ∧ H35 33 6 ≤ 4 := hI36.1 33 _
  have b48 : (-2147483648) ≤ H35 33 7 ∧ H35 33 7 ≤ 2147483647 := hI36.1 33 _
  refine fz_callV (d' := 8) (M' := mX6_explore) (As := [fz_i fr, fz_i 0, fz_i 0, fz_i 0, fz_i 0]) (st := []) kX6_seek rfl rfl vX6_explore rfl rfl rfl rfl (Nat.le_of_ble_eq_true rfl) (Nat.le_of_ble_eq_true rfl) (by decide) (sX6_explore_0 H35 hI36 fr 0 0 0 hMM44 (by omega) (by omega) (by omega) (by omega)) (fun H49 r50 q51 o52 => ?_)
  obtain ⟨hI53, hf54, hMM55, rfl, f56⟩ := q51
  clear o52
  have hf57 := fz_fr_tr hf37 hf54 (show fz_su [(18, 99999), (19, 99999), (29, 99999), (33, 5), (33, 6), (33, 7), (34, 99999)] [(18, 99999), (19, 99999), (29, 99999), (33, 3), (33, 4), (33, 5), (33, 6), (33, 7), (34, 99999)] = true from rfl)
  have k58 : H49 33 3 = on := (hf54 33 3 rfl).trans k39
  have k59 : H49 33 4 = hr := (hf54 33 4 rfl).trans k40
  exact fz_vret kX6_seek rfl rfl ⟨hI53, hf57, rfl, (by exact fl_seC_in hf37 rfl (by omega) (by omega) (by omega) (by omega) (by omega) f56)⟩
