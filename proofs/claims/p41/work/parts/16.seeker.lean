/-! ===== what the methods keep ===== -/
abbrev qX6_townAt (h : fz_H) (k : Int) : fz_H → Option fz_V → Prop := fun h' r0 => h' = h ∧ ∃ r : Int, r0 = some (fz_i r) ∧ ((-2147483648) ≤ r ∧ r ≤ 2147483647)
set_option maxHeartbeats 1000000 in
set_option maxRecDepth 100000 in
theorem sX6_townAt (h : fz_H) (hI : fz_Iv h) (k : Int) : fz_R 0 mX6_townAt 0 [(0, fz_r 33), (1, fz_i k)] [] h (qX6_townAt h k) := by
  refine fz_knowl (fun hk => ?_)
  have hr_k : -2147483648 ≤ k ∧ k < 2147483648 := hk _ (List.Mem.tail _ (List.Mem.head _))
  clear hk
  refine fz_iload_n kX6_townAt rfl rfl ?_
  refine fz_if_lt (tgt := 12) kX6_townAt rfl (by decide) (fun c1 => ?_) (fun c1 => ?_)
  · refine fz_bipush ⟨by decide, by decide⟩ kX6_townAt rfl ?_
    refine fz_goto (tgt := 35) kX6_townAt rfl (by decide) ?_
    exact fz_iret kX6_townAt rfl rfl (fun _ => ⟨rfl, _, rfl, (by omega)⟩)
  · refine fz_iload_n kX6_townAt rfl rfl ?_
    refine fz_aload_n kX6_townAt rfl rfl ?_
    refine fz_getV (v := h 33 6) kX6_townAt rfl rfl rfl ?_
    have b2 : 0 ≤ h 33 6 ∧ h 33 6 ≤ 4 := hI.1 33 _
    refine fz_icmp_lt (tgt := 17) kX6_townAt rfl (by decide) (fun c3 => ?_) (fun c3 => ?_)
    · refine fz_aload_n kX6_townAt rfl rfl ?_
      refine fz_getV (v := h 33 7) kX6_townAt rfl rfl rfl ?_
      have b4 : (-2147483648) ≤ h 33 7 ∧ h 33 7 ≤ 2147483647 := hI.1 33 _
      refine fz_iconst ⟨by decide, by decide⟩ kX6_townAt rfl ?_
      refine fz_aload_n kX6_townAt rfl rfl ?_
      refine fz_getV (v := h 33 6) kX6_townAt rfl rfl rfl ?_
      refine fz_iconst ⟨by decide, by decide⟩ kX6_townAt rfl ?_
      refine fz_isubN kX6_townAt rfl (by omega) ?_
      refine fz_iload_n kX6_townAt rfl rfl ?_
      refine fz_isubN kX6_townAt rfl (by omega) ?_
      refine fz_imulN kX6_townAt rfl (by omega) ?_
      refine fz_ishr kX6_townAt rfl ?_
      have b5 : -2147483648 ≤ (fz_shr (h 33 7) (3 * (((h 33 6) - 1) - k))) ∧ (fz_shr (h 33 7) (3 * (((h 33 6) - 1) - k))) < 2147483648 := fz_b32 _
      refine fz_bipush ⟨by decide, by decide⟩ kX6_townAt rfl ?_
      refine fz_iand kX6_townAt rfl ?_
      have b6 : -2147483648 ≤ (fz_and (fz_shr (h 33 7) (3 * (((h 33 6) - 1) - k))) 7) ∧ (fz_and (fz_shr (h 33 7) (3 * (((h 33 6) - 1) - k))) 7) < 2147483648 := fz_b32 _
      exact fz_iret kX6_townAt rfl rfl (fun _ => ⟨rfl, _, rfl, (by omega)⟩)
    · refine fz_bipush ⟨by decide, by decide⟩ kX6_townAt rfl ?_
      refine fz_goto (tgt := 35) kX6_townAt rfl (by decide) ?_
      exact fz_iret kX6_townAt rfl rfl (fun _ => ⟨rfl, _, rfl, (by omega)⟩)

abbrev qX6_compare (h : fz_H) (ro su rt : Int) : fz_H → Option fz_V → Prop := fun h' r0 => fz_Iv h' ∧ fz_fr [(33, 5), (33, 6), (33, 7)] h h' ∧ r0 = none
set_option maxHeartbeats 1000000 in
set_option maxRecDepth 100000 in
theorem sX6_compare (h : fz_H) (hI : fz_Iv h) (ro su rt : Int) (hp0 : 0 ≤ ro ∧ ro ≤ 4) : fz_R 0 mX6_compare 0 [(0, fz_r 33), (1, fz_i ro), (2, fz_i su), (3, fz_i rt)] [] h (qX6_compare h ro su rt) := by
  refine fz_knowl (fun hk => ?_)
  have hr_ro : -2147483648 ≤ ro ∧ ro < 2147483648 := hk _ (List.Mem.tail _ (List.Mem.head _))
  have hr_su : -2147483648 ≤ su ∧ su < 2147483648 := hk _ (List.Mem.tail _ (List.Mem.tail _ (List.Mem.head _)))
  have hr_rt : -2147483648 ≤ rt ∧ rt < 2147483648 := hk _ (List.Mem.tail _ (List.Mem.tail _ (List.Mem.tail _ (List.Mem.head _))))
  clear hk
  have hf : fz_fr [(33, 5), (33, 6), (33, 7)] h h := fz_fr_rf
  refine fz_iload_n kX6_compare rfl rfl ?_
  refine fz_aload_n kX6_compare rfl rfl ?_
  refine fz_getV (v := h 33 5) kX6_compare rfl rfl rfl ?_
  have b1 : (-2147483648) ≤ h 33 5 ∧ h 33 5 ≤ 2147483647 := hI.1 33 _
  refine fz_icmp_gt (tgt := 40) kX6_compare rfl (by decide) (fun c2 => ?_) (fun c2 => ?_)
  · refine fz_iconst ⟨by decide, by decide⟩ kX6_compare rfl ?_
    refine fz_goto (tgt := 45) kX6_compare rfl (by decide) ?_
    refine fz_istore (ls' := [(4, fz_i 1), (0, fz_r 33), (1, fz_i ro), (2, fz_i su), (3, fz_i rt)]) kX6_compare rfl (by decide) rfl ?_
    refine fz_iload kX6_compare rfl rfl ?_
    refine fz_if_eq (tgt := 67) kX6_compare rfl (by decide) (fun c3 => ?_) (fun c3 => ?_)
    · exfalso; omega
    · refine fz_aload_n kX6_compare rfl rfl ?_
      refine fz_iload_n kX6_compare rfl rfl ?_
      refine fz_putI kX6_compare rfl rfl rfl ?_
      refine fz_nmu (S := [(33, 5), (33, 6), (33, 7)]) (h0 := h) (fz_Iv_up hI (by decide) (show (-2147483648) ≤ su by omega) (show su ≤ 2147483647 by omega)) (fz_fr_up hf rfl) (fun H4 hI5 hf6 e7 => ?_)
      have k8 : H4 33 5 = su := by rw [e7]; exact fz_up_e
      clear e7
      refine fz_aload_n kX6_compare rfl rfl ?_
      refine fz_iload_n kX6_compare rfl rfl ?_
      refine fz_putI kX6_compare rfl rfl rfl ?_
      refine fz_nmu (S := [(33, 5), (33, 6), (33, 7)]) (h0 := h) (fz_Iv_up hI5 (by decide) (show 0 ≤ ro by omega) (show ro ≤ 4 by omega)) (fz_fr_up hf6 rfl) (fun H9 hI10 hf11 e12 => ?_)
      have k13 : H9 33 5 = su := by rw [e12]; exact (fz_up_s (by decide)).trans k8
      have k14 : H9 33 6 = ro := by rw [e12]; exact fz_up_e
      clear e12
      refine fz_aload_n kX6_compare rfl rfl ?_
      refine fz_iload_n kX6_compare rfl rfl ?_
      refine fz_putI kX6_compare rfl rfl rfl ?_
      refine fz_nmu (S := [(33, 5), (33, 6), (33, 7)]) (h0 := h) (fz_Iv_up hI10 (by decide) (show (-2147483648) ≤ rt by omega) (show rt ≤ 2147483647 by omega)) (fz_fr_up hf11 rfl) (fun H15 hI16 hf17 e18 => ?_)
      have k19 : H15 33 5 = su := by rw [e18]; exact (fz_up_s (by decide)).trans k13
      have k20 : H15 33 6 = ro := by rw [e18]; exact (fz_up_s (by decide)).trans k14
      have k21 : H15 33 7 = rt := by rw [e18]; exact fz_up_e
      clear e18
      exact fz_vret kX6_compare rfl rfl ⟨hI16, hf17, rfl⟩
  · refine fz_iload_n kX6_compare rfl rfl ?_
    refine fz_aload_n kX6_compare rfl rfl ?_
    refine fz_getV (v := h 33 5) kX6_compare rfl rfl rfl ?_
    refine fz_icmp_ne (tgt := 44) kX6_compare rfl (by decide) (fun c22 => ?_) (fun c22 => ?_)
    · refine fz_iconst ⟨by decide, by decide⟩ kX6_compare rfl ?_
      refine fz_istore (ls' := [(4, fz_i 0), (0, fz_r 33), (1, fz_i ro), (2, fz_i su), (3, fz_i rt)]) kX6_compare rfl (by decide) rfl ?_
      refine fz_iload kX6_compare rfl rfl ?_
      refine fz_if_eq (tgt := 67) kX6_compare rfl (by decide) (fun c23 => ?_) (fun c23 => ?_)
      · exact fz_vret kX6_compare rfl rfl ⟨hI, hf, rfl⟩
      · exfalso; omega
    · refine fz_iload_n kX6_compare rfl rfl ?_
      refine fz_aload_n kX6_compare rfl rfl ?_
      refine fz_getV (v := h 33 6) kX6_compare rfl rfl rfl ?_
      have b24 : 0 ≤ h 33 6 ∧ h 33 6 ≤ 4 := hI.1 33 _
      refine fz_icmp_lt (tgt := 40) kX6_compare rfl (by decide) (fun c25 => ?_) (fun c25 => ?_)
      · refine fz_iconst ⟨by decide, by decide⟩ kX6_compare rfl ?_
        refine fz_goto (tgt := 45) kX6_compare rfl (by decide) ?_
        refine fz_istore (ls' := [(4, fz_i 1), (0, fz_r 33), (1, fz_i ro), (2, fz_i su), (3, fz_i rt)]) kX6_compare rfl (by decide) rfl ?_
        refine fz_iload kX6_compare rfl rfl ?_
        refine fz_if_eq (tgt := 67) kX6_compare rfl (by decide) (fun c26 => ?_) (fun c26 => ?_)
        · exfalso; omega
        · refine fz_aload_n kX6_compare rfl rfl ?_
          refine fz_iload_n kX6_compare rfl rfl ?_
          refine fz_putI kX6_compare rfl rfl rfl ?_
          refine fz_nmu (S := [(33, 5), (33, 6), (33, 7)]) (h0 := h) (fz_Iv_up hI (by decide) (show (-2147483648) ≤ su by omega) (show su ≤ 2147483647 by omega)) (fz_fr_up hf rfl) (fun H27 hI28 hf29 e30 => ?_)
          have k31 : H27 33 6 = (h 33 6) := by rw [e30]; exact (fz_up_s (by decide)).trans rfl
          have k32 : H27 33 5 = su := by rw [e30]; exact fz_up_e
          clear e30
          refine fz_aload_n kX6_compare rfl rfl ?_
          refine fz_iload_n kX6_compare rfl rfl ?_
          refine fz_putI kX6_compare rfl rfl rfl ?_
          refine fz_nmu (S := [(33, 5), (33, 6), (33, 7)]) (h0 := h) (fz_Iv_up hI28 (by decide) (show 0 ≤ ro by omega) (show ro ≤ 4 by omega)) (fz_fr_up hf29 rfl) (fun H33 hI34 hf35 e36 => ?_)
          have k37 : H33 33 5 = su := by rw [e36]; exact (fz_up_s (by decide)).trans k32
          have k38 : H33 33 6 = ro := by rw [e36]; exact fz_up_e
          clear e36
          refine fz_aload_n kX6_compare rfl rfl ?_
          refine fz_iload_n kX6_compare rfl rfl ?_
          refine fz_putI kX6_compare rfl rfl rfl ?_
          refine fz_nmu (S := [(33, 5), (33, 6), (33, 7)]) (h0 := h) (fz_Iv_up hI34 (by decide) (show (-2147483648) ≤ rt by omega) (show rt ≤ 2147483647 by omega)) (fz_fr_up hf35 rfl) (fun H39 hI40 hf41 e42 => ?_)
          have k43 : H39 33 5 = su := by rw [e42]; exact (fz_up_s (by decide)).trans k37
          have k44 : H39 33 6 = ro := by rw [e42]; exact (fz_up_s (by decide)).trans k38
          have k45 : H39 33 7 = rt := by rw [e42]; exact fz_up_e
          clear e42
          exact fz_vret kX6_compare rfl rfl ⟨hI40, hf41, rfl⟩
      · refine fz_iload_n kX6_compare rfl rfl ?_
        refine fz_aload_n kX6_compare rfl rfl ?_
        refine fz_getV (v := h 33 6) kX6_compare rfl rfl rfl ?_
        refine fz_icmp_ne (tgt := 44) kX6_compare rfl (by decide) (fun c46 => ?_) (fun c46 => ?_)
        · refine fz_iconst ⟨by decide, by decide⟩ kX6_compare rfl ?_
          refine fz_istore (ls' := [(4, fz_i 0), (0, fz_r 33), (1, fz_i ro), (2, fz_i su), (3, fz_i rt)]) kX6_compare rfl (by decide) rfl ?_
          refine fz_iload kX6_compare rfl rfl ?_
          refine fz_if_eq (tgt := 67) kX6_compare rfl (by decide) (fun c47 => ?_) (fun c47 => ?_)
          · exact fz_vret kX6_compare rfl rfl ⟨hI, hf, rfl⟩
          · exfalso; omega
        · refine fz_iload_n kX6_compare rfl rfl ?_
          refine fz_aload_n kX6_compare rfl rfl ?_
          refine fz_getV (v := h 33 7) kX6_compare rfl rfl rfl ?_
          have b48 : (-2147483648) ≤ h 33 7 ∧ h 33 7 ≤ 2147483647 := hI.1 33 _
          refine fz_icmp_ge (tgt := 44) kX6_compare rfl (by decide) (fun c49 => ?_) (fun c49 => ?_)
          · refine fz_iconst ⟨by decide, by decide⟩ kX6_compare rfl ?_
            refine fz_istore (ls' := [(4, fz_i 0), (0, fz_r 33), (1, fz_i ro), (2, fz_i su), (3, fz_i rt)]) kX6_compare rfl (by decide) rfl ?_
            refine fz_iload kX6_compare rfl rfl ?_
            refine fz_if_eq (tgt := 67) kX6_compare rfl (by decide) (fun c50 => ?_) (fun c50 => ?_)
            · exact fz_vret kX6_compare rfl rfl ⟨hI, hf, rfl⟩
            · exfalso; omega
          · refine fz_iconst ⟨by decide, by decide⟩ kX6_compare rfl ?_
            refine fz_goto (tgt := 45) kX6_compare rfl (by decide) ?_
            refine fz_istore (ls' := [(4, fz_i 1), (0, fz_r 33), (1, fz_i ro), (2, fz_i su), (3, fz_i rt)]) kX6_compare rfl (by decide) rfl ?_
            refine fz_iload kX6_compare rfl rfl ?_
            refine fz_if_eq (tgt := 67) kX6_compare rfl (by decide) (fun c51 => ?_) (fun c51 => ?_)
            · exfalso; omega
            · refine fz_aload_n kX6_compare rfl rfl ?_
              refine fz_iload_n kX6_compare rfl rfl ?_
              refine fz_putI kX6_compare rfl rfl rfl ?_
              refine fz_nmu (S := [(33, 5), (33, 6), (33, 7)]) (h0 := h) (fz_Iv_up hI (by decide) (show (-2147483648) ≤ su by omega) (show su ≤ 2147483647 by omega)) (fz_fr_up hf rfl) (fun H52 hI53 hf54 e55 => ?_)
              have k56 : H52 33 6 = (h 33 6) := by rw [e55]; exact (fz_up_s (by decide)).trans rfl
              have k57 : H52 33 7 = (h 33 7) := by rw [e55]; exact (fz_up_s (by decide)).trans rfl
              have k58 : H52 33 5 = su := by rw [e55]; exact fz_up_e
              clear e55
              refine fz_aload_n kX6_compare rfl rfl ?_
              refine fz_iload_n kX6_compare rfl rfl ?_
              refine fz_putI kX6_compare rfl rfl rfl ?_
              refine fz_nmu (S := [(33, 5), (33, 6), (33, 7)]) (h0 := h) (fz_Iv_up hI53 (by decide) (show 0 ≤ ro by omega) (show ro ≤ 4 by omega)) (fz_fr_up hf54 rfl) (fun H59 hI60 hf61 e62 => ?_)
              have k63 : H59 33 7 = (h 33 7) := by rw [e62]; exact (fz_up_s (by decide)).trans k57
              have k64 : H59 33 5 = su := by rw [e62]; exact (fz_up_s (by decide)).trans k58
              have k65 : H59 33 6 = ro := by rw [e62]; exact fz_up_e
              clear e62
              refine fz_aload_n kX6_compare rfl rfl ?_
              refine fz_iload_n kX6_compare rfl rfl ?_
              refine fz_putI kX6_compare rfl rfl rfl ?_
              refine fz_nmu (S := [(33, 5), (33, 6), (33, 7)]) (h0 := h) (fz_Iv_up hI60 (by decide) (show (-2147483648) ≤ rt by omega) (show rt ≤ 2147483647 by omega)) (fz_fr_up hf61 rfl) (fun H66 hI67 hf68 e69 => ?_)
              have k70 : H66 33 5 = su := by rw [e69]; exact (fz_up_s (by decide)).trans k64
              have k71 : H66 33 6 = ro := by rw [e69]; exact (fz_up_s (by decide)).trans k65
              have k72 : H66 33 7 = rt := by rw [e69]; exact fz_up_e
              clear e69
              exact fz_vret kX6_compare rfl rfl ⟨hI67, hf68, rfl⟩

abbrev qX6_explore_4 (h : fz_H) (fr hr su rt : Int) : fz_H → Option fz_V → Prop := fun h' r0 => fz_Iv h' ∧ fz_fr [(18, 99999), (19, 99999), (29, 99999), (33, 5), (33, 6), (33, 7), (34, 99999)] h h' ∧ r0 = none
set_option maxHeartbeats 1000000 in
set_option maxRecDepth 100000 in
theorem sX6_explore_4 (h : fz_H) (hI : fz_Iv h) (fr hr su rt : Int) (hp0 : 0 ≤ fr ∧ fr < 8) (hp1 : 0 ≤ hr ∧ hr ≤ 96) : fz_R 1 mX6_explore 0 [(0, fz_r 33), (1, fz_i fr), (2, fz_i hr), (3, fz_i 4), (4, fz_i su), (5, fz_i rt)] [] h (qX6_explore_4 h fr hr su rt) := by
  refine fz_knowl (fun hk => ?_)
  have hr_fr : -2147483648 ≤ fr ∧ fr < 2147483648 := hk _ (List.Mem.tail _ (List.Mem.head _))
  have hr_hr : -2147483648 ≤ hr ∧ hr < 2147483648 := hk _ (List.Mem.tail _ (List.Mem.tail _ (List.Mem.head _)))
  have hr_su : -2147483648 ≤ su ∧ su < 2147483648 := hk _ (List.Mem.tail _ (List.Mem.tail _ (List.Mem.tail _ (List.Mem.tail _ (List.Mem.head _)))))
  have hr_rt : -2147483648 ≤ rt ∧ rt < 2147483648 := hk _ (List.Mem.tail _ (List.Mem.tail _ (List.Mem.tail _ (List.Mem.tail _ (List.Mem.tail _ (List.Mem.head _))))))
  clear hk
  have hf : fz_fr [(18, 99999), (19, 99999), (29, 99999), (33, 5), (33, 6), (33, 7), (34, 99999)] h h := fz_fr_rf
  refine fz_aload_n kX6_explore rfl rfl ?_
  refine fz_iload_n kX6_explore rfl rfl ?_
  refine fz_iload kX6_explore rfl rfl ?_
  refine fz_iload kX6_explore rfl rfl ?_
  refine fz_callV (d' := 0) (M' := mX6_compare) (As := [fz_i 4, fz_i su, fz_i rt]) (st := []) kX6_explore rfl rfl vX6_compare rfl rfl rfl rfl (Nat.le_of_ble_eq_true rfl) (Nat.le_of_ble_eq_true rfl) (by decide) (sX6_compare h hI 4 su rt (by omega)) (fun H1 r2 q3 o4 => ?_)
  obtain ⟨hI5, hf6, rfl⟩ := q3
  clear o4
  have hf7 := fz_fr_tr hf hf6 (show fz_su [(33, 5), (33, 6), (33, 7)] [(18, 99999), (19, 99999), (29, 99999), (33, 5), (33, 6), (33, 7), (34, 99999)] = true from rfl)
  refine fz_iload_n kX6_explore rfl rfl ?_
  refine fz_iconst ⟨by decide, by decide⟩ kX6_explore rfl ?_
  refine fz_icmp_lt (tgt := 15) kX6_explore rfl (by decide) (fun c8 => ?_) (fun c8 => ?_)
  · exfalso; omega
  · exact fz_vret kX6_explore rfl rfl ⟨hI5, hf7, rfl⟩

abbrev qX6_explore_3 (h : fz_H) (fr hr su rt : Int) : fz_H → Option fz_V → Prop := fun h' r0 => fz_Iv h' ∧ fz_fr [(18, 99999), (19, 99999), (29, 99999), (33, 5), (33, 6), (33, 7), (34, 99999)] h h' ∧ r0 = none
set_option maxHeartbeats 1000000 in
set_option maxRecDepth 100000 in
theorem sX6_explore_3 (h : fz_H) (hI : fz_Iv h) (fr hr su rt : Int) (hp0 : 0 ≤ fr ∧ fr < 8) (hp1 : 0 ≤ hr ∧ hr ≤ 96) : fz_R 5 mX6_explore 0 [(0, fz_r 33), (1, fz_i fr), (2, fz_i hr), (3, fz_i 3), (4, fz_i su), (5, fz_i rt)] [] h (qX6_explore_3 h fr hr su rt) := by
  refine fz_knowl (fun hk => ?_)
  have hr_fr : -2147483648 ≤ fr ∧ fr < 2147483648 := hk _ (List.Mem.tail _ (List.Mem.head _))
  have hr_hr : -2147483648 ≤ hr ∧ hr < 2147483648 := hk _ (List.Mem.tail _ (List.Mem.tail _ (List.Mem.head _)))
  have hr_su : -2147483648 ≤ su ∧ su < 2147483648 := hk _ (List.Mem.tail _ (List.Mem.tail _ (List.Mem.tail _ (List.Mem.tail _ (List.Mem.head _)))))
  have hr_rt : -2147483648 ≤ rt ∧ rt < 2147483648 := hk _ (List.Mem.tail _ (List.Mem.tail _ (List.Mem.tail _ (List.Mem.tail _ (List.Mem.tail _ (List.Mem.head _))))))
  clear hk
  have hf : fz_fr [(18, 99999), (19, 99999), (29, 99999), (33, 5), (33, 6), (33, 7), (34, 99999)] h h := fz_fr_rf
  refine fz_aload_n kX6_explore rfl rfl ?_
  refine fz_iload_n kX6_explore rfl rfl ?_
  refine fz_iload kX6_explore rfl rfl ?_
  refine fz_iload kX6_explore rfl rfl ?_
  refine fz_callV (d' := 0) (M' := mX6_compare) (As := [fz_i 3, fz_i su, fz_i rt]) (st := []) kX6_explore rfl rfl vX6_compare rfl rfl rfl rfl (Nat.le_of_ble_eq_true rfl) (Nat.le_of_ble_eq_true rfl) (by decide) (sX6_compare h hI 3 su rt (by omega)) (fun H1 r2 q3 o4 => ?_)
  obtain ⟨hI5, hf6, rfl⟩ := q3
  clear o4
  have hf7 := fz_fr_tr hf hf6 (show fz_su [(33, 5), (33, 6), (33, 7)] [(18, 99999), (19, 99999), (29, 99999), (33, 5), (33, 6), (33, 7), (34, 99999)] = true from rfl)
  refine fz_iload_n kX6_explore rfl rfl ?_
  refine fz_iconst ⟨by decide, by decide⟩ kX6_explore rfl ?_
  refine fz_icmp_lt (tgt := 15) kX6_explore rfl (by decide) (fun c8 => ?_) (fun c8 => ?_)
  · refine fz_iconst ⟨by decide, by decide⟩ kX6_explore rfl ?_
    refine fz_istore (ls' := [(6, fz_i 0), (0, fz_r 33), (1, fz_i fr), (2, fz_i hr), (3, fz_i 3), (4, fz_i su), (5, fz_i rt)]) kX6_explore rfl (by decide) rfl ?_
    have lp14 : ∀ (n13 : Nat) (x9 : Int) (H10 : fz_H), fz_Iv H10 → fz_fr [(18, 99999), (19, 99999), (29, 99999), (33, 5), (33, 6), (33, 7), (34, 99999)] h H10 → (0 ≤ x9 ∧ x9 ≤ 2147483647) → ((h 1 8) - x9).toNat < n13 → fz_R 5 mX6_explore 18 [(6, fz_i x9), (0, fz_r 33), (1, fz_i fr), (2, fz_i hr), (3, fz_i 3), (4, fz_i su), (5, fz_i rt)] [] H10 (qX6_explore_3 h fr hr su rt) := by
      intro n13
      induction n13 with
      | zero => intro x9 H10 hI11 hf12 hv17 hm16; exact absurd hm16 (by omega)
      | succ n13 ih15 =>
        intro x9 H10 hI11 hf12 hv17 hm16
        refine fz_iload kX6_explore rfl rfl ?_
        refine fz_aload_n kX6_explore rfl rfl ?_
        refine fz_getR (t := 1) kX6_explore rfl rfl ?_
        refine fz_getV (v := h 1 8) kX6_explore rfl rfl (hf12 1 8 rfl) ?_
        have b18 : 0 ≤ h 1 8 ∧ h 1 8 ≤ 12 := hI.1 1 _
        refine fz_icmp_ge (tgt := 206) kX6_explore rfl (by decide) (fun c19 => ?_) (fun c19 => ?_)
        · exact fz_vret kX6_explore rfl rfl ⟨hI11, hf12, rfl⟩
        · refine fz_aload_n kX6_explore rfl rfl ?_
          refine fz_getR (t := 1) kX6_explore rfl rfl ?_
          refine fz_iload kX6_explore rfl rfl ?_
          refine fz_iload_n kX6_explore rfl rfl ?_
          refine fz_callV (d' := 0) (M' := mX2_acrossFrom) (As := [fz_i x9, fz_i fr]) (st := []) kX6_explore rfl rfl vX2_acrossFrom rfl rfl rfl rfl (Nat.le_of_ble_eq_true rfl) (Nat.le_of_ble_eq_true rfl) (by decide) (sX2_acrossFrom H10 hI11 x9 fr (by omega)) (fun H20 r21 q22 o23 => ?_)
          obtain ⟨e24, y27, rfl, f25, f26⟩ := q22
          subst H20
          clear o23
          refine fz_istore (ls' := [(7, fz_i y27), (6, fz_i x9), (0, fz_r 33), (1, fz_i fr), (2, fz_i hr), (3, fz_i 3), (4, fz_i su), (5, fz_i rt)]) kX6_explore rfl (by decide) rfl ?_
          refine fz_iload_n kX6_explore rfl rfl ?_
          refine fz_aload_n kX6_explore rfl rfl ?_
          refine fz_getR (t := 1) kX6_explore rfl rfl ?_
          refine fz_getR (t := 3) kX6_explore rfl rfl ?_
          refine fz_iload kX6_explore rfl rfl ?_
          refine fz_ialdV (n := 12) (v := h 3 (x9.toNat)) kX6_explore rfl rfl (by omega) (by omega) (hf12 3 _ rfl) ?_
          have b28 : 0 ≤ h 3 (x9.toNat) ∧ h 3 (x9.toNat) ≤ 24 := hI.1 3 _
          refine fz_iaddN kX6_explore rfl (by omega) ?_
          refine fz_istore (ls' := [(8, fz_i (hr + (h 3 (x9.toNat)))), (7, fz_i y27), (6, fz_i x9), (0, fz_r 33), (1, fz_i fr), (2, fz_i hr), (3, fz_i 3), (4, fz_i su), (5, fz_i rt)]) kX6_explore rfl (by decide) rfl ?_
          refine fz_iload kX6_explore rfl rfl ?_
          refine fz_if_lt (tgt := 200) kX6_explore rfl (by decide) (fun c29 => ?_) (fun c29 => ?_)
          · refine fz_iincN (ls' := [(6, fz_i (x9 + 1)), (8, fz_i (hr + (h 3 (x9.toNat)))), (7, fz_i y27), (0, fz_r 33), (1, fz_i fr), (2, fz_i hr), (3, fz_i 3), (4, fz_i su), (5, fz_i rt)]) kX6_explore rfl (by decide) rfl (by omega) rfl ?_
            refine fz_goto (tgt := 18) kX6_explore rfl (by decide) ?_
            refine fz_sub (fz_pk_sub (ls' := [(6, fz_i (x9 + 1)), (0, fz_r 33), (1, fz_i fr), (2, fz_i hr), (3, fz_i 3), (4, fz_i su), (5, fz_i rt)]) [0, 3, 4, 5, 6, 7, 8] rfl) ?_
            exact ih15 (x9 + 1) H10 hI11 hf12 (by omega) (by omega)
          · refine fz_iload kX6_explore rfl rfl ?_
            refine fz_bipush ⟨by decide, by decide⟩ kX6_explore rfl ?_
            refine fz_icmp_ge (tgt := 200) kX6_explore rfl (by decide) (fun c30 => ?_) (fun c30 => ?_)
            · refine fz_iincN (ls' := [(6, fz_i (x9 + 1)), (8, fz_i (hr + (h 3 (x9.toNat)))), (7, fz_i y27), (0, fz_r 33), (1, fz_i fr), (2, fz_i hr), (3, fz_i 3), (4, fz_i su), (5, fz_i rt)]) kX6_explore rfl (by decide) rfl (by omega) rfl ?_
              refine fz_goto (tgt := 18) kX6_explore rfl (by decide) ?_
              refine fz_sub (fz_pk_sub (ls' := [(6, fz_i (x9 + 1)), (0, fz_r 33), (1, fz_i fr), (2, fz_i hr), (3, fz_i 3), (4, fz_i su), (5, fz_i rt)]) [0, 3, 4, 5, 6, 7, 8] rfl) ?_
              exact ih15 (x9 + 1) H10 hI11 hf12 (by omega) (by omega)
            · refine fz_aload_n kX6_explore rfl rfl ?_
              refine fz_getV (v := h 33 4) kX6_explore rfl rfl (hf12 33 4 rfl) ?_
              have b31 : 0 ≤ h 33 4 ∧ h 33 4 ≤ 999 := hI.1 33 _
              refine fz_iload kX6_explore rfl rfl ?_
              refine fz_iaddN kX6_explore rfl (by omega) ?_
              refine fz_sipush ⟨by decide, by decide⟩ kX6_explore rfl ?_
              refine fz_icmp_le (tgt := 84) kX6_explore rfl (by decide) (fun c32 => ?_) (fun c32 => ?_)
              · refine fz_iload kX6_explore rfl rfl ?_
                refine fz_bipush ⟨by decide, by decide⟩ kX6_explore rfl ?_
                refine fz_imulN kX6_explore rfl (by omega) ?_
                refine fz_iload kX6_explore rfl rfl ?_
                refine fz_iaddN kX6_explore rfl (by omega) ?_
                refine fz_istore (ls' := [(9, fz_i ((y27 * 97) + (hr + (h 3 (x9.toNat))))), (8, fz_i (hr + (h 3 (x9.toNat)))), (7, fz_i y27), (6, fz_i x9), (0, fz_r 33), (1, fz_i fr), (2, fz_i hr), (3, fz_i 3), (4, fz_i su), (5, fz_i rt)]) kX6_explore rfl (by decide) rfl ?_
                refine fz_aload_n kX6_explore rfl rfl ?_
                refine fz_getR (t := 34) kX6_explore rfl rfl ?_
                refine fz_iload kX6_explore rfl rfl ?_
                obtain ⟨v33, e34⟩ : ∃ z, H10 34 (((y27 * 97) + (hr + (h 3 (x9.toNat)))).toNat) = z := ⟨_, rfl⟩
                refine fz_ialdV (n := 776) (v := v33) kX6_explore rfl rfl (by omega) (by omega) e34 ?_
                have b35 : (-2147483648) ≤ v33 ∧ v33 ≤ 2147483647 := by rw [← e34]; exact hI11.1 34 _
                refine fz_ldc (x := (-2000000000)) kX6_explore rfl rfl rfl ?_
                refine fz_icmp_ne (tgt := 159) kX6_explore rfl (by decide) (fun c36 => ?_) (fun c36 => ?_)
                · refine fz_aload_n kX6_explore rfl rfl ?_
                  refine fz_getR (t := 34) kX6_explore rfl rfl ?_
                  refine fz_iload kX6_explore rfl rfl ?_
                  obtain ⟨v37, e38⟩ : ∃ z, H10 34 (((y27 * 97) + (hr + (h 3 (x9.toNat)))).toNat) = z := ⟨_, rfl⟩
                  refine fz_ialdV (n := 776) (v := v37) kX6_explore rfl rfl (by omega) (by omega) e38 ?_
                  have b39 : (-2147483648) ≤ v37 ∧ v37 ≤ 2147483647 := by rw [← e38]; exact hI11.1 34 _
                  refine fz_ldc (x := (-1999999999)) kX6_explore rfl rfl rfl ?_
                  refine fz_icmp_eq (tgt := 200) kX6_explore rfl (by decide) (fun c40 => ?_) (fun c40 => ?_)
                  · refine fz_iincN (ls' := [(6, fz_i (x9 + 1)), (9, fz_i ((y27 * 97) + (hr + (h 3 (x9.toNat))))), (8, fz_i (hr + (h 3 (x9.toNat)))), (7, fz_i y27), (0, fz_r 33), (1, fz_i fr), (2, fz_i hr), (3, fz_i 3), (4, fz_i su), (5, fz_i rt)]) kX6_explore rfl (by decide) rfl (by omega) rfl ?_
                    refine fz_goto (tgt := 18) kX6_explore rfl (by decide) ?_
                    refine fz_sub (fz_pk_sub (ls' := [(6, fz_i (x9 + 1)), (0, fz_r 33), (1, fz_i fr), (2, fz_i hr), (3, fz_i 3), (4, fz_i su), (5, fz_i rt)]) [0, 4, 5, 6, 7, 8, 9] rfl) ?_
                    exact ih15 (x9 + 1) H10 hI11 hf12 (by omega) (by omega)
                  · refine fz_aload_n kX6_explore rfl rfl ?_
                    refine fz_iload kX6_explore rfl rfl ?_
                    refine fz_iload kX6_explore rfl rfl ?_
                    refine fz_iload_n kX6_explore rfl rfl ?_
                    refine fz_iconst ⟨by decide, by decide⟩ kX6_explore rfl ?_
                    refine fz_iaddN kX6_explore rfl ⟨by decide, by decide⟩ ?_
                    refine fz_eqi (y := 4) rfl ?_
                    refine fz_iload kX6_explore rfl rfl ?_
                    refine fz_aload_n kX6_explore rfl rfl ?_
                    refine fz_getR (t := 34) kX6_explore rfl rfl ?_
                    refine fz_iload kX6_explore rfl rfl ?_
                    obtain ⟨v41, e42⟩ : ∃ z, H10 34 (((y27 * 97) + (hr + (h 3 (x9.toNat)))).toNat) = z := ⟨_, rfl⟩
                    refine fz_ialdV (n := 776) (v := v41) kX6_explore rfl rfl (by omega) (by omega) e42 ?_
                    have b43 : (-2147483648) ≤ v41 ∧ v41 ≤ 2147483647 := by rw [← e42]; exact hI11.1 34 _
                    refine fz_iadd kX6_explore rfl ?_
                    refine fz_nmw (fun z44 e45 => ?_)
                    refine fz_iload kX6_explore rfl rfl ?_
                    refine fz_bipush ⟨by decide, by decide⟩ kX6_explore rfl ?_
                    refine fz_imul kX6_explore rfl ?_
                    refine fz_nmw (fun z46 e47 => ?_)
                    refine fz_iload kX6_explore rfl rfl ?_
                    refine fz_iadd kX6_explore rfl ?_
                    refine fz_nmw (fun z48 e49 => ?_)
                    refine fz_callV (d' := 1) (M' := mX6_explore) (As := [fz_i y27, fz_i (hr + (h 3 (x9.toNat))), fz_i 4, fz_i z44, fz_i z48]) (st := []) kX6_explore rfl rfl vX6_explore rfl rfl rfl rfl (Nat.le_of_ble_eq_true rfl) (Nat.le_of_ble_eq_true rfl) (by decide) (sX6_explore_4 H10 hI11 y27 (hr + (h 3 (x9.toNat))) z44 z48 (by omega) (by omega)) (fun H50 r51 q52 o53 => ?_)
                    obtain ⟨hI54, hf55, rfl⟩ := q52
                    clear o53
                    have hf56 := fz_fr_tr hf12 hf55 (show fz_su [(18, 99999), (19, 99999), (29, 99999), (33, 5), (33, 6), (33, 7), (34, 99999)] [(18, 99999), (19, 99999), (29, 99999), (33, 5), (33, 6), (33, 7), (34, 99999)] = true from rfl)
                    refine fz_iincN (ls' := [(6, fz_i (x9 + 1)), (9, fz_i ((y27 * 97) + (hr + (h 3 (x9.toNat))))), (8, fz_i (hr + (h 3 (x9.toNat)))), (7, fz_i y27), (0, fz_r 33), (1, fz_i fr), (2, fz_i hr), (3, fz_i 3), (4, fz_i su), (5, fz_i rt)]) kX6_explore rfl (by decide) rfl (by omega) rfl ?_
                    refine fz_goto (tgt := 18) kX6_explore rfl (by decide) ?_
                    refine fz_sub (fz_pk_sub (ls' := [(6, fz_i (x9 + 1)), (0, fz_r 33), (1, fz_i fr), (2, fz_i hr), (3, fz_i 3), (4, fz_i su), (5, fz_i rt)]) [0, 4, 5, 6, 7, 8, 9] rfl) ?_
                    exact ih15 (x9 + 1) H50 hI54 hf56 (by omega) (by omega)
                · refine fz_aload_n kX6_explore rfl rfl ?_
                  refine fz_getR (t := 27) kX6_explore rfl rfl ?_
                  refine fz_aload_n kX6_explore rfl rfl ?_
                  refine fz_getV (v := h 33 3) kX6_explore rfl rfl (hf12 33 3 rfl) ?_
                  have b57 : 0 ≤ h 33 3 ∧ h 33 3 ≤ 3 := hI.1 33 _
                  refine fz_aload_n kX6_explore rfl rfl ?_
                  refine fz_getV (v := h 33 3) kX6_explore rfl rfl (hf12 33 3 rfl) ?_
                  refine fz_iload kX6_explore rfl rfl ?_
                  refine fz_aload_n kX6_explore rfl rfl ?_
                  refine fz_getV (v := h 33 4) kX6_explore rfl rfl (hf12 33 4 rfl) ?_
                  refine fz_iload kX6_explore rfl rfl ?_
                  refine fz_iaddN kX6_explore rfl (by omega) ?_
                  refine fz_callV (d' := 4) (M' := mX8_listen) (As := [fz_i (h 33 3), fz_i (h 33 3), fz_i y27, fz_i ((h 33 4) + (hr + (h 3 (x9.toNat))))]) (st := []) kX6_explore rfl rfl vX8_listen rfl rfl rfl rfl (Nat.le_of_ble_eq_true rfl) (Nat.le_of_ble_eq_true rfl) (by decide) (sX8_listen H10 hI11 (h 33 3) (h 33 3) y27 ((h 33 4) + (hr + (h 3 (x9.toNat)))) (by omega)) (fun H58 r59 q60 o61 => ?_)
                  obtain ⟨hI62, hf63, rfl⟩ := q60
                  clear o61
                  have hf64 := fz_fr_tr hf12 hf63 (show fz_su [(18, 99999), (19, 99999), (29, 99999)] [(18, 99999), (19, 99999), (29, 99999), (33, 5), (33, 6), (33, 7), (34, 99999)] = true from rfl)
                  refine fz_aload_n kX6_explore rfl rfl ?_
                  refine fz_getR (t := 34) kX6_explore rfl rfl ?_
                  refine fz_iload kX6_explore rfl rfl ?_
                  refine fz_aload_n kX6_explore rfl rfl ?_
                  refine fz_getR (t := 27) kX6_explore rfl rfl ?_
                  refine fz_callV (d' := 1) (M' := mX8_isArrested) (As := []) (st := [fz_i ((y27 * 97) + (hr + (h 3 (x9.toNat)))), fz_r 34]) kX6_explore rfl rfl vX8_isArrested rfl rfl rfl rfl (Nat.le_of_ble_eq_true rfl) (Nat.le_of_ble_eq_true rfl) (by decide) (sX8_isArrested H58 hI62  ) (fun H65 r66 q67 o68 => ?_)
                  obtain ⟨e69, y70, rfl, p71⟩ := q67
                  subst H65
                  clear o68
                  refine fz_if_eq (tgt := 151) kX6_explore rfl (by decide) (fun c72 => ?_) (fun c72 => ?_)
                  · refine fz_aload_n kX6_explore rfl rfl ?_
                    refine fz_getR (t := 27) kX6_explore rfl rfl ?_
                    refine fz_callV (d' := 0) (M' := mX8_reception) (As := []) (st := [fz_i ((y27 * 97) + (hr + (h 3 (x9.toNat)))), fz_r 34]) kX6_explore rfl rfl vX8_reception rfl rfl rfl rfl (Nat.le_of_ble_eq_true rfl) (Nat.le_of_ble_eq_true rfl) (by decide) (sX8_reception H58 hI62  ) (fun H73 r74 q75 o76 => ?_)
                    obtain ⟨e77, y79, rfl, f78⟩ := q75
                    subst H73
                    clear o76
                    refine fz_iast (n := 776) kX6_explore rfl rfl (by omega) (by omega) ?_
                    refine fz_nmu (S := [(18, 99999), (19, 99999), (29, 99999), (33, 5), (33, 6), (33, 7), (34, 99999)]) (h0 := h) (fz_Iv_up hI62 (by decide) (show (-2147483648) ≤ y79 by omega) (show y79 ≤ 2147483647 by omega)) (fz_fr_up hf64 rfl) (fun H80 hI81 hf82 e83 => ?_)
                    clear e83
                    refine fz_aload_n kX6_explore rfl rfl ?_
                    refine fz_getR (t := 34) kX6_explore rfl rfl ?_
                    refine fz_iload kX6_explore rfl rfl ?_
                    obtain ⟨v84, e85⟩ : ∃ z, H80 34 (((y27 * 97) + (hr + (h 3 (x9.toNat)))).toNat) = z := ⟨_, rfl⟩
                    refine fz_ialdV (n := 776) (v := v84) kX6_explore rfl rfl (by omega) (by omega) e85 ?_
                    have b86 : (-2147483648) ≤ v84 ∧ v84 ≤ 2147483647 := by rw [← e85]; exact hI81.1 34 _
                    refine fz_ldc (x := (-1999999999)) kX6_explore rfl rfl rfl ?_
                    refine fz_icmp_eq (tgt := 200) kX6_explore rfl (by decide) (fun c87 => ?_) (fun c87 => ?_)
                    · refine fz_iincN (ls' := [(6, fz_i (x9 + 1)), (9, fz_i ((y27 * 97) + (hr + (h 3 (x9.toNat))))), (8, fz_i (hr + (h 3 (x9.toNat)))), (7, fz_i y27), (0, fz_r 33), (1, fz_i fr), (2, fz_i hr), (3, fz_i 3), (4, fz_i su), (5, fz_i rt)]) kX6_explore rfl (by decide) rfl (by omega) rfl ?_
                      refine fz_goto (tgt := 18) kX6_explore rfl (by decide) ?_
                      refine fz_sub (fz_pk_sub (ls' := [(6, fz_i (x9 + 1)), (0, fz_r 33), (1, fz_i fr), (2, fz_i hr), (3, fz_i 3), (4, fz_i su), (5, fz_i rt)]) [0, 4, 5, 6, 7, 8, 9] rfl) ?_
                      exact ih15 (x9 + 1) H80 hI81 hf82 (by omega) (by omega)
                    · refine fz_aload_n kX6_explore rfl rfl ?_
                      refine fz_iload kX6_explore rfl rfl ?_
                      refine fz_iload kX6_explore rfl rfl ?_
                      refine fz_iload_n kX6_explore rfl rfl ?_
                      refine fz_iconst ⟨by decide, by decide⟩ kX6_explore rfl ?_
                      refine fz_iaddN kX6_explore rfl ⟨by decide, by decide⟩ ?_
                      refine fz_eqi (y := 4) rfl ?_
                      refine fz_iload kX6_explore rfl rfl ?_
                      refine fz_aload_n kX6_explore rfl rfl ?_
                      refine fz_getR (t := 34) kX6_explore rfl rfl ?_
                      refine fz_iload kX6_explore rfl rfl ?_
                      obtain ⟨v88, e89⟩ : ∃ z, H80 34 (((y27 * 97) + (hr + (h 3 (x9.toNat)))).toNat) = z := ⟨_, rfl⟩
                      refine fz_ialdV (n := 776) (v := v88) kX6_explore rfl rfl (by omega) (by omega) e89 ?_
                      have b90 : (-2147483648) ≤ v88 ∧ v88 ≤ 2147483647 := by rw [← e89]; exact hI81.1 34 _
                      refine fz_iadd kX6_explore rfl ?_
                      refine fz_nmw (fun z91 e92 => ?_)
                      refine fz_iload kX6_explore rfl rfl ?_
                      refine fz_bipush ⟨by decide, by decide⟩ kX6_explore rfl ?_
                      refine fz_imul kX6_explore rfl ?_
                      refine fz_nmw (fun z93 e94 => ?_)
                      refine fz_iload kX6_explore rfl rfl ?_
                      refine fz_iadd kX6_explore rfl ?_
                      refine fz_nmw (fun z95 e96 => ?_)
                      refine fz_callV (d' := 1) (M' := mX6_explore) (As := [fz_i y27, fz_i (hr + (h 3 (x9.toNat))), fz_i 4, fz_i z91, fz_i z95]) (st := []) kX6_explore rfl rfl vX6_explore rfl rfl rfl rfl (Nat.le_of_ble_eq_true rfl) (Nat.le_of_ble_eq_true rfl) (by decide) (sX6_explore_4 H80 hI81 y27 (hr + (h 3 (x9.toNat))) z91 z95 (by omega) (by omega)) (fun H97 r98 q99 o100 => ?_)
                      obtain ⟨hI101, hf102, rfl⟩ := q99
                      clear o100
                      have hf103 := fz_fr_tr hf82 hf102 (show fz_su [(18, 99999), (19, 99999), (29, 99999), (33, 5), (33, 6), (33, 7), (34, 99999)] [(18, 99999), (19, 99999), (29, 99999), (33, 5), (33, 6), (33, 7), (34, 99999)] = true from rfl)
                      refine fz_iincN (ls' := [(6, fz_i (x9 + 1)), (9, fz_i ((y27 * 97) + (hr + (h 3 (x9.toNat))))), (8, fz_i (hr + (h 3 (x9.toNat)))), (7, fz_i y27), (0, fz_r 33), (1, fz_i fr), (2, fz_i hr), (3, fz_i 3), (4, fz_i su), (5, fz_i rt)]) kX6_explore rfl (by decide) rfl (by omega) rfl ?_
                      refine fz_goto (tgt := 18) kX6_explore rfl (by decide) ?_
                      refine fz_sub (fz_pk_sub (ls' := [(6, fz_i (x9 + 1)), (0, fz_r 33), (1, fz_i fr), (2, fz_i hr), (3, fz_i 3), (4, fz_i su), (5, fz_i rt)]) [0, 4, 5, 6, 7, 8, 9] rfl) ?_
                      exact ih15 (x9 + 1) H97 hI101 hf103 (by omega) (by omega)
                  · refine fz_ldc (x := (-1999999999)) kX6_explore rfl rfl rfl ?_
                    refine fz_goto (tgt := 158) kX6_explore rfl (by decide) ?_
                    refine fz_iast (n := 776) kX6_explore rfl rfl (by omega) (by omega) ?_
                    refine fz_nmu (S := [(18, 99999), (19, 99999), (29, 99999), (33, 5), (33, 6), (33, 7), (34, 99999)]) (h0 := h) (fz_Iv_up hI62 (by decide) (show (-2147483648) ≤ (-1999999999) by omega) (show (-1999999999) ≤ 2147483647 by omega)) (fz_fr_up hf64 rfl) (fun H104 hI105 hf106 e107 => ?_)
                    clear e107
                    refine fz_aload_n kX6_explore rfl rfl ?_
                    refine fz_getR (t := 34) kX6_explore rfl rfl ?_
                    refine fz_iload kX6_explore rfl rfl ?_
                    obtain ⟨v108, e109⟩ : ∃ z, H104 34 (((y27 * 97) + (hr + (h 3 (x9.toNat)))).toNat) = z := ⟨_, rfl⟩
                    refine fz_ialdV (n := 776) (v := v108) kX6_explore rfl rfl (by omega) (by omega) e109 ?_
                    have b110 : (-2147483648) ≤ v108 ∧ v108 ≤ 2147483647 := by rw [← e109]; exact hI105.1 34 _
                    refine fz_ldc (x := (-1999999999)) kX6_explore rfl rfl rfl ?_
                    refine fz_icmp_eq (tgt := 200) kX6_explore rfl (by decide) (fun c111 => ?_) (fun c111 => ?_)
                    · refine fz_iincN (ls' := [(6, fz_i (x9 + 1)), (9, fz_i ((y27 * 97) + (hr + (h 3 (x9.toNat))))), (8, fz_i (hr + (h 3 (x9.toNat)))), (7, fz_i y27), (0, fz_r 33), (1, fz_i fr), (2, fz_i hr), (3, fz_i 3), (4, fz_i su), (5, fz_i rt)]) kX6_explore rfl (by decide) rfl (by omega) rfl ?_
                      refine fz_goto (tgt := 18) kX6_explore rfl (by decide) ?_
                      refine fz_sub (fz_pk_sub (ls' := [(6, fz_i (x9 + 1)), (0, fz_r 33), (1, fz_i fr), (2, fz_i hr), (3, fz_i 3), (4, fz_i su), (5, fz_i rt)]) [0, 4, 5, 6, 7, 8, 9] rfl) ?_
                      exact ih15 (x9 + 1) H104 hI105 hf106 (by omega) (by omega)
                    · refine fz_aload_n kX6_explore rfl rfl ?_
                      refine fz_iload kX6_explore rfl rfl ?_
                      refine fz_iload kX6_explore rfl rfl ?_
                      refine fz_iload_n kX6_explore rfl rfl ?_
                      refine fz_iconst ⟨by decide, by decide⟩ kX6_explore rfl ?_
                      refine fz_iaddN kX6_explore rfl ⟨by decide, by decide⟩ ?_
                      refine fz_eqi (y := 4) rfl ?_
                      refine fz_iload kX6_explore rfl rfl ?_
                      refine fz_aload_n kX6_explore rfl rfl ?_
                      refine fz_getR (t := 34) kX6_explore rfl rfl ?_
                      refine fz_iload kX6_explore rfl rfl ?_
                      obtain ⟨v112, e113⟩ : ∃ z, H104 34 (((y27 * 97) + (hr + (h 3 (x9.toNat)))).toNat) = z := ⟨_, rfl⟩
                      refine fz_ialdV (n := 776) (v := v112) kX6_explore rfl rfl (by omega) (by omega) e113 ?_
                      have b114 : (-2147483648) ≤ v112 ∧ v112 ≤ 2147483647 := by rw [← e113]; exact hI105.1 34 _
                      refine fz_iadd kX6_explore rfl ?_
                      refine fz_nmw (fun z115 e116 => ?_)
                      refine fz_iload kX6_explore rfl rfl ?_
                      refine fz_bipush ⟨by decide, by decide⟩ kX6_explore rfl ?_
                      refine fz_imul kX6_explore rfl ?_
                      refine fz_nmw (fun z117 e118 => ?_)
                      refine fz_iload kX6_explore rfl rfl ?_
                      refine fz_iadd kX6_explore rfl ?_
                      refine fz_nmw (fun z119 e120 => ?_)
                      refine fz_callV (d' := 1) (M' := mX6_explore) (As := [fz_i y27, fz_i (hr + (h 3 (x9.toNat))), fz_i 4, fz_i z115, fz_i z119]) (st := []) kX6_explore rfl rfl vX6_explore rfl rfl rfl rfl (Nat.le_of_ble_eq_true rfl) (Nat.le_of_ble_eq_true rfl) (by decide) (sX6_explore_4 H104 hI105 y27 (hr + (h 3 (x9.toNat))) z115 z119 (by omega) (by omega)) (fun H121 r122 q123 o124 => ?_)
                      obtain ⟨hI125, hf126, rfl⟩ := q123
                      clear o124
                      have hf127 := fz_fr_tr hf106 hf126 (show fz_su [(18, 99999), (19, 99999), (29, 99999), (33, 5), (33, 6), (33, 7), (34, 99999)] [(18, 99999), (19, 99999), (29, 99999), (33, 5), (33, 6), (33, 7), (34, 99999)] = true from rfl)
                      refine fz_iincN (ls' := [(6, fz_i (x9 + 1)), (9, fz_i ((y27 * 97) + (hr + (h 3 (x9.toNat))))), (8, fz_i (hr + (h 3 (x9.toNat)))), (7, fz_i y27), (0, fz_r 33), (1, fz_i fr), (2, fz_i hr), (3, fz_i 3), (4, fz_i su), (5, fz_i rt)]) kX6_explore rfl (by decide) rfl (by omega) rfl ?_
                      refine fz_goto (tgt := 18) kX6_explore rfl (by decide) ?_
                      refine fz_sub (fz_pk_sub (ls' := [(6, fz_i (x9 + 1)), (0, fz_r 33), (1, fz_i fr), (2, fz_i hr), (3, fz_i 3), (4, fz_i su), (5, fz_i rt)]) [0, 4, 5, 6, 7, 8, 9] rfl) ?_
                      exact ih15 (x9 + 1) H121 hI125 hf127 (by omega) (by omega)
              · refine fz_goto (tgt := 200) kX6_explore rfl (by decide) ?_
                refine fz_iincN (ls' := [(6, fz_i (x9 + 1)), (8, fz_i (hr + (h 3 (x9.toNat)))), (7, fz_i y27), (0, fz_r 33), (1, fz_i fr), (2, fz_i hr), (3, fz_i 3), (4, fz_i su), (5, fz_i rt)]) kX6_explore rfl (by decide) rfl (by omega) rfl ?_
                refine fz_goto (tgt := 18) kX6_explore rfl (by decide) ?_
                refine fz_sub (fz_pk_sub (ls' := [(6, fz_i (x9 + 1)), (0, fz_r 33), (1, fz_i fr), (2, fz_i hr), (3, fz_i 3), (4, fz_i su), (5, fz_i rt)]) [0, 3, 4, 5, 6, 7, 8] rfl) ?_
                exact ih15 (x9 + 1) H10 hI11 hf12 (by omega) (by omega)
    exact lp14 _ 0 H1 hI5 hf7 (by omega) (Nat.lt_succ_self _)
  · exfalso; omega

abbrev qX6_explore_2 (h : fz_H) (fr hr su rt : Int) : fz_H → Option fz_V → Prop := fun h' r0 => fz_Iv h' ∧ fz_fr [(18, 99999), (19, 99999), (29, 99999), (33, 5), (33, 6), (33, 7), (34, 99999)] h h' ∧ r0 = none
set_option maxHeartbeats 1000000 in
set_option maxRecDepth 100000 in
theorem sX6_explore_2 (h : fz_H) (hI : fz_Iv h) (fr hr su rt : Int) (hp0 : 0 ≤ fr ∧ fr < 8) (hp1 : 0 ≤ hr ∧ hr ≤ 96) : fz_R 6 mX6_explore 0 [(0, fz_r 33), (1, fz_i fr), (2, fz_i hr), (3, fz_i 2), (4, fz_i su), (5, fz_i rt)] [] h (qX6_explore_2 h fr hr su rt) := by
  refine fz_knowl (fun hk => ?_)
  have hr_fr : -2147483648 ≤ fr ∧ fr < 2147483648 := hk _ (List.Mem.tail _ (List.Mem.head _))
  have hr_hr : -2147483648 ≤ hr ∧ hr < 2147483648 := hk _ (List.Mem.tail _ (List.Mem.tail _ (List.Mem.head _)))
  have hr_su : -2147483648 ≤ su ∧ su < 2147483648 := hk _ (List.Mem.tail _ (List.Mem.tail _ (List.Mem.tail _ (List.Mem.tail _ (List.Mem.head _)))))
  have hr_rt : -2147483648 ≤ rt ∧ rt < 2147483648 := hk _ (List.Mem.tail _ (List.Mem.tail _ (List.Mem.tail _ (List.Mem.tail _ (List.Mem.tail _ (List.Mem.head _))))))
  clear hk
  have hf : fz_fr [(18, 99999), (19, 99999), (29, 99999), (33, 5), (33, 6), (33, 7), (34, 99999)] h h := fz_fr_rf
  refine fz_aload_n kX6_explore rfl rfl ?_
  refine fz_iload_n kX6_explore rfl rfl ?_
  refine fz_iload kX6_explore rfl rfl ?_
  refine fz_iload kX6_explore rfl rfl ?_
  refine fz_callV (d' := 0) (M' := mX6_compare) (As := [fz_i 2, fz_i su, fz_i rt]) (st := []) kX6_explore rfl rfl vX6_compare rfl rfl rfl rfl (Nat.le_of_ble_eq_true rfl) (Nat.le_of_ble_eq_true rfl) (by decide) (sX6_compare h hI 2 su rt (by omega)) (fun H1 r2 q3 o4 => ?_)
  obtain ⟨hI5, hf6, rfl⟩ := q3
  clear o4
  have hf7 := fz_fr_tr hf hf6 (show fz_su [(33, 5), (33, 6), (33, 7)] [(18, 99999), (19, 99999), (29, 99999), (33, 5), (33, 6), (33, 7), (34, 99999)] = true from rfl)
  refine fz_iload_n kX6_explore rfl rfl ?_
  refine fz_iconst ⟨by decide, by decide⟩ kX6_explore rfl ?_
  refine fz_icmp_lt (tgt := 15) kX6_explore rfl (by decide) (fun c8 => ?_) (fun c8 => ?_)
  · refine fz_iconst ⟨by decide, by decide⟩ kX6_explore rfl ?_
    refine fz_istore (ls' := [(6, fz_i 0), (0, fz_r 33), (1, fz_i fr), (2, fz_i hr), (3, fz_i 2), (4, fz_i su), (5, fz_i rt)]) kX6_explore rfl (by decide) rfl ?_
    have lp14 : ∀ (n13 : Nat) (x9 : Int) (H10 : fz_H), fz_Iv H10 → fz_fr [(18, 99999), (19, 99999), (29, 99999), (33, 5), (33, 6), (33, 7), (34, 99999)] h H10 → (0 ≤ x9 ∧ x9 ≤ 2147483647) → ((h 1 8) - x9).toNat < n13 → fz_R 6 mX6_explore 18 [(6, fz_i x9), (0, fz_r 33), (1, fz_i fr), (2, fz_i hr), (3, fz_i 2), (4, fz_i su), (5, fz_i rt)] [] H10 (qX6_explore_2 h fr hr su rt) := by
      intro n13
      induction n13 with
      | zero => intro x9 H10 hI11 hf12 hv17 hm16; exact absurd hm16 (by omega)
      | succ n13 ih15 =>
        intro x9 H10 hI11 hf12 hv17 hm16
        refine fz_iload kX6_explore rfl rfl ?_
        refine fz_aload_n kX6_explore rfl rfl ?_
        refine fz_getR (t := 1) kX6_explore rfl rfl ?_
        refine fz_getV (v := h 1 8) kX6_explore rfl rfl (hf12 1 8 rfl) ?_
        have b18 : 0 ≤ h 1 8 ∧ h 1 8 ≤ 12 := hI.1 1 _
        refine fz_icmp_ge (tgt := 206) kX6_explore rfl (by decide) (fun c19 => ?_) (fun c19 => ?_)
        · exact fz_vret kX6_explore rfl rfl ⟨hI11, hf12, rfl⟩
        · refine fz_aload_n kX6_explore rfl rfl ?_
          refine fz_getR (t := 1) kX6_explore rfl rfl ?_
          refine fz_iload kX6_explore rfl rfl ?_
          refine fz_iload_n kX6_explore rfl rfl ?_
          refine fz_callV (d' := 0) (M' := mX2_acrossFrom) (As := [fz_i x9, fz_i fr]) (st := []) kX6_explore rfl rfl vX2_acrossFrom rfl rfl rfl rfl (Nat.le_of_ble_eq_true rfl) (Nat.le_of_ble_eq_true rfl) (by decide) (sX2_acrossFrom H10 hI11 x9 fr (by omega)) (fun H20 r21 q22 o23 => ?_)
          obtain ⟨e24, y27, rfl, f25, f26⟩ := q22
          subst H20
          clear o23
          refine fz_istore (ls' := [(7, fz_i y27), (6, fz_i x9), (0, fz_r 33), (1, fz_i fr), (2, fz_i hr), (3, fz_i 2), (4, fz_i su), (5, fz_i rt)]) kX6_explore rfl (by decide) rfl ?_
          refine fz_iload_n kX6_explore rfl rfl ?_
          refine fz_aload_n kX6_explore rfl rfl ?_
          refine fz_getR (t := 1) kX6_explore rfl rfl ?_
          refine fz_getR (t := 3) kX6_explore rfl rfl ?_
          refine fz_iload kX6_explore rfl rfl ?_
          refine fz_ialdV (n := 12) (v := h 3 (x9.toNat)) kX6_explore rfl rfl (by omega) (by omega) (hf12 3 _ rfl) ?_
          have b28 : 0 ≤ h 3 (x9.toNat) ∧ h 3 (x9.toNat) ≤ 24 := hI.1 3 _
          refine fz_iaddN kX6_explore rfl (by omega) ?_
          refine fz_istore (ls' := [(8, fz_i (hr + (h 3 (x9.toNat)))), (7, fz_i y27), (6, fz_i x9), (0, fz_r 33), (1, fz_i fr), (2, fz_i hr), (3, fz_i 2), (4, fz_i su), (5, fz_i rt)]) kX6_explore rfl (by decide) rfl ?_
          refine fz_iload kX6_explore rfl rfl ?_
          refine fz_if_lt (tgt := 200) kX6_explore rfl (by decide) (fun c29 => ?_) (fun c29 => ?_)
          · refine fz_iincN (ls' := [(6, fz_i (x9 + 1)), (8, fz_i (hr + (h 3 (x9.toNat)))), (7, fz_i y27), (0, fz_r 33), (1, fz_i fr), (2, fz_i hr), (3, fz_i 2), (4, fz_i su), (5, fz_i rt)]) kX6_explore rfl (by decide) rfl (by omega) rfl ?_
            refine fz_goto (tgt := 18) kX6_explore rfl (by decide) ?_
            refine fz_sub (fz_pk_sub (ls' := [(6, fz_i (x9 + 1)), (0, fz_r 33), (1, fz_i fr), (2, fz_i hr), (3, fz_i 2), (4, fz_i su), (5, fz_i rt)]) [0, 3, 4, 5, 6, 7, 8] rfl) ?_
            exact ih15 (x9 + 1) H10 hI11 hf12 (by omega) (by omega)
          · refine fz_iload kX6_explore rfl rfl ?_
            refine fz_bipush ⟨by decide, by decide⟩ kX6_explore rfl ?_
            refine fz_icmp_ge (tgt := 200) kX6_explore rfl (by decide) (fun c30 => ?_) (fun c30 => ?_)
            · refine fz_iincN (ls' := [(6, fz_i (x9 + 1)), (8, fz_i (hr + (h 3 (x9.toNat)))), (7, fz_i y27), (0, fz_r 33), (1, fz_i fr), (2, fz_i hr), (3, fz_i 2), (4, fz_i su), (5, fz_i rt)]) kX6_explore rfl (by decide) rfl (by omega) rfl ?_
              refine fz_goto (tgt := 18) kX6_explore rfl (by decide) ?_
              refine fz_sub (fz_pk_sub (ls' := [(6, fz_i (x9 + 1)), (0, fz_r 33), (1, fz_i fr), (2, fz_i hr), (3, fz_i 2), (4, fz_i su), (5, fz_i rt)]) [0, 3, 4, 5, 6, 7, 8] rfl) ?_
              exact ih15 (x9 + 1) H10 hI11 hf12 (by omega) (by omega)
            · refine fz_aload_n kX6_explore rfl rfl ?_
              refine fz_getV (v := h 33 4) kX6_explore rfl rfl (hf12 33 4 rfl) ?_
              have b31 : 0 ≤ h 33 4 ∧ h 33 4 ≤ 999 := hI.1 33 _
              refine fz_iload kX6_explore rfl rfl ?_
              refine fz_iaddN kX6_explore rfl (by omega) ?_
              refine fz_sipush ⟨by decide, by decide⟩ kX6_explore rfl ?_
              refine fz_icmp_le (tgt := 84) kX6_explore rfl (by decide) (fun c32 => ?_) (fun c32 => ?_)
              · refine fz_iload kX6_explore rfl rfl ?_
                refine fz_bipush ⟨by decide, by decide⟩ kX6_explore rfl ?_
                refine fz_imulN kX6_explore rfl (by omega) ?_
                refine fz_iload kX6_explore rfl rfl ?_
                refine fz_iaddN kX6_explore rfl (by omega) ?_
                refine fz_istore (ls' := [(9, fz_i ((y27 * 97) + (hr + (h 3 (x9.toNat))))), (8, fz_i (hr + (h 3 (x9.toNat)))), (7, fz_i y27), (6, fz_i x9), (0, fz_r 33), (1, fz_i fr), (2, fz_i hr), (3, fz_i 2), (4, fz_i su), (5, fz_i rt)]) kX6_explore rfl (by decide) rfl ?_
                refine fz_aload_n kX6_explore rfl rfl ?_
                refine fz_getR (t := 34) kX6_explore rfl rfl ?_
                refine fz_iload kX6_explore rfl rfl ?_
                obtain ⟨v33, e34⟩ : ∃ z, H10 34 (((y27 * 97) + (hr + (h 3 (x9.toNat)))).toNat) = z := ⟨_, rfl⟩
                refine fz_ialdV (n := 776) (v := v33) kX6_explore rfl rfl (by omega) (by omega) e34 ?_
                have b35 : (-2147483648) ≤ v33 ∧ v33 ≤ 2147483647 := by rw [← e34]; exact hI11.1 34 _
                refine fz_ldc (x := (-2000000000)) kX6_explore rfl rfl rfl ?_
                refine fz_icmp_ne (tgt := 159) kX6_explore rfl (by decide) (fun c36 => ?_) (fun c36 => ?_)
                · refine fz_aload_n kX6_explore rfl rfl ?_
                  refine fz_getR (t := 34) kX6_explore rfl rfl ?_
                  refine fz_iload kX6_explore rfl rfl ?_
                  obtain ⟨v37, e38⟩ : ∃ z, H10 34 (((y27 * 97) + (hr + (h 3 (x9.toNat)))).toNat) = z := ⟨_, rfl⟩
                  refine fz_ialdV (n := 776) (v := v37) kX6_explore rfl rfl (by omega) (by omega) e38 ?_
                  have b39 : (-2147483648) ≤ v37 ∧ v37 ≤ 2147483647 := by rw [← e38]; exact hI11.1 34 _
                  refine fz_ldc (x := (-1999999999)) kX6_explore rfl rfl rfl ?_
                  refine fz_icmp_eq (tgt := 200) kX6_explore rfl (by decide) (fun c40 => ?_) (fun c40 => ?_)
                  · refine fz_iincN (ls' := [(6, fz_i (x9 + 1)), (9, fz_i ((y27 * 97) + (hr + (h 3 (x9.toNat))))), (8, fz_i (hr + (h 3 (x9.toNat)))), (7, fz_i y27), (0, fz_r 33), (1, fz_i fr), (2, fz_i hr), (3, fz_i 2), (4, fz_i su), (5, fz_i rt)]) kX6_explore rfl (by decide) rfl (by omega) rfl ?_
                    refine fz_goto (tgt := 18) kX6_explore rfl (by decide) ?_
                    refine fz_sub (fz_pk_sub (ls' := [(6, fz_i (x9 + 1)), (0, fz_r 33), (1, fz_i fr), (2, fz_i hr), (3, fz_i 2), (4, fz_i su), (5, fz_i rt)]) [0, 4, 5, 6, 7, 8, 9] rfl) ?_
                    exact ih15 (x9 + 1) H10 hI11 hf12 (by omega) (by omega)
                  · refine fz_aload_n kX6_explore rfl rfl ?_
                    refine fz_iload kX6_explore rfl rfl ?_
                    refine fz_iload kX6_explore rfl rfl ?_
                    refine fz_iload_n kX6_explore rfl rfl ?_
                    refine fz_iconst ⟨by decide, by decide⟩ kX6_explore rfl ?_
                    refine fz_iaddN kX6_explore rfl ⟨by decide, by decide⟩ ?_
                    refine fz_eqi (y := 3) rfl ?_
                    refine fz_iload kX6_explore rfl rfl ?_
                    refine fz_aload_n kX6_explore rfl rfl ?_
                    refine fz_getR (t := 34) kX6_explore rfl rfl ?_
                    refine fz_iload kX6_explore rfl rfl ?_
                    obtain ⟨v41, e42⟩ : ∃ z, H10 34 (((y27 * 97) + (hr + (h 3 (x9.toNat)))).toNat) = z := ⟨_, rfl⟩
                    refine fz_ialdV (n := 776) (v := v41) kX6_explore rfl rfl (by omega) (by omega) e42 ?_
                    have b43 : (-2147483648) ≤ v41 ∧ v41 ≤ 2147483647 := by rw [← e42]; exact hI11.1 34 _
                    refine fz_iadd kX6_explore rfl ?_
                    refine fz_nmw (fun z44 e45 => ?_)
                    refine fz_iload kX6_explore rfl rfl ?_
                    refine fz_bipush ⟨by decide, by decide⟩ kX6_explore rfl ?_
                    refine fz_imul kX6_explore rfl ?_
                    refine fz_nmw (fun z46 e47 => ?_)
                    refine fz_iload kX6_explore rfl rfl ?_
                    refine fz_iadd kX6_explore rfl ?_
                    refine fz_nmw (fun z48 e49 => ?_)
                    refine fz_callV (d' := 5) (M' := mX6_explore) (As := [fz_i y27, fz_i (hr + (h 3 (x9.toNat))), fz_i 3, fz_i z44, fz_i z48]) (st := []) kX6_explore rfl rfl vX6_explore rfl rfl rfl rfl (Nat.le_of_ble_eq_true rfl) (Nat.le_of_ble_eq_true rfl) (by decide) (sX6_explore_3 H10 hI11 y27 (hr + (h 3 (x9.toNat))) z44 z48 (by omega) (by omega)) (fun H50 r51 q52 o53 => ?_)
                    obtain ⟨hI54, hf55, rfl⟩ := q52
                    clear o53
                    have hf56 := fz_fr_tr hf12 hf55 (show fz_su [(18, 99999), (19, 99999), (29, 99999), (33, 5), (33, 6), (33, 7), (34, 99999)] [(18, 99999), (19, 99999), (29, 99999), (33, 5), (33, 6), (33, 7), (34, 99999)] = true from rfl)
                    refine fz_iincN (ls' := [(6, fz_i (x9 + 1)), (9, fz_i ((y27 * 97) + (hr + (h 3 (x9.toNat))))), (8, fz_i (hr + (h 3 (x9.toNat)))), (7, fz_i y27), (0, fz_r 33), (1, fz_i fr), (2, fz_i hr), (3, fz_i 2), (4, fz_i su), (5, fz_i rt)]) kX6_explore rfl (by decide) rfl (by omega) rfl ?_
                    refine fz_goto (tgt := 18) kX6_explore rfl (by decide) ?_
                    refine fz_sub (fz_pk_sub (ls' := [(6, fz_i (x9 + 1)), (0, fz_r 33), (1, fz_i fr), (2, fz_i hr), (3, fz_i 2), (4, fz_i su), (5, fz_i rt)]) [0, 4, 5, 6, 7, 8, 9] rfl) ?_
                    exact ih15 (x9 + 1) H50 hI54 hf56 (by omega) (by omega)
                · refine fz_aload_n kX6_explore rfl rfl ?_
                  refine fz_getR (t := 27) kX6_explore rfl rfl ?_
                  refine fz_aload_n kX6_explore rfl rfl ?_
                  refine fz_getV (v := h 33 3) kX6_explore rfl rfl (hf12 33 3 rfl) ?_
                  have b57 : 0 ≤ h 33 3 ∧ h 33 3 ≤ 3 := hI.1 33 _
                  refine fz_aload_n kX6_explore rfl rfl ?_
                  refine fz_getV (v := h 33 3) kX6_explore rfl rfl (hf12 33 3 rfl) ?_
                  refine fz_iload kX6_explore rfl rfl ?_
                  refine fz_aload_n kX6_explore rfl rfl ?_
                  refine fz_getV (v := h 33 4) kX6_explore rfl rfl (hf12 33 4 rfl) ?_
                  refine fz_iload kX6_explore rfl rfl ?_
                  refine fz_iaddN kX6_explore rfl (by omega) ?_
                  refine fz_callV (d' := 4) (M' := mX8_listen) (As := [fz_i (h 33 3), fz_i (h 33 3), fz_i y27, fz_i ((h 33 4) + (hr + (h 3 (x9.toNat))))]) (st := []) kX6_explore rfl rfl vX8_listen rfl rfl rfl rfl (Nat.le_of_ble_eq_true rfl) (Nat.le_of_ble_eq_true rfl) (by decide) (sX8_listen H10 hI11 (h 33 3) (h 33 3) y27 ((h 33 4) + (hr + (h 3 (x9.toNat)))) (by omega)) (fun H58 r59 q60 o61 => ?_)
                  obtain ⟨hI62, hf63, rfl⟩ := q60
                  clear o61
                  have hf64 := fz_fr_tr hf12 hf63 (show fz_su [(18, 99999), (19, 99999), (29, 99999)] [(18, 99999), (19, 99999), (29, 99999), (33, 5), (33, 6), (33, 7), (34, 99999)] = true from rfl)
                  refine fz_aload_n kX6_explore rfl rfl ?_
                  refine fz_getR (t := 34) kX6_explore rfl rfl ?_
                  refine fz_iload kX6_explore rfl rfl ?_
                  refine fz_aload_n kX6_explore rfl rfl ?_
                  refine fz_getR (t := 27) kX6_explore rfl rfl ?_
                  refine fz_callV (d' := 1) (M' := mX8_isArrested) (As := []) (st := [fz_i ((y27 * 97) + (hr + (h 3 (x9.toNat)))), fz_r 34]) kX6_explore rfl rfl vX8_isArrested rfl rfl rfl rfl (Nat.le_of_ble_eq_true rfl) (Nat.le_of_ble_eq_true rfl) (by decide) (sX8_isArrested H58 hI62  ) (fun H65 r66 q67 o68 => ?_)
                  obtain ⟨e69, y70, rfl, p71⟩ := q67
                  subst H65
                  clear o68
                  refine fz_if_eq (tgt := 151) kX6_explore rfl (by decide) (fun c72 => ?_) (fun c72 => ?_)
                  · refine fz_aload_n kX6_explore rfl rfl ?_
                    refine fz_getR (t := 27) kX6_explore rfl rfl ?_
                    refine fz_callV (d' := 0) (M' := mX8_reception) (As := []) (st := [fz_i ((y27 * 97) + (hr + (h 3 (x9.toNat)))), fz_r 34]) kX6_explore rfl rfl vX8_reception rfl rfl rfl rfl (Nat.le_of_ble_eq_true rfl) (Nat.le_of_ble_eq_true rfl) (by decide) (sX8_reception H58 hI62  ) (fun H73 r74 q75 o76 => ?_)
                    obtain ⟨e77, y79, rfl, f78⟩ := q75
                    subst H73
                    clear o76
                    refine fz_iast (n := 776) kX6_explore rfl rfl (by omega) (by omega) ?_
                    refine fz_nmu (S := [(18, 99999), (19, 99999), (29, 99999), (33, 5), (33, 6), (33, 7), (34, 99999)]) (h0 := h) (fz_Iv_up hI62 (by decide) (show (-2147483648) ≤ y79 by omega) (show y79 ≤ 2147483647 by omega)) (fz_fr_up hf64 rfl) (fun H80 hI81 hf82 e83 => ?_)
                    clear e83
                    refine fz_aload_n kX6_explore rfl rfl ?_
                    refine fz_getR (t := 34) kX6_explore rfl rfl ?_
                    refine fz_iload kX6_explore rfl rfl ?_
                    obtain ⟨v84, e85⟩ : ∃ z, H80 34 (((y27 * 97) + (hr + (h 3 (x9.toNat)))).toNat) = z := ⟨_, rfl⟩
                    refine fz_ialdV (n := 776) (v := v84) kX6_explore rfl rfl (by omega) (by omega) e85 ?_
                    have b86 : (-2147483648) ≤ v84 ∧ v84 ≤ 2147483647 := by rw [← e85]; exact hI81.1 34 _
                    refine fz_ldc (x := (-1999999999)) kX6_explore rfl rfl rfl ?_
                    refine fz_icmp_eq (tgt := 200) kX6_explore rfl (by decide) (fun c87 => ?_) (fun c87 => ?_)
                    · refine fz_iincN (ls' := [(6, fz_i (x9 + 1)), (9, fz_i ((y27 * 97) + (hr + (h 3 (x9.toNat))))), (8, fz_i (hr + (h 3 (x9.toNat)))), (7, fz_i y27), (0, fz_r 33), (1, fz_i fr), (2, fz_i hr), (3, fz_i 2), (4, fz_i su), (5, fz_i rt)]) kX6_explore rfl (by decide) rfl (by omega) rfl ?_
                      refine fz_goto (tgt := 18) kX6_explore rfl (by decide) ?_
                      refine fz_sub (fz_pk_sub (ls' := [(6, fz_i (x9 + 1)), (0, fz_r 33), (1, fz_i fr), (2, fz_i hr), (3, fz_i 2), (4, fz_i su), (5, fz_i rt)]) [0, 4, 5, 6, 7, 8, 9] rfl) ?_
                      exact ih15 (x9 + 1) H80 hI81 hf82 (by omega) (by omega)
                    · refine fz_aload_n kX6_explore rfl rfl ?_
                      refine fz_iload kX6_explore rfl rfl ?_
                      refine fz_iload kX6_explore rfl rfl ?_
                      refine fz_iload_n kX6_explore rfl rfl ?_
                      refine fz_iconst ⟨by decide, by decide⟩ kX6_explore rfl ?_
                      refine fz_iaddN kX6_explore rfl ⟨by decide, by decide⟩ ?_
                      refine fz_eqi (y := 3) rfl ?_
                      refine fz_iload kX6_explore rfl rfl ?_
                      refine fz_aload_n kX6_explore rfl rfl ?_
                      refine fz_getR (t := 34) kX6_explore rfl rfl ?_
                      refine fz_iload kX6_explore rfl rfl ?_
                      obtain ⟨v88, e89⟩ : ∃ z, H80 34 (((y27 * 97) + (hr + (h 3 (x9.toNat)))).toNat) = z := ⟨_, rfl⟩
                      refine fz_ialdV (n := 776) (v := v88) kX6_explore rfl rfl (by omega) (by omega) e89 ?_
                      have b90 : (-2147483648) ≤ v88 ∧ v88 ≤ 2147483647 := by rw [← e89]; exact hI81.1 34 _
                      refine fz_iadd kX6_explore rfl ?_
                      refine fz_nmw (fun z91 e92 => ?_)
                      refine fz_iload kX6_explore rfl rfl ?_
                      refine fz_bipush ⟨by decide, by decide⟩ kX6_explore rfl ?_
                      refine fz_imul kX6_explore rfl ?_
                      refine fz_nmw (fun z93 e94 => ?_)
                      refine fz_iload kX6_explore rfl rfl ?_
                      refine fz_iadd kX6_explore rfl ?_
                      refine fz_nmw (fun z95 e96 => ?_)
                      refine fz_callV (d' := 5) (M' := mX6_explore) (As := [fz_i y27, fz_i (hr + (h 3 (x9.toNat))), fz_i 3, fz_i z91, fz_i z95]) (st := []) kX6_explore rfl rfl vX6_explore rfl rfl rfl rfl (Nat.le_of_ble_eq_true rfl) (Nat.le_of_ble_eq_true rfl) (by decide) (sX6_explore_3 H80 hI81 y27 (hr + (h 3 (x9.toNat))) z91 z95 (by omega) (by omega)) (fun H97 r98 q99 o100 => ?_)
                      obtain ⟨hI101, hf102, rfl⟩ := q99
                      clear o100
                      have hf103 := fz_fr_tr hf82 hf102 (show fz_su [(18, 99999), (19, 99999), (29, 99999), (33, 5), (33, 6), (33, 7), (34, 99999)] [(18, 99999), (19, 99999), (29, 99999), (33, 5), (33, 6), (33, 7), (34, 99999)] = true from rfl)
                      refine fz_iincN (ls' := [(6, fz_i (x9 + 1)), (9, fz_i ((y27 * 97) + (hr + (h 3 (x9.toNat))))), (8, fz_i (hr + (h 3 (x9.toNat)))), (7, fz_i y27), (0, fz_r 33), (1, fz_i fr), (2, fz_i hr), (3, fz_i 2), (4, fz_i su), (5, fz_i rt)]) kX6_explore rfl (by decide) rfl (by omega) rfl ?_
                      refine fz_goto (tgt := 18) kX6_explore rfl (by decide) ?_
                      refine fz_sub (fz_pk_sub (ls' := [(6, fz_i (x9 + 1)), (0, fz_r 33), (1, fz_i fr), (2, fz_i hr), (3, fz_i 2), (4, fz_i su), (5, fz_i rt)]) [0, 4, 5, 6, 7, 8, 9] rfl) ?_
                      exact ih15 (x9 + 1) H97 hI101 hf103 (by omega) (by omega)
                  · refine fz_ldc (x := (-1999999999)) kX6_explore rfl rfl rfl ?_
                    refine fz_goto (tgt := 158) kX6_explore rfl (by decide) ?_
                    refine fz_iast (n := 776) kX6_explore rfl rfl (by omega) (by omega) ?_
                    refine fz_nmu (S := [(18, 99999), (19, 99999), (29, 99999), (33, 5), (33, 6), (33, 7), (34, 99999)]) (h0 := h) (fz_Iv_up hI62 (by decide) (show (-2147483648) ≤ (-1999999999) by omega) (show (-1999999999) ≤ 2147483647 by omega)) (fz_fr_up hf64 rfl) (fun H104 hI105 hf106 e107 => ?_)
                    clear e107
                    refine fz_aload_n kX6_explore rfl rfl ?_
                    refine fz_getR (t := 34) kX6_explore rfl rfl ?_
                    refine fz_iload kX6_explore rfl rfl ?_
                    obtain ⟨v108, e109⟩ : ∃ z, H104 34 (((y27 * 97) + (hr + (h 3 (x9.toNat)))).toNat) = z := ⟨_, rfl⟩
                    refine fz_ialdV (n := 776) (v := v108) kX6_explore rfl rfl (by omega) (by omega) e109 ?_
                    have b110 : (-2147483648) ≤ v108 ∧ v108 ≤ 2147483647 := by rw [← e109]; exact hI105.1 34 _
                    refine fz_ldc (x := (-1999999999)) kX6_explore rfl rfl rfl ?_
                    refine fz_icmp_eq (tgt := 200) kX6_explore rfl (by decide) (fun c111 => ?_) (fun c111 => ?_)
                    · refine fz_iincN (ls' := [(6, fz_i (x9 + 1)), (9, fz_i ((y27 * 97) + (hr + (h 3 (x9.toNat))))), (8, fz_i (hr + (h 3 (x9.toNat)))), (7, fz_i y27), (0, fz_r 33), (1, fz_i fr), (2, fz_i hr), (3, fz_i 2), (4, fz_i su), (5, fz_i rt)]) kX6_explore rfl (by decide) rfl (by omega) rfl ?_
                      refine fz_goto (tgt := 18) kX6_explore rfl (by decide) ?_
                      refine fz_sub (fz_pk_sub (ls' := [(6, fz_i (x9 + 1)), (0, fz_r 33), (1, fz_i fr), (2, fz_i hr), (3, fz_i 2), (4, fz_i su), (5, fz_i rt)]) [0, 4, 5, 6, 7, 8, 9] rfl) ?_
                      exact ih15 (x9 + 1) H104 hI105 hf106 (by omega) (by omega)
                    · refine fz_aload_n kX6_explore rfl rfl ?_
                      refine fz_iload kX6_explore rfl rfl ?_
                      refine fz_iload kX6_explore rfl rfl ?_
                      refine fz_iload_n kX6_explore rfl rfl ?_
                      refine fz_iconst ⟨by decide, by decide⟩ kX6_explore rfl ?_
                      refine fz_iaddN kX6_explore rfl ⟨by decide, by decide⟩ ?_
                      refine fz_eqi (y := 3) rfl ?_
                      refine fz_iload kX6_explore rfl rfl ?_
                      refine fz_aload_n kX6_explore rfl rfl ?_
                      refine fz_getR (t := 34) kX6_explore rfl rfl ?_
                      refine fz_iload kX6_explore rfl rfl ?_
                      obtain ⟨v112, e113⟩ : ∃ z, H104 34 (((y27 * 97) + (hr + (h 3 (x9.toNat)))).toNat) = z := ⟨_, rfl⟩
                      refine fz_ialdV (n := 776) (v := v112) kX6_explore rfl rfl (by omega) (by omega) e113 ?_
                      have b114 : (-2147483648) ≤ v112 ∧ v112 ≤ 2147483647 := by rw [← e113]; exact hI105.1 34 _
                      refine fz_iadd kX6_explore rfl ?_
                      refine fz_nmw (fun z115 e116 => ?_)
                      refine fz_iload kX6_explore rfl rfl ?_
                      refine fz_bipush ⟨by decide, by decide⟩ kX6_explore rfl ?_
                      refine fz_imul kX6_explore rfl ?_
                      refine fz_nmw (fun z117 e118 => ?_)
                      refine fz_iload kX6_explore rfl rfl ?_
                      refine fz_iadd kX6_explore rfl ?_
                      refine fz_nmw (fun z119 e120 => ?_)
                      refine fz_callV (d' := 5) (M' := mX6_explore) (As := [fz_i y27, fz_i (hr + (h 3 (x9.toNat))), fz_i 3, fz_i z115, fz_i z119]) (st := []) kX6_explore rfl rfl vX6_explore rfl rfl rfl rfl (Nat.le_of_ble_eq_true rfl) (Nat.le_of_ble_eq_true rfl) (by decide) (sX6_explore_3 H104 hI105 y27 (hr + (h 3 (x9.toNat))) z115 z119 (by omega) (by omega)) (fun H121 r122 q123 o124 => ?_)
                      obtain ⟨hI125, hf126, rfl⟩ := q123
                      clear o124
                      have hf127 := fz_fr_tr hf106 hf126 (show fz_su [(18, 99999), (19, 99999), (29, 99999), (33, 5), (33, 6), (33, 7), (34, 99999)] [(18, 99999), (19, 99999), (29, 99999), (33, 5), (33, 6), (33, 7), (34, 99999)] = true from rfl)
                      refine fz_iincN (ls' := [(6, fz_i (x9 + 1)), (9, fz_i ((y27 * 97) + (hr + (h 3 (x9.toNat))))), (8, fz_i (hr + (h 3 (x9.toNat)))), (7, fz_i y27), (0, fz_r 33), (1, fz_i fr), (2, fz_i hr), (3, fz_i 2), (4, fz_i su), (5, fz_i rt)]) kX6_explore rfl (by decide) rfl (by omega) rfl ?_
                      refine fz_goto (tgt := 18) kX6_explore rfl (by decide) ?_
                      refine fz_sub (fz_pk_sub (ls' := [(6, fz_i (x9 + 1)), (0, fz_r 33), (1, fz_i fr), (2, fz_i hr), (3, fz_i 2), (4, fz_i su), (5, fz_i rt)]) [0, 4, 5, 6, 7, 8, 9] rfl) ?_
                      exact ih15 (x9 + 1) H121 hI125 hf127 (by omega) (by omega)
              · refine fz_goto (tgt := 200) kX6_explore rfl (by decide) ?_
                refine fz_iincN (ls' := [(6, fz_i (x9 + 1)), (8, fz_i (hr + (h 3 (x9.toNat)))), (7, fz_i y27), (0, fz_r 33), (1, fz_i fr), (2, fz_i hr), (3, fz_i 2), (4, fz_i su), (5, fz_i rt)]) kX6_explore rfl (by decide) rfl (by omega) rfl ?_
                refine fz_goto (tgt := 18) kX6_explore rfl (by decide) ?_
                refine fz_sub (fz_pk_sub (ls' := [(6, fz_i (x9 + 1)), (0, fz_r 33), (1, fz_i fr), (2, fz_i hr), (3, fz_i 2), (4, fz_i su), (5, fz_i rt)]) [0, 3, 4, 5, 6, 7, 8] rfl) ?_
                exact ih15 (x9 + 1) H10 hI11 hf12 (by omega) (by omega)
    exact lp14 _ 0 H1 hI5 hf7 (by omega) (Nat.lt_succ_self _)
  · exfalso; omega

abbrev qX6_explore_1 (h : fz_H) (fr hr su rt : Int) : fz_H → Option fz_V → Prop := fun h' r0 => fz_Iv h' ∧ fz_fr [(18, 99999), (19, 99999), (29, 99999), (33, 5), (33, 6), (33, 7), (34, 99999)] h h' ∧ r0 = none
set_option maxHeartbeats 1000000 in
set_option maxRecDepth 100000 in
theorem sX6_explore_1 (h : fz_H) (hI : fz_Iv h) (fr hr su rt : Int) (hp0 : 0 ≤ fr ∧ fr < 8) (hp1 : 0 ≤ hr ∧ hr ≤ 96) : fz_R 7 mX6_explore 0 [(0, fz_r 33), (1, fz_i fr), (2, fz_i hr), (3, fz_i 1), (4, fz_i su), (5, fz_i rt)] [] h (qX6_explore_1 h fr hr su rt) := by
  refine fz_knowl (fun hk => ?_)
  have hr_fr : -2147483648 ≤ fr ∧ fr < 2147483648 := hk _ (List.Mem.tail _ (List.Mem.head _))
  have hr_hr : -2147483648 ≤ hr ∧ hr < 2147483648 := hk _ (List.Mem.tail _ (List.Mem.tail _ (List.Mem.head _)))
  have hr_su : -2147483648 ≤ su ∧ su < 2147483648 := hk _ (List.Mem.tail _ (List.Mem.tail _ (List.Mem.tail _ (List.Mem.tail _ (List.Mem.head _)))))
  have hr_rt : -2147483648 ≤ rt ∧ rt < 2147483648 := hk _ (List.Mem.tail _ (List.Mem.tail _ (List.Mem.tail _ (List.Mem.tail _ (List.Mem.tail _ (List.Mem.head _))))))
  clear hk
  have hf : fz_fr [(18, 99999), (19, 99999), (29, 99999), (33, 5), (33, 6), (33, 7), (34, 99999)] h h := fz_fr_rf
  refine fz_aload_n kX6_explore rfl rfl ?_
  refine fz_iload_n kX6_explore rfl rfl ?_
  refine fz_iload kX6_explore rfl rfl ?_
  refine fz_iload kX6_explore rfl rfl ?_
  refine fz_callV (d' := 0) (M' := mX6_compare) (As := [fz_i 1, fz_i su, fz_i rt]) (st := []) kX6_explore rfl rfl vX6_compare rfl rfl rfl rfl (Nat.le_of_ble_eq_true rfl) (Nat.le_of_ble_eq_true rfl) (by decide) (sX6_compare h hI 1 su rt (by omega)) (fun H1 r2 q3 o4 => ?_)
  obtain ⟨hI5, hf6, rfl⟩ := q3
  clear o4
  have hf7 := fz_fr_tr hf hf6 (show fz_su [(33, 5), (33, 6), (33, 7)] [(18, 99999), (19, 99999), (29, 99999), (33, 5), (33, 6), (33, 7), (34, 99999)] = true from rfl)
  refine fz_iload_n kX6_explore rfl rfl ?_
  refine fz_iconst ⟨by decide, by decide⟩ kX6_explore rfl ?_
  refine fz_icmp_lt (tgt := 15) kX6_explore rfl (by decide) (fun c8 => ?_) (fun c8 => ?_)
  · refine fz_iconst ⟨by decide, by decide⟩ kX6_explore rfl ?_
    refine fz_istore (ls' := [(6, fz_i 0), (0, fz_r 33), (1, fz_i fr), (2, fz_i hr), (3, fz_i 1), (4, fz_i su), (5, fz_i rt)]) kX6_explore rfl (by decide) rfl ?_
    have lp14 : ∀ (n13 : Nat) (x9 : Int) (H10 : fz_H), fz_Iv H10 → fz_fr [(18, 99999), (19, 99999), (29, 99999), (33, 5), (33, 6), (33, 7), (34, 99999)] h H10 → (0 ≤ x9 ∧ x9 ≤ 2147483647) → ((h 1 8) - x9).toNat < n13 → fz_R 7 mX6_explore 18 [(6, fz_i x9), (0, fz_r 33), (1, fz_i fr), (2, fz_i hr), (3, fz_i 1), (4, fz_i su), (5, fz_i rt)] [] H10 (qX6_explore_1 h fr hr su rt) := by
      intro n13
      induction n13 with
      | zero => intro x9 H10 hI11 hf12 hv17 hm16; exact absurd hm16 (by omega)
      | succ n13 ih15 =>
        intro x9 H10 hI11 hf12 hv17 hm16
        refine fz_iload kX6_explore rfl rfl ?_
        refine fz_aload_n kX6_explore rfl rfl ?_
        refine fz_getR (t := 1) kX6_explore rfl rfl ?_
        refine fz_getV (v := h 1 8) kX6_explore rfl rfl (hf12 1 8 rfl) ?_
        have b18 : 0 ≤ h 1 8 ∧ h 1 8 ≤ 12 := hI.1 1 _
        refine fz_icmp_ge (tgt := 206) kX6_explore rfl (by decide) (fun c19 => ?_) (fun c19 => ?_)
        · exact fz_vret kX6_explore rfl rfl ⟨hI11, hf12, rfl⟩
        · refine fz_aload_n kX6_explore rfl rfl ?_
          refine fz_getR (t := 1) kX6_explore rfl rfl ?_
          refine fz_iload kX6_explore rfl rfl ?_
          refine fz_iload_n kX6_explore rfl rfl ?_
          refine fz_callV (d' := 0) (M' := mX2_acrossFrom) (As := [fz_i x9, fz_i fr]) (st := []) kX6_explore rfl rfl vX2_acrossFrom rfl rfl rfl rfl (Nat.le_of_ble_eq_true rfl) (Nat.le_of_ble_eq_true rfl) (by decide) (sX2_acrossFrom H10 hI11 x9 fr (by omega)) (fun H20 r21 q22 o23 => ?_)
          obtain ⟨e24, y27, rfl, f25, f26⟩ := q22
          subst H20
          clear o23
          refine fz_istore (ls' := [(7, fz_i y27), (6, fz_i x9), (0, fz_r 33), (1, fz_i fr), (2, fz_i hr), (3, fz_i 1), (4, fz_i su), (5, fz_i rt)]) kX6_explore rfl (by decide) rfl ?_
          refine fz_iload_n kX6_explore rfl rfl ?_
          refine fz_aload_n kX6_explore rfl rfl ?_
          refine fz_getR (t := 1) kX6_explore rfl rfl ?_
          refine fz_getR (t := 3) kX6_explore rfl rfl ?_
          refine fz_iload kX6_explore rfl rfl ?_
          refine fz_ialdV (n := 12) (v := h 3 (x9.toNat)) kX6_explore rfl rfl (by omega) (by omega) (hf12 3 _ rfl) ?_
          have b28 : 0 ≤ h 3 (x9.toNat) ∧ h 3 (x9.toNat) ≤ 24 := hI.1 3 _
          refine fz_iaddN kX6_explore rfl (by omega) ?_
          refine fz_istore (ls' := [(8, fz_i (hr + (h 3 (x9.toNat)))), (7, fz_i y27), (6, fz_i x9), (0, fz_r 33), (1, fz_i fr), (2, fz_i hr), (3, fz_i 1), (4, fz_i su), (5, fz_i rt)]) kX6_explore rfl (by decide) rfl ?_
          refine fz_iload kX6_explore rfl rfl ?_
          refine fz_if_lt (tgt := 200) kX6_explore rfl (by decide) (fun c29 => ?_) (fun c29 => ?_)
          · refine fz_iincN (ls' := [(6, fz_i (x9 + 1)), (8, fz_i (hr + (h 3 (x9.toNat)))), (7, fz_i y27), (0, fz_r 33), (1, fz_i fr), (2, fz_i hr), (3, fz_i 1), (4, fz_i su), (5, fz_i rt)]) kX6_explore rfl (by decide) rfl (by omega) rfl ?_
            refine fz_goto (tgt := 18) kX6_explore rfl (by decide) ?_
            refine fz_sub (fz_pk_sub (ls' := [(6, fz_i (x9 + 1)), (0, fz_r 33), (1, fz_i fr), (2, fz_i hr), (3, fz_i 1), (4, fz_i su), (5, fz_i rt)]) [0, 3, 4, 5, 6, 7, 8] rfl) ?_
            exact ih15 (x9 + 1) H10 hI11 hf12 (by omega) (by omega)
          · refine fz_iload kX6_explore rfl rfl ?_
            refine fz_bipush ⟨by decide, by decide⟩ kX6_explore rfl ?_
            refine fz_icmp_ge (tgt := 200) kX6_explore rfl (by decide) (fun c30 => ?_) (fun c30 => ?_)
            · refine fz_iincN (ls' := [(6, fz_i (x9 + 1)), (8, fz_i (hr + (h 3 (x9.toNat)))), (7, fz_i y27), (0, fz_r 33), (1, fz_i fr), (2, fz_i hr), (3, fz_i 1), (4, fz_i su), (5, fz_i rt)]) kX6_explore rfl (by decide) rfl (by omega) rfl ?_
              refine fz_goto (tgt := 18) kX6_explore rfl (by decide) ?_
              refine fz_sub (fz_pk_sub (ls' := [(6, fz_i (x9 + 1)), (0, fz_r 33), (1, fz_i fr), (2, fz_i hr), (3, fz_i 1), (4, fz_i su), (5, fz_i rt)]) [0, 3, 4, 5, 6, 7, 8] rfl) ?_
              exact ih15 (x9 + 1) H10 hI11 hf12 (by omega) (by omega)
            · refine fz_aload_n kX6_explore rfl rfl ?_
              refine fz_getV (v := h 33 4) kX6_explore rfl rfl (hf12 33 4 rfl) ?_
              have b31 : 0 ≤ h 33 4 ∧ h 33 4 ≤ 999 := hI.1 33 _
              refine fz_iload kX6_explore rfl rfl ?_
              refine fz_iaddN kX6_explore rfl (by omega) ?_
              refine fz_sipush ⟨by decide, by decide⟩ kX6_explore rfl ?_
              refine fz_icmp_le (tgt := 84) kX6_explore rfl (by decide) (fun c32 => ?_) (fun c32 => ?_)
              · refine fz_iload kX6_explore rfl rfl ?_
                refine fz_bipush ⟨by decide, by decide⟩ kX6_explore rfl ?_
                refine fz_imulN kX6_explore rfl (by omega) ?_
                refine fz_iload kX6_explore rfl rfl ?_
                refine fz_iaddN kX6_explore rfl (by omega) ?_
                refine fz_istore (ls' := [(9, fz_i ((y27 * 97) + (hr + (h 3 (x9.toNat))))), (8, fz_i (hr + (h 3 (x9.toNat)))), (7, fz_i y27), (6, fz_i x9), (0, fz_r 33), (1, fz_i fr), (2, fz_i hr), (3, fz_i 1), (4, fz_i su), (5, fz_i rt)]) kX6_explore rfl (by decide) rfl ?_
                refine fz_aload_n kX6_explore rfl rfl ?_
                refine fz_getR (t := 34) kX6_explore rfl rfl ?_
                refine fz_iload kX6_explore rfl rfl ?_
                obtain ⟨v33, e34⟩ : ∃ z, H10 34 (((y27 * 97) + (hr + (h 3 (x9.toNat)))).toNat) = z := ⟨_, rfl⟩
                refine fz_ialdV (n := 776) (v := v33) kX6_explore rfl rfl (by omega) (by omega) e34 ?_
                have b35 : (-2147483648) ≤ v33 ∧ v33 ≤ 2147483647 := by rw [← e34]; exact hI11.1 34 _
                refine fz_ldc (x := (-2000000000)) kX6_explore rfl rfl rfl ?_
                refine fz_icmp_ne (tgt := 159) kX6_explore rfl (by decide) (fun c36 => ?_) (fun c36 => ?_)
                · refine fz_aload_n kX6_explore rfl rfl ?_
                  refine fz_getR (t := 34) kX6_explore rfl rfl ?_
                  refine fz_iload kX6_explore rfl rfl ?_
                  obtain ⟨v37, e38⟩ : ∃ z, H10 34 (((y27 * 97) + (hr + (h 3 (x9.toNat)))).toNat) = z := ⟨_, rfl⟩
                  refine fz_ialdV (n := 776) (v := v37) kX6_explore rfl rfl (by omega) (by omega) e38 ?_
                  have b39 : (-2147483648) ≤ v37 ∧ v37 ≤ 2147483647 := by rw [← e38]; exact hI11.1 34 _
                  refine fz_ldc (x := (-1999999999)) kX6_explore rfl rfl rfl ?_
                  refine fz_icmp_eq (tgt := 200) kX6_explore rfl (by decide) (fun c40 => ?_) (fun c40 => ?_)
                  · refine fz_iincN (ls' := [(6, fz_i (x9 + 1)), (9, fz_i ((y27 * 97) + (hr + (h 3 (x9.toNat))))), (8, fz_i (hr + (h 3 (x9.toNat)))), (7, fz_i y27), (0, fz_r 33), (1, fz_i fr), (2, fz_i hr), (3, fz_i 1), (4, fz_i su), (5, fz_i rt)]) kX6_explore rfl (by decide) rfl (by omega) rfl ?_
                    refine fz_goto (tgt := 18) kX6_explore rfl (by decide) ?_
                    refine fz_sub (fz_pk_sub (ls' := [(6, fz_i (x9 + 1)), (0, fz_r 33), (1, fz_i fr), (2, fz_i hr), (3, fz_i 1), (4, fz_i su), (5, fz_i rt)]) [0, 4, 5, 6, 7, 8, 9] rfl) ?_
                    exact ih15 (x9 + 1) H10 hI11 hf12 (by omega) (by omega)
                  · refine fz_aload_n kX6_explore rfl rfl ?_
                    refine fz_iload kX6_explore rfl rfl ?_
                    refine fz_iload kX6_explore rfl rfl ?_
                    refine fz_iload_n kX6_explore rfl rfl ?_
                    refine fz_iconst ⟨by decide, by decide⟩ kX6_explore rfl ?_
                    refine fz_iaddN kX6_explore rfl ⟨by decide, by decide⟩ ?_
                    refine fz_eqi (y := 2) rfl ?_
                    refine fz_iload kX6_explore rfl rfl ?_
                    refine fz_aload_n kX6_explore rfl rfl ?_
                    refine fz_getR (t := 34) kX6_explore rfl rfl ?_
                    refine fz_iload kX6_explore rfl rfl ?_
                    obtain ⟨v41, e42⟩ : ∃ z, H10 34 (((y27 * 97) + (hr + (h 3 (x9.toNat)))).toNat) = z := ⟨_, rfl⟩
                    refine fz_ialdV (n := 776) (v := v41) kX6_explore rfl rfl (by omega) (by omega) e42 ?_
                    have b43 : (-2147483648) ≤ v41 ∧ v41 ≤ 2147483647 := by rw [← e42]; exact hI11.1 34 _
                    refine fz_iadd kX6_explore rfl ?_
                    refine fz_nmw (fun z44 e45 => ?_)
                    refine fz_iload kX6_explore rfl rfl ?_
                    refine fz_bipush ⟨by decide, by decide⟩ kX6_explore rfl ?_
                    refine fz_imul kX6_explore rfl ?_
                    refine fz_nmw (fun z46 e47 => ?_)
                    refine fz_iload kX6_explore rfl rfl ?_
                    refine fz_iadd kX6_explore rfl ?_
                    refine fz_nmw (fun z48 e49 => ?_)
                    refine fz_callV (d' := 6) (M' := mX6_explore) (As := [fz_i y27, fz_i (hr + (h 3 (x9.toNat))), fz_i 2, fz_i z44, fz_i z48]) (st := []) kX6_explore rfl rfl vX6_explore rfl rfl rfl rfl (Nat.le_of_ble_eq_true rfl) (Nat.le_of_ble_eq_true rfl) (by decide) (sX6_explore_2 H10 hI11 y27 (hr + (h 3 (x9.toNat))) z44 z48 (by omega) (by omega)) (fun H50 r51 q52 o53 => ?_)
                    obtain ⟨hI54, hf55, rfl⟩ := q52
                    clear o53
                    have hf56 := fz_fr_tr hf12 hf55 (show fz_su [(18, 99999), (19, 99999), (29, 99999), (33, 5), (33, 6), (33, 7), (34, 99999)] [(18, 99999), (19, 99999), (29, 99999), (33, 5), (33, 6), (33, 7), (34, 99999)] = true from rfl)
                    refine fz_iincN (ls' := [(6, fz_i (x9 + 1)), (9, fz_i ((y27 * 97) + (hr + (h 3 (x9.toNat))))), (8, fz_i (hr + (h 3 (x9.toNat)))), (7, fz_i y27), (0, fz_r 33), (1, fz_i fr), (2, fz_i hr), (3, fz_i 1), (4, fz_i su), (5, fz_i rt)]) kX6_explore rfl (by decide) rfl (by omega) rfl ?_
                    refine fz_goto (tgt := 18) kX6_explore rfl (by decide) ?_
                    refine fz_sub (fz_pk_sub (ls' := [(6, fz_i (x9 + 1)), (0, fz_r 33), (1, fz_i fr), (2, fz_i hr), (3, fz_i 1), (4, fz_i su), (5, fz_i rt)]) [0, 4, 5, 6, 7, 8, 9] rfl) ?_
                    exact ih15 (x9 + 1) H50 hI54 hf56 (by omega) (by omega)
                · refine fz_aload_n kX6_explore rfl rfl ?_
                  refine fz_getR (t := 27) kX6_explore rfl rfl ?_
                  refine fz_aload_n kX6_explore rfl rfl ?_
                  refine fz_getV (v := h 33 3) kX6_explore rfl rfl (hf12 33 3 rfl) ?_
                  have b57 : 0 ≤ h 33 3 ∧ h 33 3 ≤ 3 := hI.1 33 _
                  refine fz_aload_n kX6_explore rfl rfl ?_
                  refine fz_getV (v := h 33 3) kX6_explore rfl rfl (hf12 33 3 rfl) ?_
                  refine fz_iload kX6_explore rfl rfl ?_
                  refine fz_aload_n kX6_explore rfl rfl ?_
                  refine fz_getV (v := h 33 4) kX6_explore rfl rfl (hf12 33 4 rfl) ?_
                  refine fz_iload kX6_explore rfl rfl ?_
                  refine fz_iaddN kX6_explore rfl (by omega) ?_
                  refine fz_callV (d' := 4) (M' := mX8_listen) (As := [fz_i (h 33 3), fz_i (h 33 3), fz_i y27, fz_i ((h 33 4) + (hr + (h 3 (x9.toNat))))]) (st := []) kX6_explore rfl rfl vX8_listen rfl rfl rfl rfl (Nat.le_of_ble_eq_true rfl) (Nat.le_of_ble_eq_true rfl) (by decide) (sX8_listen H10 hI11 (h 33 3) (h 33 3) y27 ((h 33 4) + (hr + (h 3 (x9.toNat)))) (by omega)) (fun H58 r59 q60 o61 => ?_)
                  obtain ⟨hI62, hf63, rfl⟩ := q60
                  clear o61
                  have hf64 := fz_fr_tr hf12 hf63 (show fz_su [(18, 99999), (19, 99999), (29, 99999)] [(18, 99999), (19, 99999), (29, 99999), (33, 5), (33, 6), (33, 7), (34, 99999)] = true from rfl)
                  refine fz_aload_n kX6_explore rfl rfl ?_
                  refine fz_getR (t := 34) kX6_explore rfl rfl ?_
                  refine fz_iload kX6_explore rfl rfl ?_
                  refine fz_aload_n kX6_explore rfl rfl ?_
                  refine fz_getR (t := 27) kX6_explore rfl rfl ?_
                  refine fz_callV (d' := 1) (M' := mX8_isArrested) (As := []) (st := [fz_i ((y27 * 97) + (hr + (h 3 (x9.toNat)))), fz_r 34]) kX6_explore rfl rfl vX8_isArrested rfl rfl rfl rfl (Nat.le_of_ble_eq_true rfl) (Nat.le_of_ble_eq_true rfl) (by decide) (sX8_isArrested H58 hI62  ) (fun H65 r66 q67 o68 => ?_)
                  obtain ⟨e69, y70, rfl, p71⟩ := q67
                  subst H65
                  clear o68
                  refine fz_if_eq (tgt := 151) kX6_explore rfl (by decide) (fun c72 => ?_) (fun c72 => ?_)
                  · refine fz_aload_n kX6_explore rfl rfl ?_
                    refine fz_getR (t := 27) kX6_explore rfl rfl ?_
                    refine fz_callV (d' := 0) (M' := mX8_reception) (As := []) (st := [fz_i ((y27 * 97) + (hr + (h 3 (x9.toNat)))), fz_r 34]) kX6_explore rfl rfl vX8_reception rfl rfl rfl rfl (Nat.le_of_ble_eq_true rfl) (Nat.le_of_ble_eq_true rfl) (by decide) (sX8_reception H58 hI62  ) (fun H73 r74 q75 o76 => ?_)
                    obtain ⟨e77, y79, rfl, f78⟩ := q75
                    subst H73
                    clear o76
                    refine fz_iast (n := 776) kX6_explore rfl rfl (by omega) (by omega) ?_
                    refine fz_nmu (S := [(18, 99999), (19, 99999), (29, 99999), (33, 5), (33, 6), (33, 7), (34, 99999)]) (h0 := h) (fz_Iv_up hI62 (by decide) (show (-2147483648) ≤ y79 by omega) (show y79 ≤ 2147483647 by omega)) (fz_fr_up hf64 rfl) (fun H80 hI81 hf82 e83 => ?_)
                    clear e83
                    refine fz_aload_n kX6_explore rfl rfl ?_
                    refine fz_getR (t := 34) kX6_explore rfl rfl ?_
                    refine fz_iload kX6_explore rfl rfl ?_
                    obtain ⟨v84, e85⟩ : ∃ z, H80 34 (((y27 * 97) + (hr + (h 3 (x9.toNat)))).toNat) = z := ⟨_, rfl⟩
                    refine fz_ialdV (n := 776) (v := v84) kX6_explore rfl rfl (by omega) (by omega) e85 ?_
                    have b86 : (-2147483648) ≤ v84 ∧ v84 ≤ 2147483647 := by rw [← e85]; exact hI81.1 34 _
                    refine fz_ldc (x := (-1999999999)) kX6_explore rfl rfl rfl ?_
                    refine fz_icmp_eq (tgt := 200) kX6_explore rfl (by decide) (fun c87 => ?_) (fun c87 => ?_)
                    · refine fz_iincN (ls' := [(6, fz_i (x9 + 1)), (9, fz_i ((y27 * 97) + (hr + (h 3 (x9.toNat))))), (8, fz_i (hr + (h 3 (x9.toNat)))), (7, fz_i y27), (0, fz_r 33), (1, fz_i fr), (2, fz_i hr), (3, fz_i 1), (4, fz_i su), (5, fz_i rt)]) kX6_explore rfl (by decide) rfl (by omega) rfl ?_
                      refine fz_goto (tgt := 18) kX6_explore rfl (by decide) ?_
                      refine fz_sub (fz_pk_sub (ls' := [(6, fz_i (x9 + 1)), (0, fz_r 33), (1, fz_i fr), (2, fz_i hr), (3, fz_i 1), (4, fz_i su), (5, fz_i rt)]) [0, 4, 5, 6, 7, 8, 9] rfl) ?_
                      exact ih15 (x9 + 1) H80 hI81 hf82 (by omega) (by omega)
                    · refine fz_aload_n kX6_explore rfl rfl ?_
                      refine fz_iload kX6_explore rfl rfl ?_
                      refine fz_iload kX6_explore rfl rfl ?_
                      refine fz_iload_n kX6_explore rfl rfl ?_
                      refine fz_iconst ⟨by decide, by decide⟩ kX6_explore rfl ?_
                      refine fz_iaddN kX6_explore rfl ⟨by decide, by decide⟩ ?_
                      refine fz_eqi (y := 2) rfl ?_
                      refine fz_iload kX6_explore rfl rfl ?_
                      refine fz_aload_n kX6_explore rfl rfl ?_
                      refine fz_getR (t := 34) kX6_explore rfl rfl ?_
                      refine fz_iload kX6_explore rfl rfl ?_
                      obtain ⟨v88, e89⟩ : ∃ z, H80 34 (((y27 * 97) + (hr + (h 3 (x9.toNat)))).toNat) = z := ⟨_, rfl⟩
                      refine fz_ialdV (n := 776) (v := v88) kX6_explore rfl rfl (by omega) (by omega) e89 ?_
                      have b90 : (-2147483648) ≤ v88 ∧ v88 ≤ 2147483647 := by rw [← e89]; exact hI81.1 34 _
                      refine fz_iadd kX6_explore rfl ?_
                      refine fz_nmw (fun z91 e92 => ?_)
                      refine fz_iload kX6_explore rfl rfl ?_
                      refine fz_bipush ⟨by decide, by decide⟩ kX6_explore rfl ?_
                      refine fz_imul kX6_explore rfl ?_
                      refine fz_nmw (fun z93 e94 => ?_)
                      refine fz_iload kX6_explore rfl rfl ?_
                      refine fz_iadd kX6_explore rfl ?_
                      refine fz_nmw (fun z95 e96 => ?_)
                      refine fz_callV (d' := 6) (M' := mX6_explore) (As := [fz_i y27, fz_i (hr + (h 3 (x9.toNat))), fz_i 2, fz_i z91, fz_i z95]) (st := []) kX6_explore rfl rfl vX6_explore rfl rfl rfl rfl (Nat.le_of_ble_eq_true rfl) (Nat.le_of_ble_eq_true rfl) (by decide) (sX6_explore_2 H80 hI81 y27 (hr + (h 3 (x9.toNat))) z91 z95 (by omega) (by omega)) (fun H97 r98 q99 o100 => ?_)
                      obtain ⟨hI101, hf102, rfl⟩ := q99
                      clear o100
                      have hf103 := fz_fr_tr hf82 hf102 (show fz_su [(18, 99999), (19, 99999), (29, 99999), (33, 5), (33, 6), (33, 7), (34, 99999)] [(18, 99999), (19, 99999), (29, 99999), (33, 5), (33, 6), (33, 7), (34, 99999)] = true from rfl)
                      refine fz_iincN (ls' := [(6, fz_i (x9 + 1)), (9, fz_i ((y27 * 97) + (hr + (h 3 (x9.toNat))))), (8, fz_i (hr + (h 3 (x9.toNat)))), (7, fz_i y27), (0, fz_r 33), (1, fz_i fr), (2, fz_i hr), (3, fz_i 1), (4, fz_i su), (5, fz_i rt)]) kX6_explore rfl (by decide) rfl (by omega) rfl ?_
                      refine fz_goto (tgt := 18) kX6_explore rfl (by decide) ?_
                      refine fz_sub (fz_pk_sub (ls' := [(6, fz_i (x9 + 1)), (0, fz_r 33), (1, fz_i fr), (2, fz_i hr), (3, fz_i 1), (4, fz_i su), (5, fz_i rt)]) [0, 4, 5, 6, 7, 8, 9] rfl) ?_
                      exact ih15 (x9 + 1) H97 hI101 hf103 (by omega) (by omega)
                  · refine fz_ldc (x := (-1999999999)) kX6_explore rfl rfl rfl ?_
                    refine fz_goto (tgt := 158) kX6_explore rfl (by decide) ?_
                    refine fz_iast (n := 776) kX6_explore rfl rfl (by omega) (by omega) ?_
                    refine fz_nmu (S := [(18, 99999), (19, 99999), (29, 99999), (33, 5), (33, 6), (33, 7), (34, 99999)]) (h0 := h) (fz_Iv_up hI62 (by decide) (show (-2147483648) ≤ (-1999999999) by omega) (show (-1999999999) ≤ 2147483647 by omega)) (fz_fr_up hf64 rfl) (fun H104 hI105 hf106 e107 => ?_)
                    clear e107
                    refine fz_aload_n kX6_explore rfl rfl ?_
                    refine fz_getR (t := 34) kX6_explore rfl rfl ?_
                    refine fz_iload kX6_explore rfl rfl ?_
                    obtain ⟨v108, e109⟩ : ∃ z, H104 34 (((y27 * 97) + (hr + (h 3 (x9.toNat)))).toNat) = z := ⟨_, rfl⟩
                    refine fz_ialdV (n := 776) (v := v108) kX6_explore rfl rfl (by omega) (by omega) e109 ?_
                    have b110 : (-2147483648) ≤ v108 ∧ v108 ≤ 2147483647 := by rw [← e109]; exact hI105.1 34 _
                    refine fz_ldc (x := (-1999999999)) kX6_explore rfl rfl rfl ?_
                    refine fz_icmp_eq (tgt := 200) kX6_explore rfl (by decide) (fun c111 => ?_) (fun c111 => ?_)
                    · refine fz_iincN (ls' := [(6, fz_i (x9 + 1)), (9, fz_i ((y27 * 97) + (hr + (h 3 (x9.toNat))))), (8, fz_i (hr + (h 3 (x9.toNat)))), (7, fz_i y27), (0, fz_r 33), (1, fz_i fr), (2, fz_i hr), (3, fz_i 1), (4, fz_i su), (5, fz_i rt)]) kX6_explore rfl (by decide) rfl (by omega) rfl ?_
                      refine fz_goto (tgt := 18) kX6_explore rfl (by decide) ?_
                      refine fz_sub (fz_pk_sub (ls' := [(6, fz_i (x9 + 1)), (0, fz_r 33), (1, fz_i fr), (2, fz_i hr), (3, fz_i 1), (4, fz_i su), (5, fz_i rt)]) [0, 4, 5, 6, 7, 8, 9] rfl) ?_
                      exact ih15 (x9 + 1) H104 hI105 hf106 (by omega) (by omega)
                    · refine fz_aload_n kX6_explore rfl rfl ?_
                      refine fz_iload kX6_explore rfl rfl ?_
                      refine fz_iload kX6_explore rfl rfl ?_
                      refine fz_iload_n kX6_explore rfl rfl ?_
                      refine fz_iconst ⟨by decide, by decide⟩ kX6_explore rfl ?_
                      refine fz_iaddN kX6_explore rfl ⟨by decide, by decide⟩ ?_
                      refine fz_eqi (y := 2) rfl ?_
                      refine fz_iload kX6_explore rfl rfl ?_
                      refine fz_aload_n kX6_explore rfl rfl ?_
                      refine fz_getR (t := 34) kX6_explore rfl rfl ?_
                      refine fz_iload kX6_explore rfl rfl ?_
                      obtain ⟨v112, e113⟩ : ∃ z, H104 34 (((y27 * 97) + (hr + (h 3 (x9.toNat)))).toNat) = z := ⟨_, rfl⟩
                      refine fz_ialdV (n := 776) (v := v112) kX6_explore rfl rfl (by omega) (by omega) e113 ?_
                      have b114 : (-2147483648) ≤ v112 ∧ v112 ≤ 2147483647 := by rw [← e113]; exact hI105.1 34 _
                      refine fz_iadd kX6_explore rfl ?_
                      refine fz_nmw (fun z115 e116 => ?_)
                      refine fz_iload kX6_explore rfl rfl ?_
                      refine fz_bipush ⟨by decide, by decide⟩ kX6_explore rfl ?_
                      refine fz_imul kX6_explore rfl ?_
                      refine fz_nmw (fun z117 e118 => ?_)
                      refine fz_iload kX6_explore rfl rfl ?_
                      refine fz_iadd kX6_explore rfl ?_
                      refine fz_nmw (fun z119 e120 => ?_)
                      refine fz_callV (d' := 6) (M' := mX6_explore) (As := [fz_i y27, fz_i (hr + (h 3 (x9.toNat))), fz_i 2, fz_i z115, fz_i z119]) (st := []) kX6_explore rfl rfl vX6_explore rfl rfl rfl rfl (Nat.le_of_ble_eq_true rfl) (Nat.le_of_ble_eq_true rfl) (by decide) (sX6_explore_2 H104 hI105 y27 (hr + (h 3 (x9.toNat))) z115 z119 (by omega) (by omega)) (fun H121 r122 q123 o124 => ?_)
                      obtain ⟨hI125, hf126, rfl⟩ := q123
                      clear o124
                      have hf127 := fz_fr_tr hf106 hf126 (show fz_su [(18, 99999), (19, 99999), (29, 99999), (33, 5), (33, 6), (33, 7), (34, 99999)] [(18, 99999), (19, 99999), (29, 99999), (33, 5), (33, 6), (33, 7), (34, 99999)] = true from rfl)
                      refine fz_iincN (ls' := [(6, fz_i (x9 + 1)), (9, fz_i ((y27 * 97) + (hr + (h 3 (x9.toNat))))), (8, fz_i (hr + (h 3 (x9.toNat)))), (7, fz_i y27), (0, fz_r 33), (1, fz_i fr), (2, fz_i hr), (3, fz_i 1), (4, fz_i su), (5, fz_i rt)]) kX6_explore rfl (by decide) rfl (by omega) rfl ?_
                      refine fz_goto (tgt := 18) kX6_explore rfl (by decide) ?_
                      refine fz_sub (fz_pk_sub (ls' := [(6, fz_i (x9 + 1)), (0, fz_r 33), (1, fz_i fr), (2, fz_i hr), (3, fz_i 1), (4, fz_i su), (5, fz_i rt)]) [0, 4, 5, 6, 7, 8, 9] rfl) ?_
                      exact ih15 (x9 + 1) H121 hI125 hf127 (by omega) (by omega)
              · refine fz_goto (tgt := 200) kX6_explore rfl (by decide) ?_
                refine fz_iincN (ls' := [(6, fz_i (x9 + 1)), (8, fz_i (hr + (h 3 (x9.toNat)))), (7, fz_i y27), (0, fz_r 33), (1, fz_i fr), (2, fz_i hr), (3, fz_i 1), (4, fz_i su), (5, fz_i rt)]) kX6_explore rfl (by decide) rfl (by omega) rfl ?_
                refine fz_goto (tgt := 18) kX6_explore rfl (by decide) ?_
                refine fz_sub (fz_pk_sub (ls' := [(6, fz_i (x9 + 1)), (0, fz_r 33), (1, fz_i fr), (2, fz_i hr), (3, fz_i 1), (4, fz_i su), (5, fz_i rt)]) [0, 3, 4, 5, 6, 7, 8] rfl) ?_
                exact ih15 (x9 + 1) H10 hI11 hf12 (by omega) (by omega)
    exact lp14 _ 0 H1 hI5 hf7 (by omega) (Nat.lt_succ_self _)
  · exfalso; omega

abbrev qX6_explore_0 (h : fz_H) (fr hr su rt : Int) : fz_H → Option fz_V → Prop := fun h' r0 => fz_Iv h' ∧ fz_fr [(18, 99999), (19, 99999), (29, 99999), (33, 5), (33, 6), (33, 7), (34, 99999)] h h' ∧ r0 = none
set_option maxHeartbeats 1000000 in
set_option maxRecDepth 100000 in
theorem sX6_explore_0 (h : fz_H) (hI : fz_Iv h) (fr hr su rt : Int) (hp0 : 0 ≤ fr ∧ fr < 8) (hp1 : 0 ≤ hr ∧ hr ≤ 96) : fz_R 8 mX6_explore 0 [(0, fz_r 33), (1, fz_i fr), (2, fz_i hr), (3, fz_i 0), (4, fz_i su), (5, fz_i rt)] [] h (qX6_explore_0 h fr hr su rt) := by
  refine fz_knowl (fun hk => ?_)
  have hr_fr : -2147483648 ≤ fr ∧ fr < 2147483648 := hk _ (List.Mem.tail _ (List.Mem.head _))
  have hr_hr : -2147483648 ≤ hr ∧ hr < 2147483648 := hk _ (List.Mem.tail _ (List.Mem.tail _ (List.Mem.head _)))
  have hr_su : -2147483648 ≤ su ∧ su < 2147483648 := hk _ (List.Mem.tail _ (List.Mem.tail _ (List.Mem.tail _ (List.Mem.tail _ (List.Mem.head _)))))
  have hr_rt : -2147483648 ≤ rt ∧ rt < 2147483648 := hk _ (List.Mem.tail _ (List.Mem.tail _ (List.Mem.tail _ (List.Mem.tail _ (List.Mem.tail _ (List.Mem.head _))))))
  clear hk
  have hf : fz_fr [(18, 99999), (19, 99999), (29, 99999), (33, 5), (33, 6), (33, 7), (34, 99999)] h h := fz_fr_rf
  refine fz_aload_n kX6_explore rfl rfl ?_
  refine fz_iload_n kX6_explore rfl rfl ?_
  refine fz_iload kX6_explore rfl rfl ?_
  refine fz_iload kX6_explore rfl rfl ?_
  refine fz_callV (d' := 0) (M' := mX6_compare) (As := [fz_i 0, fz_i su, fz_i rt]) (st := []) kX6_explore rfl rfl vX6_compare rfl rfl rfl rfl (Nat.le_of_ble_eq_true rfl) (Nat.le_of_ble_eq_true rfl) (by decide) (sX6_compare h hI 0 su rt (by omega)) (fun H1 r2 q3 o4 => ?_)
  obtain ⟨hI5, hf6, rfl⟩ := q3
  clear o4
  have hf7 := fz_fr_tr hf hf6 (show fz_su [(33, 5), (33, 6), (33, 7)] [(18, 99999), (19, 99999), (29, 99999), (33, 5), (33, 6), (33, 7), (34, 99999)] = true from rfl)
  refine fz_iload_n kX6_explore rfl rfl ?_
  refine fz_iconst ⟨by decide, by decide⟩ kX6_explore rfl ?_
  refine fz_icmp_lt (tgt := 15) kX6_explore rfl (by decide) (fun c8 => ?_) (fun c8 => ?_)
  · refine fz_iconst ⟨by decide, by decide⟩ kX6_explore rfl ?_
    refine fz_istore (ls' := [(6, fz_i 0), (0, fz_r 33), (1, fz_i fr), (2, fz_i hr), (3, fz_i 0), (4, fz_i su), (5, fz_i rt)]) kX6_explore rfl (by decide) rfl ?_
    have lp14 : ∀ (n13 : Nat) (x9 : Int) (H10 : fz_H), fz_Iv H10 → fz_fr [(18, 99999), (19, 99999), (29, 99999), (33, 5), (33, 6), (33, 7), (34, 99999)] h H10 → (0 ≤ x9 ∧ x9 ≤ 2147483647) → ((h 1 8) - x9).toNat < n13 → fz_R 8 mX6_explore 18 [(6, fz_i x9), (0, fz_r 33), (1, fz_i fr), (2, fz_i hr), (3, fz_i 0), (4, fz_i su), (5, fz_i rt)] [] H10 (qX6_explore_0 h fr hr su rt) := by
      intro n13
      induction n13 with
      | zero => intro x9 H10 hI11 hf12 hv17 hm16; exact absurd hm16 (by omega)
      | succ n13 ih15 =>
        intro x9 H10 hI11 hf12 hv17 hm16
        refine fz_iload kX6_explore rfl rfl ?_
        refine fz_aload_n kX6_explore rfl rfl ?_
        refine fz_getR (t := 1) kX6_explore rfl rfl ?_
        refine fz_getV (v := h 1 8) kX6_explore rfl rfl (hf12 1 8 rfl) ?_
        have b18 : 0 ≤ h 1 8 ∧ h 1 8 ≤ 12 := hI.1 1 _
        refine fz_icmp_ge (tgt := 206) kX6_explore rfl (by decide) (fun c19 => ?_) (fun c19 => ?_)
        · exact fz_vret kX6_explore rfl rfl ⟨hI11, hf12, rfl⟩
        · refine fz_aload_n kX6_explore rfl rfl ?_
          refine fz_getR (t := 1) kX6_explore rfl rfl ?_
          refine fz_iload kX6_explore rfl rfl ?_
          refine fz_iload_n kX6_explore rfl rfl ?_
          refine fz_callV (d' := 0) (M' := mX2_acrossFrom) (As := [fz_i x9, fz_i fr]) (st := []) kX6_explore rfl rfl vX2_acrossFrom rfl rfl rfl rfl (Nat.le_of_ble_eq_true rfl) (Nat.le_of_ble_eq_true rfl) (by decide) (sX2_acrossFrom H10 hI11 x9 fr (by omega)) (fun H20 r21 q22 o23 => ?_)
          obtain ⟨e24, y27, rfl, f25, f26⟩ := q22
          subst H20
          clear o23
          refine fz_istore (ls' := [(7, fz_i y27), (6, fz_i x9), (0, fz_r 33), (1, fz_i fr), (2, fz_i hr), (3, fz_i 0), (4, fz_i su), (5, fz_i rt)]) kX6_explore rfl (by decide) rfl ?_
          refine fz_iload_n kX6_explore rfl rfl ?_
          refine fz_aload_n kX6_explore rfl rfl ?_
          refine fz_getR (t := 1) kX6_explore rfl rfl ?_
          refine fz_getR (t := 3) kX6_explore rfl rfl ?_
          refine fz_iload kX6_explore rfl rfl ?_
          refine fz_ialdV (n := 12) (v := h 3 (x9.toNat)) kX6_explore rfl rfl (by omega) (by omega) (hf12 3 _ rfl) ?_
          have b28 : 0 ≤ h 3 (x9.toNat) ∧ h 3 (x9.toNat) ≤ 24 := hI.1 3 _
          refine fz_iaddN kX6_explore rfl (by omega) ?_
          refine fz_istore (ls' := [(8, fz_i (hr + (h 3 (x9.toNat)))), (7, fz_i y27), (6, fz_i x9), (0, fz_r 33), (1, fz_i fr), (2, fz_i hr), (3, fz_i 0), (4, fz_i su), (5, fz_i rt)]) kX6_explore rfl (by decide) rfl ?_
          refine fz_iload kX6_explore rfl rfl ?_
          refine fz_if_lt (tgt := 200) kX6_explore rfl (by decide) (fun c29 => ?_) (fun c29 => ?_)
          · refine fz_iincN (ls' := [(6, fz_i (x9 + 1)), (8, fz_i (hr + (h 3 (x9.toNat)))), (7, fz_i y27), (0, fz_r 33), (1, fz_i fr), (2, fz_i hr), (3, fz_i 0), (4, fz_i su), (5, fz_i rt)]) kX6_explore rfl (by decide) rfl (by omega) rfl ?_
            refine fz_goto (tgt := 18) kX6_explore rfl (by decide) ?_
            refine fz_sub (fz_pk_sub (ls' := [(6, fz_i (x9 + 1)), (0, fz_r 33), (1, fz_i fr), (2, fz_i hr), (3, fz_i 0), (4, fz_i su), (5, fz_i rt)]) [0, 3, 4, 5, 6, 7, 8] rfl) ?_
            exact ih15 (x9 + 1) H10 hI11 hf12 (by omega) (by omega)
          · refine fz_iload kX6_explore rfl rfl ?_
            refine fz_bipush ⟨by decide, by decide⟩ kX6_explore rfl ?_
            refine fz_icmp_ge (tgt := 200) kX6_explore rfl (by decide) (fun c30 => ?_) (fun c30 => ?_)
            · refine fz_iincN (ls' := [(6, fz_i (x9 + 1)), (8, fz_i (hr + (h 3 (x9.toNat)))), (7, fz_i y27), (0, fz_r 33), (1, fz_i fr), (2, fz_i hr), (3, fz_i 0), (4, fz_i su), (5, fz_i rt)]) kX6_explore rfl (by decide) rfl (by omega) rfl ?_
              refine fz_goto (tgt := 18) kX6_explore rfl (by decide) ?_
              refine fz_sub (fz_pk_sub (ls' := [(6, fz_i (x9 + 1)), (0, fz_r 33), (1, fz_i fr), (2, fz_i hr), (3, fz_i 0), (4, fz_i su), (5, fz_i rt)]) [0, 3, 4, 5, 6, 7, 8] rfl) ?_
              exact ih15 (x9 + 1) H10 hI11 hf12 (by omega) (by omega)
            · refine fz_aload_n kX6_explore rfl rfl ?_
              refine fz_getV (v := h 33 4) kX6_explore rfl rfl (hf12 33 4 rfl) ?_
              have b31 : 0 ≤ h 33 4 ∧ h 33 4 ≤ 999 := hI.1 33 _
              refine fz_iload kX6_explore rfl rfl ?_
              refine fz_iaddN kX6_explore rfl (by omega) ?_
              refine fz_sipush ⟨by decide, by decide⟩ kX6_explore rfl ?_
              refine fz_icmp_le (tgt := 84) kX6_explore rfl (by decide) (fun c32 => ?_) (fun c32 => ?_)
              · refine fz_iload kX6_explore rfl rfl ?_
                refine fz_bipush ⟨by decide, by decide⟩ kX6_explore rfl ?_
                refine fz_imulN kX6_explore rfl (by omega) ?_
                refine fz_iload kX6_explore rfl rfl ?_
                refine fz_iaddN kX6_explore rfl (by omega) ?_
                refine fz_istore (ls' := [(9, fz_i ((y27 * 97) + (hr + (h 3 (x9.toNat))))), (8, fz_i (hr + (h 3 (x9.toNat)))), (7, fz_i y27), (6, fz_i x9), (0, fz_r 33), (1, fz_i fr), (2, fz_i hr), (3, fz_i 0), (4, fz_i su), (5, fz_i rt)]) kX6_explore rfl (by decide) rfl ?_
                refine fz_aload_n kX6_explore rfl rfl ?_
                refine fz_getR (t := 34) kX6_explore rfl rfl ?_
                refine fz_iload kX6_explore rfl rfl ?_
                obtain ⟨v33, e34⟩ : ∃ z, H10 34 (((y27 * 97) + (hr + (h 3 (x9.toNat)))).toNat) = z := ⟨_, rfl⟩
                refine fz_ialdV (n := 776) (v := v33) kX6_explore rfl rfl (by omega) (by omega) e34 ?_
                have b35 : (-2147483648) ≤ v33 ∧ v33 ≤ 2147483647 := by rw [← e34]; exact hI11.1 34 _
                refine fz_ldc (x := (-2000000000)) kX6_explore rfl rfl rfl ?_
                refine fz_icmp_ne (tgt := 159) kX6_explore rfl (by decide) (fun c36 => ?_) (fun c36 => ?_)
                · refine fz_aload_n kX6_explore rfl rfl ?_
                  refine fz_getR (t := 34) kX6_explore rfl rfl ?_
                  refine fz_iload kX6_explore rfl rfl ?_
                  obtain ⟨v37, e38⟩ : ∃ z, H10 34 (((y27 * 97) + (hr + (h 3 (x9.toNat)))).toNat) = z := ⟨_, rfl⟩
                  refine fz_ialdV (n := 776) (v := v37) kX6_explore rfl rfl (by omega) (by omega) e38 ?_
                  have b39 : (-2147483648) ≤ v37 ∧ v37 ≤ 2147483647 := by rw [← e38]; exact hI11.1 34 _
                  refine fz_ldc (x := (-1999999999)) kX6_explore rfl rfl rfl ?_
                  refine fz_icmp_eq (tgt := 200) kX6_explore rfl (by decide) (fun c40 => ?_) (fun c40 => ?_)
                  · refine fz_iincN (ls' := [(6, fz_i (x9 + 1)), (9, fz_i ((y27 * 97) + (hr + (h 3 (x9.toNat))))), (8, fz_i (hr + (h 3 (x9.toNat)))), (7, fz_i y27), (0, fz_r 33), (1, fz_i fr), (2, fz_i hr), (3, fz_i 0), (4, fz_i su), (5, fz_i rt)]) kX6_explore rfl (by decide) rfl (by omega) rfl ?_
                    refine fz_goto (tgt := 18) kX6_explore rfl (by decide) ?_
                    refine fz_sub (fz_pk_sub (ls' := [(6, fz_i (x9 + 1)), (0, fz_r 33), (1, fz_i fr), (2, fz_i hr), (3, fz_i 0), (4, fz_i su), (5, fz_i rt)]) [0, 4, 5, 6, 7, 8, 9] rfl) ?_
                    exact ih15 (x9 + 1) H10 hI11 hf12 (by omega) (by omega)
                  · refine fz_aload_n kX6_explore rfl rfl ?_
                    refine fz_iload kX6_explore rfl rfl ?_
                    refine fz_iload kX6_explore rfl rfl ?_
                    refine fz_iload_n kX6_explore rfl rfl ?_
                    refine fz_iconst ⟨by decide, by decide⟩ kX6_explore rfl ?_
                    refine fz_iaddN kX6_explore rfl ⟨by decide, by decide⟩ ?_
                    refine fz_eqi (y := 1) rfl ?_
                    refine fz_iload kX6_explore rfl rfl ?_
                    refine fz_aload_n kX6_explore rfl rfl ?_
                    refine fz_getR (t := 34) kX6_explore rfl rfl ?_
                    refine fz_iload kX6_explore rfl rfl ?_
                    obtain ⟨v41, e42⟩ : ∃ z, H10 34 (((y27 * 97) + (hr + (h 3 (x9.toNat)))).toNat) = z := ⟨_, rfl⟩
                    refine fz_ialdV (n := 776) (v := v41) kX6_explore rfl rfl (by omega) (by omega) e42 ?_
                    have b43 : (-2147483648) ≤ v41 ∧ v41 ≤ 2147483647 := by rw [← e42]; exact hI11.1 34 _
                    refine fz_iadd kX6_explore rfl ?_
                    refine fz_nmw (fun z44 e45 => ?_)
                    refine fz_iload kX6_explore rfl rfl ?_
                    refine fz_bipush ⟨by decide, by decide⟩ kX6_explore rfl ?_
                    refine fz_imul kX6_explore rfl ?_
                    refine fz_nmw (fun z46 e47 => ?_)
                    refine fz_iload kX6_explore rfl rfl ?_
                    refine fz_iadd kX6_explore rfl ?_
                    refine fz_nmw (fun z48 e49 => ?_)
                    refine fz_callV (d' := 7) (M' := mX6_explore) (As := [fz_i y27, fz_i (hr + (h 3 (x9.toNat))), fz_i 1, fz_i z44, fz_i z48]) (st := []) kX6_explore rfl rfl vX6_explore rfl rfl rfl rfl (Nat.le_of_ble_eq_true rfl) (Nat.le_of_ble_eq_true rfl) (by decide) (sX6_explore_1 H10 hI11 y27 (hr + (h 3 (x9.toNat))) z44 z48 (by omega) (by omega)) (fun H50 r51 q52 o53 => ?_)
                    obtain ⟨hI54, hf55, rfl⟩ := q52
                    clear o53
                    have hf56 := fz_fr_tr hf12 hf55 (show fz_su [(18, 99999), (19, 99999), (29, 99999), (33, 5), (33, 6), (33, 7), (34, 99999)] [(18, 99999), (19, 99999), (29, 99999), (33, 5), (33, 6), (33, 7), (34, 99999)] = true from rfl)
                    refine fz_iincN (ls' := [(6, fz_i (x9 + 1)), (9, fz_i ((y27 * 97) + (hr + (h 3 (x9.toNat))))), (8, fz_i (hr + (h 3 (x9.toNat)))), (7, fz_i y27), (0, fz_r 33), (1, fz_i fr), (2, fz_i hr), (3, fz_i 0), (4, fz_i su), (5, fz_i rt)]) kX6_explore rfl (by decide) rfl (by omega) rfl ?_
                    refine fz_goto (tgt := 18) kX6_explore rfl (by decide) ?_
                    refine fz_sub (fz_pk_sub (ls' := [(6, fz_i (x9 + 1)), (0, fz_r 33), (1, fz_i fr), (2, fz_i hr), (3, fz_i 0), (4, fz_i su), (5, fz_i rt)]) [0, 4, 5, 6, 7, 8, 9] rfl) ?_
                    exact ih15 (x9 + 1) H50 hI54 hf56 (by omega) (by omega)
                · refine fz_aload_n kX6_explore rfl rfl ?_
                  refine fz_getR (t := 27) kX6_explore rfl rfl ?_
                  refine fz_aload_n kX6_explore rfl rfl ?_
                  refine fz_getV (v := h 33 3) kX6_explore rfl rfl (hf12 33 3 rfl) ?_
                  have b57 : 0 ≤ h 33 3 ∧ h 33 3 ≤ 3 := hI.1 33 _
                  refine fz_aload_n kX6_explore rfl rfl ?_
                  refine fz_getV (v := h 33 3) kX6_explore rfl rfl (hf12 33 3 rfl) ?_
                  refine fz_iload kX6_explore rfl rfl ?_
                  refine fz_aload_n kX6_explore rfl rfl ?_
                  refine fz_getV (v := h 33 4) kX6_explore rfl rfl (hf12 33 4 rfl) ?_
                  refine fz_iload kX6_explore rfl rfl ?_
                  refine fz_iaddN kX6_explore rfl (by omega) ?_
                  refine fz_callV (d' := 4) (M' := mX8_listen) (As := [fz_i (h 33 3), fz_i (h 33 3), fz_i y27, fz_i ((h 33 4) + (hr + (h 3 (x9.toNat))))]) (st := []) kX6_explore rfl rfl vX8_listen rfl rfl rfl rfl (Nat.le_of_ble_eq_true rfl) (Nat.le_of_ble_eq_true rfl) (by decide) (sX8_listen H10 hI11 (h 33 3) (h 33 3) y27 ((h 33 4) + (hr + (h 3 (x9.toNat)))) (by omega)) (fun H58 r59 q60 o61 => ?_)
                  obtain ⟨hI62, hf63, rfl⟩ := q60
                  clear o61
                  have hf64 := fz_fr_tr hf12 hf63 (show fz_su [(18, 99999), (19, 99999), (29, 99999)] [(18, 99999), (19, 99999), (29, 99999), (33, 5), (33, 6), (33, 7), (34, 99999)] = true from rfl)
                  refine fz_aload_n kX6_explore rfl rfl ?_
                  refine fz_getR (t := 34) kX6_explore rfl rfl ?_
                  refine fz_iload kX6_explore rfl rfl ?_
                  refine fz_aload_n kX6_explore rfl rfl ?_
                  refine fz_getR (t := 27) kX6_explore rfl rfl ?_
                  refine fz_callV (d' := 1) (M' := mX8_isArrested) (As := []) (st := [fz_i ((y27 * 97) + (hr + (h 3 (x9.toNat)))), fz_r 34]) kX6_explore rfl rfl vX8_isArrested rfl rfl rfl rfl (Nat.le_of_ble_eq_true rfl) (Nat.le_of_ble_eq_true rfl) (by decide) (sX8_isArrested H58 hI62  ) (fun H65 r66 q67 o68 => ?_)
                  obtain ⟨e69, y70, rfl, p71⟩ := q67
                  subst H65
                  clear o68
                  refine fz_if_eq (tgt := 151) kX6_explore rfl (by decide) (fun c72 => ?_) (fun c72 => ?_)
                  · refine fz_aload_n kX6_explore rfl rfl ?_
                    refine fz_getR (t := 27) kX6_explore rfl rfl ?_
                    refine fz_callV (d' := 0) (M' := mX8_reception) (As := []) (st := [fz_i ((y27 * 97) + (hr + (h 3 (x9.toNat)))), fz_r 34]) kX6_explore rfl rfl vX8_reception rfl rfl rfl rfl (Nat.le_of_ble_eq_true rfl) (Nat.le_of_ble_eq_true rfl) (by decide) (sX8_reception H58 hI62  ) (fun H73 r74 q75 o76 => ?_)
                    obtain ⟨e77, y79, rfl, f78⟩ := q75
                    subst H73
                    clear o76
                    refine fz_iast (n := 776) kX6_explore rfl rfl (by omega) (by omega) ?_
                    refine fz_nmu (S := [(18, 99999), (19, 99999), (29, 99999), (33, 5), (33, 6), (33, 7), (34, 99999)]) (h0 := h) (fz_Iv_up hI62 (by decide) (show (-2147483648) ≤ y79 by omega) (show y79 ≤ 2147483647 by omega)) (fz_fr_up hf64 rfl) (fun H80 hI81 hf82 e83 => ?_)
                    clear e83
                    refine fz_aload_n kX6_explore rfl rfl ?_
                    refine fz_getR (t := 34) kX6_explore rfl rfl ?_
                    refine fz_iload kX6_explore rfl rfl ?_
                    obtain ⟨v84, e85⟩ : ∃ z, H80 34 (((y27 * 97) + (hr + (h 3 (x9.toNat)))).toNat) = z := ⟨_, rfl⟩
                    refine fz_ialdV (n := 776) (v := v84) kX6_explore rfl rfl (by omega) (by omega) e85 ?_
                    have b86 : (-2147483648) ≤ v84 ∧ v84 ≤ 2147483647 := by rw [← e85]; exact hI81.1 34 _
                    refine fz_ldc (x := (-1999999999)) kX6_explore rfl rfl rfl ?_
                    refine fz_icmp_eq (tgt := 200) kX6_explore rfl (by decide) (fun c87 => ?_) (fun c87 => ?_)
                    · refine fz_iincN (ls' := [(6, fz_i (x9 + 1)), (9, fz_i ((y27 * 97) + (hr + (h 3 (x9.toNat))))), (8, fz_i (hr + (h 3 (x9.toNat)))), (7, fz_i y27), (0, fz_r 33), (1, fz_i fr), (2, fz_i hr), (3, fz_i 0), (4, fz_i su), (5, fz_i rt)]) kX6_explore rfl (by decide) rfl (by omega) rfl ?_
                      refine fz_goto (tgt := 18) kX6_explore rfl (by decide) ?_
                      refine fz_sub (fz_pk_sub (ls' := [(6, fz_i (x9 + 1)), (0, fz_r 33), (1, fz_i fr), (2, fz_i hr), (3, fz_i 0), (4, fz_i su), (5, fz_i rt)]) [0, 4, 5, 6, 7, 8, 9] rfl) ?_
                      exact ih15 (x9 + 1) H80 hI81 hf82 (by omega) (by omega)
                    · refine fz_aload_n kX6_explore rfl rfl ?_
                      refine fz_iload kX6_explore rfl rfl ?_
                      refine fz_iload kX6_explore rfl rfl ?_
                      refine fz_iload_n kX6_explore rfl rfl ?_
                      refine fz_iconst ⟨by decide, by decide⟩ kX6_explore rfl ?_
                      refine fz_iaddN kX6_explore rfl ⟨by decide, by decide⟩ ?_
                      refine fz_eqi (y := 1) rfl ?_
                      refine fz_iload kX6_explore rfl rfl ?_
                      refine fz_aload_n kX6_explore rfl rfl ?_
                      refine fz_getR (t := 34) kX6_explore rfl rfl ?_
                      refine fz_iload kX6_explore rfl rfl ?_
                      obtain ⟨v88, e89⟩ : ∃ z, H80 34 (((y27 * 97) + (hr + (h 3 (x9.toNat)))).toNat) = z := ⟨_, rfl⟩
                      refine fz_ialdV (n := 776) (v := v88) kX6_explore rfl rfl (by omega) (by omega) e89 ?_
                      have b90 : (-2147483648) ≤ v88 ∧ v88 ≤ 2147483647 := by rw [← e89]; exact hI81.1 34 _
                      refine fz_iadd kX6_explore rfl ?_
                      refine fz_nmw (fun z91 e92 => ?_)
                      refine fz_iload kX6_explore rfl rfl ?_
                      refine fz_bipush ⟨by decide, by decide⟩ kX6_explore rfl ?_
                      refine fz_imul kX6_explore rfl ?_
                      refine fz_nmw (fun z93 e94 => ?_)
                      refine fz_iload kX6_explore rfl rfl ?_
                      refine fz_iadd kX6_explore rfl ?_
                      refine fz_nmw (fun z95 e96 => ?_)
                      refine fz_callV (d' := 7) (M' := mX6_explore) (As := [fz_i y27, fz_i (hr + (h 3 (x9.toNat))), fz_i 1, fz_i z91, fz_i z95]) (st := []) kX6_explore rfl rfl vX6_explore rfl rfl rfl rfl (Nat.le_of_ble_eq_true rfl) (Nat.le_of_ble_eq_true rfl) (by decide) (sX6_explore_1 H80 hI81 y27 (hr + (h 3 (x9.toNat))) z91 z95 (by omega) (by omega)) (fun H97 r98 q99 o100 => ?_)
                      obtain ⟨hI101, hf102, rfl⟩ := q99
                      clear o100
                      have hf103 := fz_fr_tr hf82 hf102 (show fz_su [(18, 99999), (19, 99999), (29, 99999), (33, 5), (33, 6), (33, 7), (34, 99999)] [(18, 99999), (19, 99999), (29, 99999), (33, 5), (33, 6), (33, 7), (34, 99999)] = true from rfl)
                      refine fz_iincN (ls' := [(6, fz_i (x9 + 1)), (9, fz_i ((y27 * 97) + (hr + (h 3 (x9.toNat))))), (8, fz_i (hr + (h 3 (x9.toNat)))), (7, fz_i y27), (0, fz_r 33), (1, fz_i fr), (2, fz_i hr), (3, fz_i 0), (4, fz_i su), (5, fz_i rt)]) kX6_explore rfl (by decide) rfl (by omega) rfl ?_
                      refine fz_goto (tgt := 18) kX6_explore rfl (by decide) ?_
                      refine fz_sub (fz_pk_sub (ls' := [(6, fz_i (x9 + 1)), (0, fz_r 33), (1, fz_i fr), (2, fz_i hr), (3, fz_i 0), (4, fz_i su), (5, fz_i rt)]) [0, 4, 5, 6, 7, 8, 9] rfl) ?_
                      exact ih15 (x9 + 1) H97 hI101 hf103 (by omega) (by omega)
                  · refine fz_ldc (x := (-1999999999)) kX6_explore rfl rfl rfl ?_
                    refine fz_goto (tgt := 158) kX6_explore rfl (by decide) ?_
                    refine fz_iast (n := 776) kX6_explore rfl rfl (by omega) (by omega) ?_
                    refine fz_nmu (S := [(18, 99999), (19, 99999), (29, 99999), (33, 5), (33, 6), (33, 7), (34, 99999)]) (h0 := h) (fz_Iv_up hI62 (by decide) (show (-2147483648) ≤ (-1999999999) by omega) (show (-1999999999) ≤ 2147483647 by omega)) (fz_fr_up hf64 rfl) (fun H104 hI105 hf106 e107 => ?_)
                    clear e107
                    refine fz_aload_n kX6_explore rfl rfl ?_
                    refine fz_getR (t := 34) kX6_explore rfl rfl ?_
                    refine fz_iload kX6_explore rfl rfl ?_
                    obtain ⟨v108, e109⟩ : ∃ z, H104 34 (((y27 * 97) + (hr + (h 3 (x9.toNat)))).toNat) = z := ⟨_, rfl⟩
                    refine fz_ialdV (n := 776) (v := v108) kX6_explore rfl rfl (by omega) (by omega) e109 ?_
                    have b110 : (-2147483648) ≤ v108 ∧ v108 ≤ 2147483647 := by rw [← e109]; exact hI105.1 34 _
                    refine fz_ldc (x := (-1999999999)) kX6_explore rfl rfl rfl ?_
                    refine fz_icmp_eq (tgt := 200) kX6_explore rfl (by decide) (fun c111 => ?_) (fun c111 => ?_)
                    · refine fz_iincN (ls' := [(6, fz_i (x9 + 1)), (9, fz_i ((y27 * 97) + (hr + (h 3 (x9.toNat))))), (8, fz_i (hr + (h 3 (x9.toNat)))), (7, fz_i y27), (0, fz_r 33), (1, fz_i fr), (2, fz_i hr), (3, fz_i 0), (4, fz_i su), (5, fz_i rt)]) kX6_explore rfl (by decide) rfl (by omega) rfl ?_
                      refine fz_goto (tgt := 18) kX6_explore rfl (by decide) ?_
                      refine fz_sub (fz_pk_sub (ls' := [(6, fz_i (x9 + 1)), (0, fz_r 33), (1, fz_i fr), (2, fz_i hr), (3, fz_i 0), (4, fz_i su), (5, fz_i rt)]) [0, 4, 5, 6, 7, 8, 9] rfl) ?_
                      exact ih15 (x9 + 1) H104 hI105 hf106 (by omega) (by omega)
                    · refine fz_aload_n kX6_explore rfl rfl ?_
                      refine fz_iload kX6_explore rfl rfl ?_
                      refine fz_iload kX6_explore rfl rfl ?_
                      refine fz_iload_n kX6_explore rfl rfl ?_
                      refine fz_iconst ⟨by decide, by decide⟩ kX6_explore rfl ?_
                      refine fz_iaddN kX6_explore rfl ⟨by decide, by decide⟩ ?_
                      refine fz_eqi (y := 1) rfl ?_
                      refine fz_iload kX6_explore rfl rfl ?_
                      refine fz_aload_n kX6_explore rfl rfl ?_
                      refine fz_getR (t := 34) kX6_explore rfl rfl ?_
                      refine fz_iload kX6_explore rfl rfl ?_
                      obtain ⟨v112, e113⟩ : ∃ z, H104 34 (((y27 * 97) + (hr + (h 3 (x9.toNat)))).toNat) = z := ⟨_, rfl⟩
                      refine fz_ialdV (n := 776) (v := v112) kX6_explore rfl rfl (by omega) (by omega) e113 ?_
                      have b114 : (-2147483648) ≤ v112 ∧ v112 ≤ 2147483647 := by rw [← e113]; exact hI105.1 34 _
                      refine fz_iadd kX6_explore rfl ?_
                      refine fz_nmw (fun z115 e116 => ?_)
                      refine fz_iload kX6_explore rfl rfl ?_
                      refine fz_bipush ⟨by decide, by decide⟩ kX6_explore rfl ?_
                      refine fz_imul kX6_explore rfl ?_
                      refine fz_nmw (fun z117 e118 => ?_)
                      refine fz_iload kX6_explore rfl rfl ?_
                      refine fz_iadd kX6_explore rfl ?_
                      refine fz_nmw (fun z119 e120 => ?_)
                      refine fz_callV (d' := 7) (M' := mX6_explore) (As := [fz_i y27, fz_i (hr + (h 3 (x9.toNat))), fz_i 1, fz_i z115, fz_i z119]) (st := []) kX6_explore rfl rfl vX6_explore rfl rfl rfl rfl (Nat.le_of_ble_eq_true rfl) (Nat.le_of_ble_eq_true rfl) (by decide) (sX6_explore_1 H104 hI105 y27 (hr + (h 3 (x9.toNat))) z115 z119 (by omega) (by omega)) (fun H121 r122 q123 o124 => ?_)
                      obtain ⟨hI125, hf126, rfl⟩ := q123
                      clear o124
                      have hf127 := fz_fr_tr hf106 hf126 (show fz_su [(18, 99999), (19, 99999), (29, 99999), (33, 5), (33, 6), (33, 7), (34, 99999)] [(18, 99999), (19, 99999), (29, 99999), (33, 5), (33, 6), (33, 7), (34, 99999)] = true from rfl)
                      refine fz_iincN (ls' := [(6, fz_i (x9 + 1)), (9, fz_i ((y27 * 97) + (hr + (h 3 (x9.toNat))))), (8, fz_i (hr + (h 3 (x9.toNat)))), (7, fz_i y27), (0, fz_r 33), (1, fz_i fr), (2, fz_i hr), (3, fz_i 0), (4, fz_i su), (5, fz_i rt)]) kX6_explore rfl (by decide) rfl (by omega) rfl ?_
                      refine fz_goto (tgt := 18) kX6_explore rfl (by decide) ?_
                      refine fz_sub (fz_pk_sub (ls' := [(6, fz_i (x9 + 1)), (0, fz_r 33), (1, fz_i fr), (2, fz_i hr), (3, fz_i 0), (4, fz_i su), (5, fz_i rt)]) [0, 4, 5, 6, 7, 8, 9] rfl) ?_
                      exact ih15 (x9 + 1) H121 hI125 hf127 (by omega) (by omega)
              · refine fz_goto (tgt := 200) kX6_explore rfl (by decide) ?_
                refine fz_iincN (ls' := [(6, fz_i (x9 + 1)), (8, fz_i (hr + (h 3 (x9.toNat)))), (7, fz_i y27), (0, fz_r 33), (1, fz_i fr), (2, fz_i hr), (3, fz_i 0), (4, fz_i su), (5, fz_i rt)]) kX6_explore rfl (by decide) rfl (by omega) rfl ?_
                refine fz_goto (tgt := 18) kX6_explore rfl (by decide) ?_
                refine fz_sub (fz_pk_sub (ls' := [(6, fz_i (x9 + 1)), (0, fz_r 33), (1, fz_i fr), (2, fz_i hr), (3, fz_i 0), (4, fz_i su), (5, fz_i rt)]) [0, 3, 4, 5, 6, 7, 8] rfl) ?_
                exact ih15 (x9 + 1) H10 hI11 hf12 (by omega) (by omega)
    exact lp14 _ 0 H1 hI5 hf7 (by omega) (Nat.lt_succ_self _)
  · exfalso; omega

abbrev qX6_seek (h : fz_H) (on fr hr : Int) : fz_H → Option fz_V → Prop := fun h' r0 => fz_Iv h' ∧ fz_fr [(18, 99999), (19, 99999), (29, 99999), (33, 3), (33, 4), (33, 5), (33, 6), (33, 7), (34, 99999)] h h' ∧ r0 = none
set_option maxHeartbeats 1000000 in
set_option maxRecDepth 100000 in
theorem sX6_seek (h : fz_H) (hI : fz_Iv h) (on fr hr : Int) (hp0 : 0 ≤ on ∧ on < 4) (hp1 : 0 ≤ fr ∧ fr < 8) (hp2 : 0 ≤ hr ∧ hr ≤ 999) : fz_R 9 mX6_seek 0 [(0, fz_r 33), (1, fz_i on), (2, fz_i fr), (3, fz_i hr)] [] h (qX6_seek h on fr hr) := by
  refine fz_knowl (fun hk => ?_)
  have hr_on : -2147483648 ≤ on ∧ on < 2147483648 := hk _ (List.Mem.tail _ (List.Mem.head _))
  have hr_fr : -2147483648 ≤ fr ∧ fr < 2147483648 := hk _ (List.Mem.tail _ (List.Mem.tail _ (List.Mem.head _)))
  have hr_hr : -2147483648 ≤ hr ∧ hr < 2147483648 := hk _ (List.Mem.tail _ (List.Mem.tail _ (List.Mem.tail _ (List.Mem.head _))))
  clear hk
  have hf : fz_fr [(18, 99999), (19, 99999), (29, 99999), (33, 3), (33, 4), (33, 5), (33, 6), (33, 7), (34, 99999)] h h := fz_fr_rf
  refine fz_aload_n kX6_seek rfl rfl ?_
  refine fz_getR (t := 34) kX6_seek rfl rfl ?_
  refine fz_ldc (x := (-2000000000)) kX6_seek rfl rfl rfl ?_
  refine fz_callS (d' := 0) (M' := mJ7_fill_53178) (As := [fz_r 34, fz_i (-2000000000)]) (st := []) kX6_seek rfl rfl vJ7_fill_53178 rfl rfl (Nat.le_of_ble_eq_true rfl) (Nat.le_of_ble_eq_true rfl) (by decide) (sJ7_fill_53178_34 h hI (-2000000000) ) (fun H1 r2 q3 o4 => ?_)
  obtain ⟨hI5, hf6, rfl⟩ := q3
  clear o4
  have hf7 := fz_fr_tr hf hf6 (show fz_su [(34, 99999)] [(18, 99999), (19, 99999), (29, 99999), (33, 3), (33, 4), (33, 5), (33, 6), (33, 7), (34, 99999)] = true from rfl)
  refine fz_aload_n kX6_seek rfl rfl ?_
  refine fz_iload_n kX6_seek rfl rfl ?_
  refine fz_putI kX6_seek rfl rfl rfl ?_
  refine fz_nmu (S := [(18, 99999), (19, 99999), (29, 99999), (33, 3), (33, 4), (33, 5), (33, 6), (33, 7), (34, 99999)]) (h0 := h) (fz_Iv_up hI5 (by decide) (show 0 ≤ on by omega) (show on ≤ 3 by omega)) (fz_fr_up hf7 rfl) (fun H8 hI9 hf10 e11 => ?_)
  have k12 : H8 33 3 = on := by rw [e11]; exact fz_up_e
  clear e11
  refine fz_aload_n kX6_seek rfl rfl ?_
  refine fz_iload_n kX6_seek rfl rfl ?_
  refine fz_putI kX6_seek rfl rfl rfl ?_
  refine fz_nmu (S := [(18, 99999), (19, 99999), (29, 99999), (33, 3), (33, 4), (33, 5), (33, 6), (33, 7), (34, 99999)]) (h0 := h) (fz_Iv_up hI9 (by decide) (show 0 ≤ hr by omega) (show hr ≤ 999 by omega)) (fz_fr_up hf10 rfl) (fun H13 hI14 hf15 e16 => ?_)
  have k17 : H13 33 3 = on := by rw [e16]; exact (fz_up_s (by decide)).trans k12
  have k18 : H13 33 4 = hr := by rw [e16]; exact fz_up_e
  clear e16
  refine fz_aload_n kX6_seek rfl rfl ?_
  refine fz_iconst ⟨by decide, by decide⟩ kX6_seek rfl ?_
  refine fz_putI kX6_seek rfl rfl rfl ?_
  refine fz_nmu (S := [(18, 99999), (19, 99999), (29, 99999), (33, 3), (33, 4), (33, 5), (33, 6), (33, 7), (34, 99999)]) (h0 := h) (fz_Iv_up hI14 (by decide) (show (-2147483648) ≤ 0 by omega) (show 0 ≤ 2147483647 by omega)) (fz_fr_up hf15 rfl) (fun H19 hI20 hf21 e22 => ?_)
  have k23 : H19 33 3 = on := by rw [e22]; exact (fz_up_s (by decide)).trans k17
  have k24 : H19 33 4 = hr := by rw [e22]; exact (fz_up_s (by decide)).trans k18
  have k25 : H19 33 5 = 0 := by rw [e22]; exact fz_up_e
  clear e22
  refine fz_aload_n kX6_seek rfl rfl ?_
  refine fz_iconst ⟨by decide, by decide⟩ kX6_seek rfl ?_
  refine fz_putI kX6_seek rfl rfl rfl ?_
  refine fz_nmu (S := [(18, 99999), (19, 99999), (29, 99999), (33, 3), (33, 4), (33, 5), (33, 6), (33, 7), (34, 99999)]) (h0 := h) (fz_Iv_up hI20 (by decide) (show 0 ≤ 0 by omega) (show 0 ≤ 4 by omega)) (fz_fr_up hf21 rfl) (fun H26 hI27 hf28 e29 => ?_)
  have k30 : H26 33 3 = on := by rw [e29]; exact (fz_up_s (by decide)).trans k23
  have k31 : H26 33 4 = hr := by rw [e29]; exact (fz_up_s (by decide)).trans k24
  have k32 : H26 33 5 = 0 := by rw [e29]; exact (fz_up_s (by decide)).trans k25
  have k33 : H26 33 6 = 0 := by rw [e29]; exact fz_up_e
  clear e29
  refine fz_aload_n kX6_seek rfl rfl ?_
  refine fz_iconst ⟨by decide, by decide⟩ kX6_seek rfl ?_
  refine fz_putI kX6_seek rfl rfl rfl ?_
  refine fz_nmu (S := [(18, 99999), (19, 99999), (29, 99999), (33, 3), (33, 4), (33, 5), (33, 6), (33, 7), (34, 99999)]) (h0 := h) (fz_Iv_up hI27 (by decide) (show (-2147483648) ≤ 0 by omega) (show 0 ≤ 2147483647 by omega)) (fz_fr_up hf28 rfl) (fun H34 hI35 hf36 e37 => ?_)
  have k38 : H34 33 3 = on := by rw [e37]; exact (fz_up_s (by decide)).trans k30
  have k39 : H34 33 4 = hr := by rw [e37]; exact (fz_up_s (by decide)).trans k31
  have k40 : H34 33 5 = 0 := by rw [e37]; exact (fz_up_s (by decide)).trans k32
  have k41 : H34 33 6 = 0 := by rw [e37]; exact (fz_up_s (by decide)).trans k33
  have k42 : H34 33 7 = 0 := by rw [e37]; exact fz_up_e
  clear e37
  refine fz_aload_n kX6_seek rfl rfl ?_
  refine fz_iload_n kX6_seek rfl rfl ?_
  refine fz_iconst ⟨by decide, by decide⟩ kX6_seek rfl ?_
  refine fz_iconst ⟨by decide, by decide⟩ kX6_seek rfl ?_
  refine fz_iconst ⟨by decide, by decide⟩ kX6_seek rfl ?_
  refine fz_iconst ⟨by decide, by decide⟩ kX6_seek rfl ?_
  refine fz_callV (d' := 8) (M' := mX6_explore) (As := [fz_i fr, fz_i 0, fz_i 0, fz_i 0, fz_i 0]) (st := []) kX6_seek rfl rfl vX6_explore rfl rfl rfl rfl (Nat.le_of_ble_eq_true rfl) (Nat.le_of_ble_eq_true rfl) (by decide) (sX6_explore_0 H34 hI35 fr 0 0 0 (by omega) (by omega)) (fun H43 r44 q45 o46 => ?_)
  obtain ⟨hI47, hf48, rfl⟩ := q45
  clear o46
  have hf49 := fz_fr_tr hf36 hf48 (show fz_su [(18, 99999), (19, 99999), (29, 99999), (33, 5), (33, 6), (33, 7), (34, 99999)] [(18, 99999), (19, 99999), (29, 99999), (33, 3), (33, 4), (33, 5), (33, 6), (33, 7), (34, 99999)] = true from rfl)
  have k50 : H43 33 3 = on := (hf48 33 3 rfl).trans k38
  have k51 : H43 33 4 = hr := (hf48 33 4 rfl).trans k39
  exact fz_vret kX6_seek rfl rfl ⟨hI47, hf49, rfl⟩
