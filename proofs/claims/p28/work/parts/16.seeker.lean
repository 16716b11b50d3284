/-! ===== what the methods keep ===== -/
abbrev qX6_townAt (h : fz_H) (k : Int) : fz_H → Option fz_V → Prop := fun h' r0 => h' = h ∧ ∃ r : Int, r0 = some (fz_i r) ∧ ((-2147483648) ≤ r ∧ r ≤ 2147483647)
set_option maxHeartbeats 1000000 in
set_option maxRecDepth 100000 in
theorem sX6_townAt (h : fz_H) (hI : fz_Iv h) (k : Int) : fz_R 0 mX6_townAt 0 [(0, fz_r 33), (1, fz_i k)] [] h (qX6_townAt h k) := by
  refine fz_knowl (fun hk => ?_)
  have hr_k : -2147483648 ≤ k ∧ k < 2147483648 := hk _ (List.Mem.tail _ (List.Mem.head _))
  clear hk
  refine fz_iload_n kX6_townAt rfl rfl ?_
  refine fz_if_lt (tgt := 12) kX6_townAt rfl (by decide) (fun c1 => ?_) (fun c1 => ?_)
  · refine fz_bipush ⟨by decide, by decide⟩ kX6_townAt rfl ?_
    refine fz_goto (tgt := 35) kX6_townAt rfl (by decide) ?_
    exact fz_iret kX6_townAt rfl rfl (fun _ => ⟨rfl, _, rfl, (by omega)⟩)
  · refine fz_iload_n kX6_townAt rfl rfl ?_
    refine fz_aload_n kX6_townAt rfl rfl ?_
    refine fz_getV (v := h 33 6) kX6_townAt rfl rfl rfl ?_
    have b2 : 0 ≤ h 33 6 ∧ h 33 6 ≤ 4 := hI.1 33 _
    refine fz_icmp_lt (tgt := 17) kX6_townAt rfl (by decide) (fun c3 => ?_) (fun c3 => ?_)
    · refine fz_aload_n kX6_townAt rfl rfl ?_
      refine fz_getV (v := h 33 7) kX6_townAt rfl rfl rfl ?_
      have b4 : (-2147483648) ≤ h 33 7 ∧ h 33 7 ≤ 2147483647 := hI.1 33 _
      refine fz_iconst ⟨by decide, by decide⟩ kX6_townAt rfl ?_
      refine fz_aload_n kX6_townAt rfl rfl ?_
      refine fz_getV (v := h 33 6) kX6_townAt rfl rfl rfl ?_
      refine fz_iconst ⟨by decide, by decide⟩ kX6_townAt rfl ?_
      refine fz_isubN kX6_townAt rfl (by omega) ?_
      refine fz_iload_n kX6_townAt rfl rfl ?_
      refine fz_isubN kX6_townAt rfl (by omega) ?_
      refine fz_imulN kX6_townAt rfl (by omega) ?_
      refine fz_ishr kX6_townAt rfl ?_
      have b5 : -2147483648 ≤ (fz_shr (h 33 7) (3 * (((h 33 6) - 1) - k))) ∧ (fz_shr (h 33 7) (3 * (((h 33 6) - 1) - k))) < 2147483648 := fz_b32 _
      refine fz_bipush ⟨by decide, by decide⟩ kX6_townAt rfl ?_
      refine fz_iand kX6_townAt rfl ?_
      have b6 : -2147483648 ≤ (fz_and (fz_shr (h 33 7) (3 * (((h 33 6) - 1) - k))) 7) ∧ (fz_and (fz_shr (h 33 7) (3 * (((h 33 6) - 1) - k))) 7) < 2147483648 := fz_b32 _
      exact fz_iret kX6_townAt rfl rfl (fun _ => ⟨rfl, _, rfl, (by omega)⟩)
    · refine fz_bipush ⟨by decide, by decide⟩ kX6_townAt rfl ?_
      refine fz_goto (tgt := 35) kX6_townAt rfl (by decide) ?_
      exact fz_iret kX6_townAt rfl rfl (fun _ => ⟨rfl, _, rfl, (by omega)⟩)

abbrev qX6_compare (h : fz_H) (ro su rt : Int) : fz_H → Option fz_V → Prop := fun h' r0 => fz_Iv h' ∧ fz_fr [(33, 5), (33, 6), (33, 7)] h h' ∧ r0 = none
set_option maxHeartbeats 1000000 in
set_option maxRecDepth 100000 in
theorem sX6_compare (h : fz_H) (hI : fz_Iv h) (ro su rt : Int) (hp0 : 0 ≤ ro ∧ ro ≤ 4) : fz_R 0 mX6_compare 0 [(0, fz_r 33), (1, fz_i ro), (2, fz_i su), (3, fz_i rt)] [] h (qX6_compare h ro su rt) := by
  refine fz_knowl (fun hk => ?_)
  have hr_ro : -2147483648 ≤ ro ∧ ro < 2147483648 := hk _ (List.Mem.tail _ (List.Mem.head _))
  have hr_su : -2147483648 ≤ su ∧ su < 2147483648 := hk _ (List.Mem.tail _ (List.Mem.tail _ (List.Mem.head _)))
  have hr_rt : -2147483648 ≤ rt ∧ rt < 2147483648 := hk _ (List.Mem.tail _ (List.Mem.tail _ (List.Mem.tail _ (List.Mem.head _))))
  clear hk
  have hf : fz_fr [(33, 5), (33, 6), (33, 7)] h h := fz_fr_rf
  refine fz_iload_n kX6_compare rfl rfl ?_
  refine fz_aload_n kX6_compare rfl rfl ?_
  refine fz_getV (v := h 33 5) kX6_compare rfl rfl rfl ?_
  have b1 : (-2147483648) ≤ h 33 5 ∧ h 33 5 ≤ 2147483647 := hI.1 33 _
  refine fz_icmp_gt (tgt := 40) kX6_compare rfl (by decide) (fun c2 => ?_) (fun c2 => ?_)
  · refine fz_iconst ⟨by decide, by decide⟩ kX6_compare rfl ?_
    refine fz_goto (tgt := 45) kX6_compare rfl (by decide) ?_
    refine fz_istore (ls' := [(4, fz_i 1), (0, fz_r 33), (1, fz_i ro), (2, fz_i su), (3, fz_i rt)]) kX6_compare rfl (by decide) rfl ?_
    refine fz_iload kX6_compare rfl rfl ?_
    refine fz_if_eq (tgt := 67) kX6_compare rfl (by decide) (fun c3 => ?_) (fun c3 => ?_)
    · exfalso; omega
    · refine fz_aload_n kX6_compare rfl rfl ?_
      refine fz_iload_n kX6_compare rfl rfl ?_
      refine fz_putI kX6_compare rfl rfl rfl ?_
      refine fz_nmu (S := [(33, 5), (33, 6), (33, 7)]) (h0 := h) (fz_Iv_up hI (by decide) (show ((-2147483648) : Int) ≤ su by omega) (show (su : Int) ≤ 2147483647 by omega)) (fz_fr_up hf rfl) (fun H4 hI5 hf6 e7 => ?_)
      have k8 : H4 33 5 = su := by rw [e7]; exact fz_up_e
      clear e7
      refine fz_aload_n kX6_compare rfl rfl ?_
      refine fz_iload_n kX6_compare rfl rfl ?_
      refine fz_putI kX6_compare rfl rfl rfl ?_
      refine fz_nmu (S := [(33, 5), (33, 6), (33, 7)]) (h0 := h) (fz_Iv_up hI5 (by decide) (show (0 : Int) ≤ ro by omega) (show (ro : Int) ≤ 4 by omega)) (fz_fr_up hf6 rfl) (fun H9 hI10 hf11 e12 => ?_)
      have k13 : H9 33 5 = su := by rw [e12]; exact (fz_up_s (by decide)).trans k8
      have k14 : H9 33 6 = ro := by rw [e12]; exact fz_up_e
      clear e12
      refine fz_aload_n kX6_compare rfl rfl ?_
      refine fz_iload_n kX6_compare rfl rfl ?_
      refine fz_putI kX6_compare rfl rfl rfl ?_
      refine fz_nmu (S := [(33, 5), (33, 6), (33, 7)]) (h0 := h) (fz_Iv_up hI10 (by decide) (show ((-2147483648) : Int) ≤ rt by omega) (show (rt : Int) ≤ 2147483647 by omega)) (fz_fr_up hf11 rfl) (fun H15 hI16 hf17 e18 => ?_)
      have k19 : H15 33 5 = su := by rw [e18]; exact (fz_up_s (by decide)).trans k13
      have k20 : H15 33 6 = ro := by rw [e18]; exact (fz_up_s (by decide)).trans k14
      have k21 : H15 33 7 = rt := by rw [e18]; exact fz_up_e
      clear e18
      exact fz_vret kX6_compare rfl rfl ⟨hI16, hf17, rfl⟩
  · refine fz_iload_n kX6_compare rfl rfl ?_
    refine fz_aload_n kX6_compare rfl rfl ?_
    refine fz_getV (v := h 33 5) kX6_compare rfl rfl rfl ?_
    refine fz_icmp_ne (tgt := 44) kX6_compare rfl (by decide) (fun c22 => ?_) (fun c22 => ?_)
    · refine fz_iconst ⟨by decide, by decide⟩ kX6_compare rfl ?_
      refine fz_istore (ls' := [(4, fz_i 0), (0, fz_r 33), (1, fz_i ro), (2, fz_i su), (3, fz_i rt)]) kX6_compare rfl (by decide) rfl ?_
      refine fz_iload kX6_compare rfl rfl ?_
      refine fz_if_eq (tgt := 67) kX6_compare rfl (by decide) (fun c23 => ?_) (fun c23 => ?_)
      · exact fz_vret kX6_compare rfl rfl ⟨hI, hf, rfl⟩
      · exfalso; omega
    · refine fz_iload_n kX6_compare rfl rfl ?_
      refine fz_aload_n kX6_compare rfl rfl ?_
      refine fz_getV (v := h 33 6) kX6_compare rfl rfl rfl ?_
      have b24 : 0 ≤ h 33 6 ∧ h 33 6 ≤ 4 := hI.1 33 _
      refine fz_icmp_lt (tgt := 40) kX6_compare rfl (by decide) (fun c25 => ?_) (fun c25 => ?_)
      · refine fz_iconst ⟨by decide, by decide⟩ kX6_compare rfl ?_
        refine fz_goto (tgt := 45) kX6_compare rfl (by decide) ?_
        refine fz_istore (ls' := [(4, fz_i 1), (0, fz_r 33), (1, fz_i ro), (2, fz_i su), (3, fz_i rt)]) kX6_compare rfl (by decide) rfl ?_
        refine fz_iload kX6_compare rfl rfl ?_
        refine fz_if_eq (tgt := 67) kX6_compare rfl (by decide) (fun c26 => ?_) (fun c26 => ?_)
        · exfalso; omega
        · refine fz_aload_n kX6_compare rfl rfl ?_
          refine fz_iload_n kX6_compare rfl rfl ?_
          refine fz_putI kX6_compare rfl rfl rfl ?_
          refine fz_nmu (S := [(33, 5), (33, 6), (33, 7)]) (h0 := h) (fz_Iv_up hI (by decide) (show ((-2147483648) : Int) ≤ su by omega) (show (su : Int) ≤ 2147483647 by omega)) (fz_fr_up hf rfl) (fun H27 hI28 hf29 e30 => ?_)
          have k31 : H27 33 6 = (h 33 6) := by rw [e30]; exact (fz_up_s (by decide)).trans rfl
          have k32 : H27 33 5 = su := by rw [e30]; exact fz_up_e
          clear e30
          refine fz_aload_n kX6_compare rfl rfl ?_
          refine fz_iload_n kX6_compare rfl rfl ?_
          refine fz_putI kX6_compare rfl rfl rfl ?_
          refine fz_nmu (S := [(33, 5), (33, 6), (33, 7)]) (h0 := h) (fz_Iv_up hI28 (by decide) (show (0 : Int) ≤ ro by omega) (show (ro : Int) ≤ 4 by omega)) (fz_fr_up hf29 rfl) (fun H33 hI34 hf35 e36 => ?_)
          have k37 : H33 33 5 = su := by rw [e36]; exact (fz_up_s (by decide)).trans k32
          have k38 : H33 33 6 = ro := by rw [e36]; exact fz_up_e
          clear e36
          refine fz_aload_n kX6_compare rfl rfl ?_
          refine fz_iload_n kX6_compare rfl rfl ?_
          refine fz_putI kX6_compare rfl rfl rfl ?_
          refine fz_nmu (S := [(33, 5), (33, 6), (33, 7)]) (h0 := h) (fz_Iv_up hI34 (by decide) (show ((-2147483648) : Int) ≤ rt by omega) (show (rt : Int) ≤ 2147483647 by omega)) (fz_fr_up hf35 rfl) (fun H39 hI40 hf41 e42 => ?_)
          have k43 : H39 33 5 = su := by rw [e42]; exact (fz_up_s (by decide)).trans k37
          have k44 : H39 33 6 = ro := by rw [e42]; exact (fz_up_s (by decide)).trans k38
          have k45 : H39 33 7 = rt := by rw [e42]; exact fz_up_e
          clear e42
          exact fz_vret kX6_compare rfl rfl ⟨hI40, hf41, rfl⟩
      · refine fz_iload_n kX6_compare rfl rfl ?_
        refine fz_aload_n kX6_compare rfl rfl ?_
        refine fz_getV (v := h 33 6) kX6_compare rfl rfl rfl ?_
        refine fz_icmp_ne (tgt := 44) kX6_compare rfl (by decide) (fun c46 => ?_) (fun c46 => ?_)
        · refine fz_iconst ⟨by decide, by decide⟩ kX6_compare rfl ?_
          refine fz_istore (ls' := [(4, fz_i 0), (0, fz_r 33), (1, fz_i ro), (2, fz_i su), (3, fz_i rt)]) kX6_compare rfl (by decide) rfl ?_
          refine fz_iload kX6_compare rfl rfl ?_
          refine fz_if_eq (tgt := 67) kX6_compare rfl (by decide) (fun c47 => ?_) (fun c47 => ?_)
          · exact fz_vret kX6_compare rfl rfl ⟨hI, hf, rfl⟩
          · exfalso; omega
        · refine fz_iload_n kX6_compare rfl rfl ?_
          refine fz_aload_n kX6_compare rfl rfl ?_
          refine fz_getV (v := h 33 7) kX6_compare rfl rfl rfl ?_
          have b48 : (-2147483648) ≤ h 33 7 ∧ h 33 7 ≤ 2147483647 := hI.1 33 _
          refine fz_icmp_ge (tgt := 44) kX6_compare rfl (by decide) (fun c49 => ?_) (fun c49 => ?_)
          · refine fz_iconst ⟨by decide, by decide⟩ kX6_compare rfl ?_
            refine fz_istore (ls' := [(4, fz_i 0), (0, fz_r 33), (1, fz_i ro), (2, fz_i su), (3, fz_i rt)]) kX6_compare rfl (by decide) rfl ?_
            refine fz_iload kX6_compare rfl rfl ?_
            refine fz_if_eq (tgt := 67) kX6_compare rfl (by decide) (fun c50 => ?_) (fun c50 => ?_)
            · exact fz_vret kX6_compare rfl rfl ⟨hI, hf, rfl⟩
            · exfalso; omega
          · refine fz_iconst ⟨by decide, by decide⟩ kX6_compare rfl ?_
            refine fz_goto (tgt := 45) kX6_compare rfl (by decide) ?_
            refine fz_istore (ls' := [(4, fz_i 1), (0, fz_r 33), (1, fz_i ro), (2, fz_i su), (3, fz_i rt)]) kX6_compare rfl (by decide) rfl ?_
            refine fz_iload kX6_compare rfl rfl ?_
            refine fz_if_eq (tgt := 67) kX6_compare rfl (by decide) (fun c51 => ?_) (fun c51 => ?_)
            · exfalso; omega
            · refine fz_aload_n kX6_compare rfl rfl ?_
              refine fz_iload_n kX6_compare rfl rfl ?_
              refine fz_putI kX6_compare rfl rfl rfl ?_
              refine fz_nmu (S := [(33, 5), (33, 6), (33, 7)]) (h0 := h) (fz_Iv_up hI (by decide) (show ((-2147483648) : Int) ≤ su by omega) (show (su : Int) ≤ 2147483647 by omega)) (fz_fr_up hf rfl) (fun H52 hI53 hf54 e55 => ?_)
              have k56 : H52 33 6 = (h 33 6) := by rw [e55]; exact (fz_up_s (by decide)).trans rfl
              have k57 : H52 33 7 = (h 33 7) := by rw [e55]; exact (fz_up_s (by decide)).trans rfl
              have k58 : H52 33 5 = su := by rw [e55]; exact fz_up_e
              clear e55
              refine fz_aload_n kX6_compare rfl rfl ?_
              refine fz_iload_n kX6_compare rfl rfl ?_
              refine fz_putI kX6_compare rfl rfl rfl ?_
              refine fz_nmu (S := [(33, 5), (33, 6), (33, 7)]) (h0 := h) (fz_Iv_up hI53 (by decide) (show (0 : Int) ≤ ro by omega) (show (ro : Int) ≤ 4 by omega)) (fz_fr_up hf54 rfl) (fun H59 hI60 hf61 e62 => ?_)
              have k63 : H59 33 7 = (h 33 7) := by rw [e62]; exact (fz_up_s (by decide)).trans k57
              have k64 : H59 33 5 = su := by rw [e62]; exact (fz_up_s (by decide)).trans k58
              have k65 : H59 33 6 = ro := by rw [e62]; exact fz_up_e
              clear e62
              refine fz_aload_n kX6_compare rfl rfl ?_
              refine fz_iload_n kX6_compare rfl rfl ?_
              refine fz_putI kX6_compare rfl rfl rfl ?_
              refine fz_nmu (S := [(33, 5), (33, 6), (33, 7)]) (h0 := h) (fz_Iv_up hI60 (by decide) (show ((-2147483648) : Int) ≤ rt by omega) (show (rt : Int) ≤ 2147483647 by omega)) (fz_fr_up hf61 rfl) (fun H66 hI67 hf68 e69 => ?_)
              have k70 : H66 33 5 = su := by rw [e69]; exact (fz_up_s (by decide)).trans k64
              have k71 : H66 33 6 = ro := by rw [e69]; exact (fz_up_s (by decide)).trans k65
              have k72 : H66 33 7 = rt := by rw [e69]; exact fz_up_e
              clear e69
              exact fz_vret kX6_compare rfl rfl ⟨hI67, hf68, rfl⟩

abbrev qX6_explore_4 (h : fz_H) (fr hr su rt : Int) : fz_H → Option fz_V → Prop := fun h' r0 => fz_Iv h' ∧ fz_fr [(18, 99999), (19, 99999), (29, 99999), (33, 5), (33, 6), (33, 7), (34, 99999)] h h' ∧ r0 = none
set_option maxHeartbeats 1000000 in
set_option maxRecDepth 100000 in
theorem sX6_explore_4 (h : fz_H) (hI : fz_Iv h) (fr hr su rt : Int) (hp0 : 0 ≤ fr ∧ fr < 8) (hp1 : 0 ≤ hr ∧ hr ≤ 96) : fz_R 1 mX6_explore 0 [(0, fz_r 33), (1, fz_i fr), (2, fz_i hr), (3, fz_i 4), (4, fz_i su), (5, fz_i rt)] [] h (qX6_explore_4 h fr hr su rt) := by
  refine fz_knowl (fun hk => ?_)
  have hr_fr : -2147483648 ≤ fr ∧ fr < 2147483648 := hk _ (List.Mem.tail _ (List.Mem.head _))
  have hr_hr : -2147483648 ≤ hr ∧ hr < 2147483648 := hk _ (List.Mem.tail _ (List.Mem.tail _ (List.Mem.head _)))
  have hr_su : -2147483648 ≤ su ∧ su < 2147483648 := hk _ (List.Mem.tail _ (List.Mem.tail _ (List.Mem.tail _ (List.Mem.tail _ (List.Mem.head _)))))
  have hr_rt : -2147483648 ≤ rt ∧ rt < 2147483648 := hk _ (List.Mem.tail _ (List.Mem.tail _ (List.Mem.tail _ (List.Mem.tail _ (List.Mem.tail _ (List.Mem.head _))))))
  clear hk
  have hf : fz_fr [(18, 99999), (19, 99999), (29, 99999), (33, 5), (33, 6), (33, 7), (34, 99999)] h h := fz_fr_rf
  refine fz_aload_n kX6_explore rfl rfl ?_
  refine fz_iload_n kX6_explore rfl rfl ?_
  refine fz_iload kX6_explore rfl rfl ?_
  refine fz_iload kX6_explore rfl rfl ?_
  refine fz_callV (d' := 0) (M' := mX6_compare) (As := [fz_i 4, fz_i su, fz_i rt]) (st := []) kX6_explore rfl rfl vX6_compare rfl rfl rfl rfl (Nat.le_of_ble_eq_true rfl) (Nat.le_of_ble_eq_true rfl) (by decide) (sX6_compare h hI 4 su rt (by omega)) (fun H1 r2 q3 o4 => ?_)
  obtain ⟨hI5, hf6, rfl⟩ := q3
  clear o4
  have hf7 := fz_fr_tr hf hf6 (show fz_su [(33, 5), (33, 6), (33, 7)] [(18, 99999), (19, 99999), (29, 99999), (33, 5), (33, 6), (33, 7), (34, 99999)] = true from rfl)
  refine fz_iload_n kX6_explore rfl rfl ?_
  refine fz_iconst ⟨by decide, by decide⟩ kX6_explore rfl ?_
  refine fz_icmp_lt (tgt := 15) kX6_explore rfl (by decide) (fun c8 => ?_) (fun c8 => ?_)
  · exfalso; omega
  · exact fz_vret kX6_explore rfl rfl ⟨hI5, hf7, rfl⟩

abbrev qX6_explore_3 (h : fz_H) (fr hr su rt : Int) : fz_H → Option fz_V → Prop := fun h' r0 => fz_Iv h' ∧ fz_fr [(18, 99999), (19, 99999), (29, 99999), (33, 5), (33, 6), (33, 7), (34, 99999)] h h' ∧ r0 = none
set_option maxHeartbeats 1000000 in
set_option maxRecDepth 100000 in
theorem sX6_explore_3 (h : fz_H) (hI : fz_Iv h) (fr hr su rt : Int) (hp0 : 0 ≤ fr ∧ fr < 8) (hp1 : 0 ≤ hr ∧ hr ≤ 96) : fz_R 5 mX6_explore 0 [(0, fz_r 33), (1, fz_i fr), (2, fz_i hr), (3, fz_i 3), (4, fz_i su), (5, fz_i rt)] [] h (qX6_explore_3 h fr hr su rt) := by
  refine fz_knowl (fun hk => ?_)
  have hr_fr : -2147483648 ≤ fr ∧ fr < 2147483648 := hk _ (List.Mem.tail _ (List.Mem.head _))
  have hr_hr : -2147483648 ≤ hr ∧ hr < 2147483648 := hk _ (List.Mem.tail _ (List.Mem.tail _ (List.Mem.head _)))
  have hr_su : -2147483648 ≤ su ∧ su < 2147483648 := hk _ (List.Mem.tail _ (List.Mem.tail _ (List.Mem.tail _ (List.Mem.tail _ (List.Mem.head _)))))
  have hr_rt : -2147483648 ≤ rt ∧ rt < 2147483648 := hk _ (List.Mem.tail _ (List.Mem.tail _ (List.Mem.tail _ (List.Mem.tail _ (List.Mem.tail _ (List.Mem.head _))))))
  clear hk
  have hf : fz_fr [(18, 99999), (19, 99999), (29, 99999), (33, 5), (33, 6), (33, 7), (34, 99999)] h h := fz_fr_rf
  refine fz_aload_n kX6_explore rfl rfl ?_
  refine fz_iload_n kX6_explore rfl rfl ?_
  refine fz_iload kX6_explore rfl rfl ?_
  refine fz_iload kX6_explore rfl rfl ?_
  refine fz_callV (d' := 0) (M' := mX6_compare) (As := [fz_i 3, fz_i su, fz_i rt]) (st := []) kX6_explore rfl rfl vX6_compare rfl rfl rfl rfl (Nat.le_of_ble_eq_true rfl) (Nat.le_of_ble_eq_true rfl) (by decide) (sX6_compare h hI 3 su rt (by omega)) (fun H1 r2 q3 o4 => ?_)
  obtain ⟨hI5, hf6, rfl⟩ := q3
  clear o4
  have hf7 := fz_fr_tr hf hf6 (show fz_su [(33, 5), (33, 6), (33, 7)] [(18, 99999), (19, 99999), (29, 99999), (33, 5), (33, 6), (33, 7), (34, 99999)] = true from rfl)
  refine fz_iload_n kX6_explore rfl rfl ?_
  refine fz_iconst ⟨by decide, by decide⟩ kX6_explore rfl ?_
  refine fz_icmp_lt (tgt := 15) kX6_explore rfl (by decide) (fun c8 => ?_) (fun c8 => ?_)
  · refine fz_iconst ⟨by decide, by decide⟩ kX6_explore rfl ?_
    refine fz_istore (ls' := [(6, fz_i 0), (0, fz_r 33), (1, fz_i fr), (2, fz_i hr), (3, fz_i 3), (4, fz_i su), (5, fz_i rt)]) kX6_explore rfl (by decide) rfl ?_
    have lp14 : ∀ (n13 : Nat) (x9 : Int) (H10 : fz_H), fz_Iv H10 → fz_fr [(18, 99999), (19, 99999), (29, 99999), (33, 5), (33, 6), (33, 7), (34, 99999)] h H10 → (0 ≤ x9 ∧ x9 ≤ 2147483647) → ((h 1 8) - x9).toNat < n13 → fz_R 5 mX6_explore 18 [(6, fz_i x9), (0, fz_r 33), (1, fz_i fr), (2, fz_i hr), (3, fz_i 3), (4, fz_i su), (5, fz_i rt)] [] H10 (qX6_explore_3 h fr hr su rt) := by
      intro n13
      induction n13 with
      | zero => intro x9 H10 hI11 hf12 hv17 hm16; exact absurd hm16 (by omega)
      | succ n13 ih15 =>
        intro x9 H10 hI11 hf12 hv17 hm16
        refine fz_iload kX6_explore rfl rfl ?_
        refine fz_aload_n kX6_explore rfl rfl ?_
        refine fz_getR (t := 1) kX6_explore rfl rfl ?_
        refine fz_getV (v := h 1 8) kX6_explore rfl rfl (hf12 1 8 rfl) ?_
        have b18 : 0 ≤ h 1 8 ∧ h 1 8 ≤ 12 := hI.1 1 _
        refine fz_icmp_ge (tgt := 206) kX6_explore rfl (by decide) (fun c19 => ?_) (fun c19 => ?_)
        · exact fz_vret kX6_explore rfl rfl ⟨hI11, hf12, rfl⟩
        · refine fz_aload_n kX6_explore rfl rfl ?_
          refine fz_getR (t := 1) kX6_explore rfl rfl ?_
          refine fz_iload kX6_explore rfl rfl ?_
          refine fz_iload_n kX6_explore rfl rfl ?_
          refine fz_callV (d' := 0) (M' := mX2_acrossFrom) (As := [fz_i x9, fz_i fr]) (st := []) kX6_explore rfl rfl vX2_acrossFrom rfl rfl rfl rfl (Nat.le_of_ble_eq_true rfl) (Nat.le_of_ble_eq_true rfl) (by decide) (sX2_acrossFrom H10 hI11 x9 fr (by omega)) (fun H20 r21 q22 o23 => ?_)
          obtain ⟨e24, y28, rfl, f25, f26, f27⟩ := q22
          subst H20
          clear o23
          refine fz_istore (ls' := [(7, fz_i y28), (6, fz_i x9), (0, fz_r 33), (1, fz_i fr), (2, fz_i hr), (3, fz_i 3), (4, fz_i su), (5, fz_i rt)]) kX6_explore rfl (by decide) rfl ?_
          refine fz_iload_n kX6_explore rfl rfl ?_
          refine fz_aload_n kX6_explore rfl rfl ?_
          refine fz_getR (t := 1) kX6_explore rfl rfl ?_
          refine fz_getR (t := 3) kX6_explore rfl rfl ?_
          refine fz_iload kX6_explore rfl rfl ?_
          refine fz_ialdV (n := 12) (v := h 3 (x9.toNat)) kX6_explore rfl rfl (by omega) (by omega) (hf12 3 _ rfl) ?_
          have b29 : 0 ≤ h 3 (x9.toNat) ∧ h 3 (x9.toNat) ≤ 24 := hI.1 3 _
          refine fz_iaddN kX6_explore rfl (by omega) ?_
          refine fz_istore (ls' := [(8, fz_i (hr + (h 3 (x9.toNat)))), (7, fz_i y28), (6, fz_i x9), (0, fz_r 33), (1, fz_i fr), (2, fz_i hr), (3, fz_i 3), (4, fz_i su), (5, fz_i rt)]) kX6_explore rfl (by decide) rfl ?_
          refine fz_iload kX6_explore rfl rfl ?_
          refine fz_if_lt (tgt := 200) kX6_explore rfl (by decide) (fun c30 => ?_) (fun c30 => ?_)
          · refine fz_iincN (ls' := [(6, fz_i (x9 + 1)), (8, fz_i (hr + (h 3 (x9.toNat)))), (7, fz_i y28), (0, fz_r 33), (1, fz_i fr), (2, fz_i hr), (3, fz_i 3), (4, fz_i su), (5, fz_i rt)]) kX6_explore rfl (by decide) rfl (by omega) rfl ?_
            refine fz_goto (tgt := 18) kX6_explore rfl (by decide) ?_
            refine fz_sub (fz_pk_sub (ls' := [(6, fz_i (x9 + 1)), (0, fz_r 33), (1, fz_i fr), (2, fz_i hr), (3, fz_i 3), (4, fz_i su), (5, fz_i rt)]) [0, 3, 4, 5, 6, 7, 8] rfl) ?_
            exact ih15 (x9 + 1) H10 hI11 hf12 (by omega) (by omega)
          · refine fz_iload kX6_explore rfl rfl ?_
            refine fz_bipush ⟨by decide, by decide⟩ kX6_explore rfl ?_
            refine fz_icmp_ge (tgt := 200) kX6_explore rfl (by decide) (fun c31 => ?_) (fun c31 => ?_)
            · refine fz_iincN (ls' := [(6, fz_i (x9 + 1)), (8, fz_i (hr + (h 3 (x9.toNat)))), (7, fz_i y28), (0, fz_r 33), (1, fz_i fr), (2, fz_i hr), (3, fz_i 3), (4, fz_i su), (5, fz_i rt)]) kX6_explore rfl (by decide) rfl (by omega) rfl ?_
              refine fz_goto (tgt := 18) kX6_explore rfl (by decide) ?_
              refine fz_sub (fz_pk_sub (ls' := [(6, fz_i (x9 + 1)), (0, fz_r 33), (1, fz_i fr), (2, fz_i hr), (3, fz_i 3), (4, fz_i su), (5, fz_i rt)]) [0, 3, 4, 5, 6, 7, 8] rfl) ?_
              exact ih15 (x9 + 1) H10 hI11 hf12 (by omega) (by omega)
            · refine fz_aload_n kX6_explore rfl rfl ?_
              refine fz_getV (v := h 33 4) kX6_explore rfl rfl (hf12 33 4 rfl) ?_
              have b32 : 0 ≤ h 33 4 ∧ h 33 4 ≤ 999 := hI.1 33 _
              refine fz_iload kX6_explore rfl rfl ?_
              refine fz_iaddN kX6_explore rfl (by omega) ?_
              refine fz_sipush ⟨by decide, by decide⟩ kX6_explore rfl ?_
              refine fz_icmp_le (tgt := 84) kX6_explore rfl (by decide) (fun c33 => ?_) (fun c33 => ?_)
              · refine fz_iload kX6_explore rfl rfl ?_
                refine fz_bipush ⟨by decide, by decide⟩ kX6_explore rfl ?_
                refine fz_imulN kX6_explore rfl (by omega) ?_
                refine fz_iload kX6_explore rfl rfl ?_
                refine fz_iaddN kX6_explore rfl (by omega) ?_
                refine fz_istore (ls' := [(9, fz_i ((y28 * 97) + (hr + (h 3 (x9.toNat))))), (8, fz_i (hr + (h 3 (x9.toNat)))), (7, fz_i y28), (6, fz_i x9), (0, fz_r 33), (1, fz_i fr), (2, fz_i hr), (3, fz_i 3), (4, fz_i su), (5, fz_i rt)]) kX6_explore rfl (by decide) rfl ?_
                refine fz_aload_n kX6_explore rfl rfl ?_
                refine fz_getR (t := 34) kX6_explore rfl rfl ?_
                refine fz_iload kX6_explore rfl rfl ?_
                obtain ⟨v34, e35⟩ : ∃ z, H10 34 (((y28 * 97) + (hr + (h 3 (x9.toNat)))).toNat) = z := ⟨_, rfl⟩
                refine fz_ialdV (n := 776) (v := v34) kX6_explore rfl rfl (by omega) (by omega) e35 ?_
                have b36 : (-2147483648) ≤ v34 ∧ v34 ≤ 2147483647 := by rw [← e35]; exact hI11.1 34 _
                refine fz_ldc (x := (-2000000000)) kX6_explore rfl rfl rfl ?_
                refine fz_icmp_ne (tgt := 159) kX6_explore rfl (by decide) (fun c37 => ?_) (fun c37 => ?_)
                · refine fz_aload_n kX6_explore rfl rfl ?_
                  refine fz_getR (t := 34) kX6_explore rfl rfl ?_
                  refine fz_iload kX6_explore rfl rfl ?_
                  obtain ⟨v38, e39⟩ : ∃ z, H10 34 (((y28 * 97) + (hr + (h 3 (x9.toNat)))).toNat) = z := ⟨_, rfl⟩
                  refine fz_ialdV (n := 776) (v := v38) kX6_explore rfl rfl (by omega) (by omega) e39 ?_
                  have b40 : (-2147483648) ≤ v38 ∧ v38 ≤ 2147483647 := by rw [← e39]; exact hI11.1 34 _
                  refine fz_ldc (x := (-1999999999)) kX6_explore rfl rfl rfl ?_
                  refine fz_icmp_eq (tgt := 200) kX6_explore rfl (by decide) (fun c41 => ?_) (fun c41 => ?_)
                  · refine fz_iincN (ls' := [(6, fz_i (x9 + 1)), (9, fz_i ((y28 * 97) + (hr + (h 3 (x9.toNat))))), (8, fz_i (hr + (h 3 (x9.toNat)))), (7, fz_i y28), (0, fz_r 33), (1, fz_i fr), (2, fz_i hr), (3, fz_i 3), (4, fz_i su), (5, fz_i rt)]) kX6_explore rfl (by decide) rfl (by omega) rfl ?_
                    refine fz_goto (tgt := 18) kX6_explore rfl (by decide) ?_
                    refine fz_sub (fz_pk_sub (ls' := [(6, fz_i (x9 + 1)), (0, fz_r 33), (1, fz_i fr), (2, fz_i hr), (3, fz_i 3), (4, fz_i su), (5, fz_i rt)]) [0, 4, 5, 6, 7, 8, 9] rfl) ?_
                    exact ih15 (x9 + 1) H10 hI11 hf12 (by omega) (by omega)
                  · refine fz_aload_n kX6_explore rfl rfl ?_
                    refine fz_iload kX6_explore rfl rfl ?_
                    refine fz_iload kX6_explore rfl rfl ?_
                    refine fz_iload_n kX6_explore rfl rfl ?_
                    refine fz_iconst ⟨by decide, by decide⟩ kX6_explore rfl ?_
                    refine fz_iaddN kX6_explore rfl ⟨by decide, by decide⟩ ?_
                    refine fz_eqi (y := 4) rfl ?_
                    refine fz_iload kX6_explore rfl rfl ?_
                    refine fz_aload_n kX6_explore rfl rfl ?_
                    refine fz_getR (t := 34) kX6_explore rfl rfl ?_
                    refine fz_iload kX6_explore rfl rfl ?_
                    obtain ⟨v42, e43⟩ : ∃ z, H10 34 (((y28 * 97) + (hr + (h 3 (x9.toNat)))).toNat) = z := ⟨_, rfl⟩
                    refine fz_ialdV (n := 776) (v := v42) kX6_explore rfl rfl (by omega) (by omega) e43 ?_
                    have b44 : (-2147483648) ≤ v42 ∧ v42 ≤ 2147483647 := by rw [← e43]; exact hI11.1 34 _
                    refine fz_iadd kX6_explore rfl ?_
                    refine fz_nmw (fun z45 e46 => ?_)
                    refine fz_iload kX6_explore rfl rfl ?_
                    refine fz_bipush ⟨by decide, by decide⟩ kX6_explore rfl ?_
                    refine fz_imul kX6_explore rfl ?_
                    refine fz_nmw (fun z47 e48 => ?_)
                    refine fz_iload kX6_explore rfl rfl ?_
                    refine fz_iadd kX6_explore rfl ?_
                    refine fz_nmw (fun z49 e50 => ?_)
                    refine fz_callV (d' := 1) (M' := mX6_explore) (As := [fz_i y28, fz_i (hr + (h 3 (x9.toNat))), fz_i 4, fz_i z45, fz_i z49]) (st := []) kX6_explore rfl rfl vX6_explore rfl rfl rfl rfl (Nat.le_of_ble_eq_true rfl) (Nat.le_of_ble_eq_true rfl) (by decide) (sX6_explore_4 H10 hI11 y28 (hr + (h 3 (x9.toNat))) z45 z49 (by omega) (by omega)) (fun H51 r52 q53 o54 => ?_)
                    obtain ⟨hI55, hf56, rfl⟩ := q53
                    clear o54
                    have hf57 := fz_fr_tr hf12 hf56 (show fz_su [(18, 99999), (19, 99999), (29, 99999), (33, 5), (33, 6), (33, 7), (34, 99999)] [(18, 99999), (19, 99999), (29, 99999), (33, 5), (33, 6), (33, 7), (34, 99999)] = true from rfl)
                    refine fz_iincN (ls' := [(6, fz_i (x9 + 1)), (9, fz_i ((y28 * 97) + (hr + (h 3 (x9.toNat))))), (8, fz_i (hr + (h 3 (x9.toNat)))), (7, fz_i y28), (0, fz_r 33), (1, fz_i fr), (2, fz_i hr), (3, fz_i 3), (4, fz_i su), (5, fz_i rt)]) kX6_explore rfl (by decide) rfl (by omega) rfl ?_
                    refine fz_goto (tgt := 18) kX6_explore rfl (by decide) ?_
                    refine fz_sub (fz_pk_sub (ls' := [(6, fz_i (x9 + 1)), (0, fz_r 33), (1, fz_i fr), (2, fz_i hr), (3, fz_i 3), (4, fz_i su), (5, fz_i rt)]) [0, 4, 5, 6, 7, 8, 9] rfl) ?_
                    exact ih15 (x9 + 1) H51 hI55 hf57 (by omega) (by omega)
                · refine fz_aload_n kX6_explore rfl rfl ?_
                  refine fz_getR (t := 27) kX6_explore rfl rfl ?_
                  refine fz_aload_n kX6_explore rfl rfl ?_
                  refine fz_getV (v := h 33 3) kX6_explore rfl rfl (hf12 33 3 rfl) ?_
                  have b58 : 0 ≤ h 33 3 ∧ h 33 3 ≤ 3 := hI.1 33 _
                  refine fz_aload_n kX6_explore rfl rfl ?_
                  refine fz_getV (v := h 33 3) kX6_explore rfl rfl (hf12 33 3 rfl) ?_
                  refine fz_iload kX6_explore rfl rfl ?_
                  refine fz_aload_n kX6_explore rfl rfl ?_
                  refine fz_getV (v := h 33 4) kX6_explore rfl rfl (hf12 33 4 rfl) ?_
                  refine fz_iload kX6_explore rfl rfl ?_
                  refine fz_iaddN kX6_explore rfl (by omega) ?_
                  refine fz_callV (d' := 4) (M' := mX8_listen) (As := [fz_i (h 33 3), fz_i (h 33 3), fz_i y28, fz_i ((h 33 4) + (hr + (h 3 (x9.toNat))))]) (st := []) kX6_explore rfl rfl vX8_listen rfl rfl rfl rfl (Nat.le_of_ble_eq_true rfl) (Nat.le_of_ble_eq_true rfl) (by decide) (sX8_listen H10 hI11 (h 33 3) (h 33 3) y28 ((h 33 4) + (hr + (h 3 (x9.toNat)))) (by omega)) (fun H59 r60 q61 o62 => ?_)
                  obtain ⟨hI63, hf64, rfl, f65⟩ := q61
                  clear o62
                  have hf66 := fz_fr_tr hf12 hf64 (show fz_su [(18, 99999), (19, 99999), (29, 99999)] [(18, 99999), (19, 99999), (29, 99999), (33, 5), (33, 6), (33, 7), (34, 99999)] = true from rfl)
                  refine fz_aload_n kX6_explore rfl rfl ?_
                  refine fz_getR (t := 34) kX6_explore rfl rfl ?_
                  refine fz_iload kX6_explore rfl rfl ?_
                  refine fz_aload_n kX6_explore rfl rfl ?_
                  refine fz_getR (t := 27) kX6_explore rfl rfl ?_
                  have b67 : (-2147483648) ≤ H59 29 1 ∧ H59 29 1 ≤ 2147483647 := hI63.1 29 _
                  have b68 : 0 ≤ h 27 8 ∧ h 27 8 ≤ 99 := hI.1 27 _
                  have e69 : H59 27 8 = h 27 8 := hf66 27 8 rfl
                  refine fz_callV (d' := 1) (M' := mX8_isArrested) (As := []) (st := [fz_i ((y28 * 97) + (hr + (h 3 (x9.toNat)))), fz_r 34]) kX6_explore rfl rfl vX8_isArrested rfl rfl rfl rfl (Nat.le_of_ble_eq_true rfl) (Nat.le_of_ble_eq_true rfl) (by decide) (sX8_isArrested H59 hI63  ) (fun H70 r71 q72 o73 => ?_)
                  obtain ⟨e74, y76, rfl, p77, f75⟩ := q72
                  subst H70
                  clear o73
                  refine fz_if_eq (tgt := 151) kX6_explore rfl (by decide) (fun c78 => ?_) (fun c78 => ?_)
                  · refine fz_aload_n kX6_explore rfl rfl ?_
                    refine fz_getR (t := 27) kX6_explore rfl rfl ?_
                    refine fz_callV (d' := 0) (M' := mX8_reception) (As := []) (st := [fz_i ((y28 * 97) + (hr + (h 3 (x9.toNat)))), fz_r 34]) kX6_explore rfl rfl vX8_reception rfl rfl rfl rfl (Nat.le_of_ble_eq_true rfl) (Nat.le_of_ble_eq_true rfl) (by decide) (sX8_reception H59 hI63  ) (fun H79 r80 q81 o82 => ?_)
                    obtain ⟨e83, y86, rfl, f84, f85⟩ := q81
                    subst H79
                    clear o82
                    refine fz_iast (n := 776) kX6_explore rfl rfl (by omega) (by omega) ?_
                    refine fz_nmu (S := [(18, 99999), (19, 99999), (29, 99999), (33, 5), (33, 6), (33, 7), (34, 99999)]) (h0 := h) (fz_Iv_up hI63 (by decide) (show ((-2147483648) : Int) ≤ y86 by omega) (show (y86 : Int) ≤ 2147483647 by omega)) (fz_fr_up hf66 rfl) (fun H87 hI88 hf89 e90 => ?_)
                    clear e90
                    refine fz_aload_n kX6_explore rfl rfl ?_
                    refine fz_getR (t := 34) kX6_explore rfl rfl ?_
                    refine fz_iload kX6_explore rfl rfl ?_
                    obtain ⟨v91, e92⟩ : ∃ z, H87 34 (((y28 * 97) + (hr + (h 3 (x9.toNat)))).toNat) = z := ⟨_, rfl⟩
                    refine fz_ialdV (n := 776) (v := v91) kX6_explore rfl rfl (by omega) (by omega) e92 ?_
                    have b93 : (-2147483648) ≤ v91 ∧ v91 ≤ 2147483647 := by rw [← e92]; exact hI88.1 34 _
                    refine fz_ldc (x := (-1999999999)) kX6_explore rfl rfl rfl ?_
                    refine fz_icmp_eq (tgt := 200) kX6_explore rfl (by decide) (fun c94 => ?_) (fun c94 => ?_)
                    · refine fz_iincN (ls' := [(6, fz_i (x9 + 1)), (9, fz_i ((y28 * 97) + (hr + (h 3 (x9.toNat))))), (8, fz_i (hr + (h 3 (x9.toNat)))), (7, fz_i y28), (0, fz_r 33), (1, fz_i fr), (2, fz_i hr), (3, fz_i 3), (4, fz_i su), (5, fz_i rt)]) kX6_explore rfl (by decide) rfl (by omega) rfl ?_
                      refine fz_goto (tgt := 18) kX6_explore rfl (by decide) ?_
                      refine fz_sub (fz_pk_sub (ls' := [(6, fz_i (x9 + 1)), (0, fz_r 33), (1, fz_i fr), (2, fz_i hr), (3, fz_i 3), (4, fz_i su), (5, fz_i rt)]) [0, 4, 5, 6, 7, 8, 9] rfl) ?_
                      exact ih15 (x9 + 1) H87 hI88 hf89 (by omega) (by omega)
                    · refine fz_aload_n kX6_explore rfl rfl ?_
                      refine fz_iload kX6_explore rfl rfl ?_
                      refine fz_iload kX6_explore rfl rfl ?_
                      refine fz_iload_n kX6_explore rfl rfl ?_
                      refine fz_iconst ⟨by decide, by decide⟩ kX6_explore rfl ?_
                      refine fz_iaddN kX6_explore rfl ⟨by decide, by decide⟩ ?_
                      refine fz_eqi (y := 4) rfl ?_
                      refine fz_iload kX6_explore rfl rfl ?_
                      refine fz_aload_n kX6_explore rfl rfl ?_
                      refine fz_getR (t := 34) kX6_explore rfl rfl ?_
                      refine fz_iload kX6_explore rfl rfl ?_
                      obtain ⟨v95, e96⟩ : ∃ z, H87 34 (((y28 * 97) + (hr + (h 3 (x9.toNat)))).toNat) = z := ⟨_, rfl⟩
                      refine fz_ialdV (n := 776) (v := v95) kX6_explore rfl rfl (by omega) (by omega) e96 ?_
                      have b97 : (-2147483648) ≤ v95 ∧ v95 ≤ 2147483647 := by rw [← e96]; exact hI88.1 34 _
                      refine fz_iadd kX6_explore rfl ?_
                      refine fz_nmw (fun z98 e99 => ?_)
                      refine fz_iload kX6_explore rfl rfl ?_
                      refine fz_bipush ⟨by decide, by decide⟩ kX6_explore rfl ?_
                      refine fz_imul kX6_explore rfl ?_
                      refine fz_nmw (fun z100 e101 => ?_)
                      refine fz_iload kX6_explore rfl rfl ?_
                      refine fz_iadd kX6_explore rfl ?_
                      refine fz_nmw (fun z102 e103 => ?_)
                      refine fz_callV (d' := 1) (M' := mX6_explore) (As := [fz_i y28, fz_i (hr + (h 3 (x9.toNat))), fz_i 4, fz_i z98, fz_i z102]) (st := []) kX6_explore rfl rfl vX6_explore rfl rfl rfl rfl (Nat.le_of_ble_eq_true rfl) (Nat.le_of_ble_eq_true rfl) (by decide) (sX6_explore_4 H87 hI88 y28 (hr + (h 3 (x9.toNat))) z98 z102 (by omega) (by omega)) (fun H104 r105 q106 o107 => ?_)
                      obtain ⟨hI108, hf109, rfl⟩ := q106
                      clear o107
                      have hf110 := fz_fr_tr hf89 hf109 (show fz_su [(18, 99999), (19, 99999), (29, 99999), (33, 5), (33, 6), (33, 7), (34, 99999)] [(18, 99999), (19, 99999), (29, 99999), (33, 5), (33, 6), (33, 7), (34, 99999)] = true from rfl)
                      refine fz_iincN (ls' := [(6, fz_i (x9 + 1)), (9, fz_i ((y28 * 97) + (hr + (h 3 (x9.toNat))))), (8, fz_i (hr + (h 3 (x9.toNat)))), (7, fz_i y28), (0, fz_r 33), (1, fz_i fr), (2, fz_i hr), (3, fz_i 3), (4, fz_i su), (5, fz_i rt)]) kX6_explore rfl (by decide) rfl (by omega) rfl ?_
                      refine fz_goto (tgt := 18) kX6_explore rfl (by decide) ?_
                      refine fz_sub (fz_pk_sub (ls' := [(6, fz_i (x9 + 1)), (0, fz_r 33), (1, fz_i fr), (2, fz_i hr), (3, fz_i 3), (4, fz_i su), (5, fz_i rt)]) [0, 4, 5, 6, 7, 8, 9] rfl) ?_
                      exact ih15 (x9 + 1) H104 hI108 hf110 (by omega) (by omega)
                  · refine fz_ldc (x := (-1999999999)) kX6_explore rfl rfl rfl ?_
                    refine fz_goto (tgt := 158) kX6_explore rfl (by decide) ?_
                    refine fz_iast (n := 776) kX6_explore rfl rfl (by omega) (by omega) ?_
                    refine fz_nmu (S := [(18, 99999), (19, 99999), (29, 99999), (33, 5), (33, 6), (33, 7), (34, 99999)]) (h0 := h) (fz_Iv_up hI63 (by decide) (show ((-2147483648) : Int) ≤ (-1999999999) by decide) (show ((-1999999999) : Int) ≤ 2147483647 by decide)) (fz_fr_up hf66 rfl) (fun H111 hI112 hf113 e114 => ?_)
                    clear e114
                    refine fz_aload_n kX6_explore rfl rfl ?_
                    refine fz_getR (t := 34) kX6_explore rfl rfl ?_
                    refine fz_iload kX6_explore rfl rfl ?_
                    obtain ⟨v115, e116⟩ : ∃ z, H111 34 (((y28 * 97) + (hr + (h 3 (x9.toNat)))).toNat) = z := ⟨_, rfl⟩
                    refine fz_ialdV (n := 776) (v := v115) kX6_explore rfl rfl (by omega) (by omega) e116 ?_
                    have b117 : (-2147483648) ≤ v115 ∧ v115 ≤ 2147483647 := by rw [← e116]; exact hI112.1 34 _
                    refine fz_ldc (x := (-1999999999)) kX6_explore rfl rfl rfl ?_
                    refine fz_icmp_eq (tgt := 200) kX6_explore rfl (by decide) (fun c118 => ?_) (fun c118 => ?_)
                    · refine fz_iincN (ls' := [(6, fz_i (x9 + 1)), (9, fz_i ((y28 * 97) + (hr + (h 3 (x9.toNat))))), (8, fz_i (hr + (h 3 (x9.toNat)))), (7, fz_i y28), (0, fz_r 33), (1, fz_i fr), (2, fz_i hr), (3, fz_i 3), (4, fz_i su), (5, fz_i rt)]) kX6_explore rfl (by decide) rfl (by omega) rfl ?_
                      refine fz_goto (tgt := 18) kX6_explore rfl (by decide) ?_
                      refine fz_sub (fz_pk_sub (ls' := [(6, fz_i (x9 + 1)), (0, fz_r 33), (1, fz_i fr), (2, fz_i hr), (3, fz_i 3), (4, fz_i su), (5, fz_i rt)]) [0, 4, 5, 6, 7, 8, 9] rfl) ?_
                      exact ih15 (x9 + 1) H111 hI112 hf113 (by omega) (by omega)
                    · refine fz_aload_n kX6_explore rfl rfl ?_
                      refine fz_iload kX6_explore rfl rfl ?_
                      refine fz_iload kX6_explore rfl rfl ?_
                      refine fz_iload_n kX6_explore rfl rfl ?_
                      refine fz_iconst ⟨by decide, by decide⟩ kX6_explore rfl ?_
                      refine fz_iaddN kX6_explore rfl ⟨by decide, by decide⟩ ?_
                      refine fz_eqi (y := 4) rfl ?_
                      refine fz_iload kX6_explore rfl rfl ?_
                      refine fz_aload_n kX6_explore rfl rfl ?_
                      refine fz_getR (t := 34) kX6_explore rfl rfl ?_
                      refine fz_iload kX6_explore rfl rfl ?_
                      obtain ⟨v119, e120⟩ : ∃ z, H111 34 (((y28 * 97) + (hr + (h 3 (x9.toNat)))).toNat) = z := ⟨_, rfl⟩
                      refine fz_ialdV (n := 776) (v := v119) kX6_explore rfl rfl (by omega) (by omega) e120 ?_
                      have b121 : (-2147483648) ≤ v119 ∧ v119 ≤ 2147483647 := by rw [← e120]; exact hI112.1 34 _
                      refine fz_iadd kX6_explore rfl ?_
                      refine fz_nmw (fun z122 e123 => ?_)
                      refine fz_iload kX6_explore rfl rfl ?_
                      refine fz_bipush ⟨by decide, by decide⟩ kX6_explore rfl ?_
                      refine fz_imul kX6_explore rfl ?_
                      refine fz_nmw (fun z124 e125 => ?_)
                      refine fz_iload kX6_explore rfl rfl ?_
                      refine fz_iadd kX6_explore rfl ?_
                      refine fz_nmw (fun z126 e127 => ?_)
                      refine fz_callV (d' := 1) (M' := mX6_explore) (As := [fz_i y28, fz_i (hr + (h 3 (x9.toNat))), fz_i 4, fz_i z122, fz_i z126]) (st := []) kX6_explore rfl rfl vX6_explore rfl rfl rfl rfl (Nat.le_of_ble_eq_true rfl) (Nat.le_of_ble_eq_true rfl) (by decide) (sX6_explore_4 H111 hI112 y28 (hr + (h 3 (x9.toNat))) z122 z126 (by omega) (by omega)) (fun H128 r129 q130 o131 => ?_)
                      obtain ⟨hI132, hf133, rfl⟩ := q130
                      clear o131
                      have hf134 := fz_fr_tr hf113 hf133 (show fz_su [(18, 99999), (19, 99999), (29, 99999), (33, 5), (33, 6), (33, 7), (34, 99999)] [(18, 99999), (19, 99999), (29, 99999), (33, 5), (33, 6), (33, 7), (34, 99999)] = true from rfl)
                      refine fz_iincN (ls' := [(6, fz_i (x9 + 1)), (9, fz_i ((y28 * 97) + (hr + (h 3 (x9.toNat))))), (8, fz_i (hr + (h 3 (x9.toNat)))), (7, fz_i y28), (0, fz_r 33), (1, fz_i fr), (2, fz_i hr), (3, fz_i 3), (4, fz_i su), (5, fz_i rt)]) kX6_explore rfl (by decide) rfl (by omega) rfl ?_
                      refine fz_goto (tgt := 18) kX6_explore rfl (by decide) ?_
                      refine fz_sub (fz_pk_sub (ls' := [(6, fz_i (x9 + 1)), (0, fz_r 33), (1, fz_i fr), (2, fz_i hr), (3, fz_i 3), (4, fz_i su), (5, fz_i rt)]) [0, 4, 5, 6, 7, 8, 9] rfl) ?_
                      exact ih15 (x9 + 1) H128 hI132 hf134 (by omega) (by omega)
              · refine fz_goto (tgt := 200) kX6_explore rfl (by decide) ?_
                refine fz_iincN (ls' := [(6, fz_i (x9 + 1)), (8, fz_i (hr + (h 3 (x9.toNat)))), (7, fz_i y28), (0, fz_r 33), (1, fz_i fr), (2, fz_i hr), (3, fz_i 3), (4, fz_i su), (5, fz_i rt)]) kX6_explore rfl (by decide) rfl (by omega) rfl ?_
                refine fz_goto (tgt := 18) kX6_explore rfl (by decide) ?_
                refine fz_sub (fz_pk_sub (ls' := [(6, fz_i (x9 + 1)), (0, fz_r 33), (1, fz_i fr), (2, fz_i hr), (3, fz_i 3), (4, fz_i su), (5, fz_i rt)]) [0, 3, 4, 5, 6, 7, 8] rfl) ?_
                exact ih15 (x9 + 1) H10 hI11 hf12 (by omega) (by omega)
    exact lp14 _ 0 H1 hI5 hf7 (by omega) (Nat.lt_succ_self _)
  · exfalso; omega

abbrev qX6_explore_2 (h : fz_H) (fr hr su rt : Int) : fz_H → Option fz_V → Prop := fun h' r0 => fz_Iv h' ∧ fz_fr [(18, 99999), (19, 99999), (29, 99999), (33, 5), (33, 6), (33, 7), (34, 99999)] h h' ∧ r0 = none
set_option maxHeartbeats 1000000 in
set_option maxRecDepth 100000 in
theorem sX6_explore_2 (h : fz_H) (hI : fz_Iv h) (fr hr su rt : Int) (hp0 : 0 ≤ fr ∧ fr < 8) (hp1 : 0 ≤ hr ∧ hr ≤ 96) : fz_R 6 mX6_explore 0 [(0, fz_r 33), (1, fz_i fr), (2, fz_i hr), (3, fz_i 2), (4, fz_i su), (5, fz_i rt)] [] h (qX6_explore_2 h fr hr su rt) := by
  refine fz_knowl (fun hk => ?_)
  have hr_fr : -2147483648 ≤ fr ∧ fr < 2147483648 := hk _ (List.Mem.tail _ (List.Mem.head _))
  have hr_hr : -2147483648 ≤ hr ∧ hr < 2147483648 := hk _ (List.Mem.tail _ (List.Mem.tail _ (List.Mem.head _)))
  have hr_su : -2147483648 ≤ su ∧ su < 2147483648 := hk _ (List.Mem.tail _ (List.Mem.tail _ (List.Mem.tail _ (List.Mem.tail _ (List.Mem.head _)))))
  have hr_rt : -2147483648 ≤ rt ∧ rt < 2147483648 := hk _ (List.Mem.tail _ (List.Mem.tail _ (List.Mem.tail _ (List.Mem.tail _ (List.Mem.tail _ (List.Mem.head _))))))
  clear hk
  have hf : fz_fr [(18, 99999), (19, 99999), (29, 99999), (33, 5), (33, 6), (33, 7), (34, 99999)] h h := fz_fr_rf
  refine fz_aload_n kX6_explore rfl rfl ?_
  refine fz_iload_n kX6_explore rfl rfl ?_
  refine fz_iload kX6_explore rfl rfl ?_
  refine fz_iload kX6_explore rfl rfl ?_
  refine fz_callV (d' := 0) (M' := mX6_compare) (As := [fz_i 2, fz_i su, fz_i rt]) (st := []) kX6_explore rfl rfl vX6_compare rfl rfl rfl rfl (Nat.le_of_ble_eq_true rfl) (Nat.le_of_ble_eq_true rfl) (by decide) (sX6_compare h hI 2 su rt (by omega)) (fun H1 r2 q3 o4 => ?_)
  obtain ⟨hI5, hf6, rfl⟩ := q3
  clear o4
  have hf7 := fz_fr_tr hf hf6 (show fz_su [(33, 5), (33, 6), (33, 7)] [(18, 99999), (19, 99999), (29, 99999), (33, 5), (33, 6), (33, 7), (34, 99999)] = true from rfl)
  refine fz_iload_n kX6_explore rfl rfl ?_
  refine fz_iconst ⟨by decide, by decide⟩ kX6_explore rfl ?_
  refine fz_icmp_lt (tgt := 15) kX6_explore rfl (by decide) (fun c8 => ?_) (fun c8 => ?_)
  · refine fz_iconst ⟨by decide, by decide⟩ kX6_explore rfl ?_
    refine fz_istore (ls' := [(6, fz_i 0), (0, fz_r 33), (1, fz_i fr), (2, fz_i hr), (3, fz_i 2), (4, fz_i su), (5, fz_i rt)]) kX6_explore rfl (by decide) rfl ?_
    have lp14 : ∀ (n13 : Nat) (x9 : Int) (H10 : fz_H), fz_Iv H10 → fz_fr [(18, 99999), (19, 99999), (29, 99999), (33, 5), (33, 6), (33, 7), (34, 99999)] h H10 → (0 ≤ x9 ∧ x9 ≤ 2147483647) → ((h 1 8) - x9).toNat < n13 → fz_R 6 mX6_explore 18 [(6, fz_i x9), (0, fz_r 33), (1, fz_i fr), (2, fz_i hr), (3, fz_i 2), (4, fz_i su), (5, fz_i rt)] [] H10 (qX6_explore_2 h fr hr su rt) := by
      intro n13
      induction n13 with
      | zero => intro x9 H10 hI11 hf12 hv17 hm16; exact absurd hm16 (by omega)
      | succ n13 ih15 =>
        intro x9 H10 hI11 hf12 hv17 hm16
        refine fz_iload kX6_explore rfl rfl ?_
        refine fz_aload_n kX6_explore rfl rfl ?_
        refine fz_getR (t := 1) kX6_explore rfl rfl ?_
        refine fz_getV (v := h 1 8) kX6_explore rfl rfl (hf12 1 8 rfl) ?_
        have b18 : 0 ≤ h 1 8 ∧ h 1 8 ≤ 12 := hI.1 1 _
        refine fz_icmp_ge (tgt := 206) kX6_explore rfl (by decide) (fun c19 => ?_) (fun c19 => ?_)
        · exact fz_vret kX6_explore rfl rfl ⟨hI11, hf12, rfl⟩
        · refine fz_aload_n kX6_explore rfl rfl ?_
          refine fz_getR (t := 1) kX6_explore rfl rfl ?_
          refine fz_iload kX6_explore rfl rfl ?_
          refine fz_iload_n kX6_explore rfl rfl ?_
          refine fz_callV (d' := 0) (M' := mX2_acrossFrom) (As := [fz_i x9, fz_i fr]) (st := []) kX6_explore rfl rfl vX2_acrossFrom rfl rfl rfl rfl (Nat.le_of_ble_eq_true rfl) (Nat.le_of_ble_eq_true rfl) (by decide) (sX2_acrossFrom H10 hI11 x9 fr (by omega)) (fun H20 r21 q22 o23 => ?_)
          obtain ⟨e24, y28, rfl, f25, f26, f27⟩ := q22
          subst H20
          clear o23
          refine fz_istore (ls' := [(7, fz_i y28), (6, fz_i x9), (0, fz_r 33), (1, fz_i fr), (2, fz_i hr), (3, fz_i 2), (4, fz_i su), (5, fz_i rt)]) kX6_explore rfl (by decide) rfl ?_
          refine fz_iload_n kX6_explore rfl rfl ?_
          refine fz_aload_n kX6_explore rfl rfl ?_
          refine fz_getR (t := 1) kX6_explore rfl rfl ?_
          refine fz_getR (t := 3) kX6_explore rfl rfl ?_
          refine fz_iload kX6_explore rfl rfl ?_
          refine fz_ialdV (n := 12) (v := h 3 (x9.toNat)) kX6_explore rfl rfl (by omega) (by omega) (hf12 3 _ rfl) ?_
          have b29 : 0 ≤ h 3 (x9.toNat) ∧ h 3 (x9.toNat) ≤ 24 := hI.1 3 _
          refine fz_iaddN kX6_explore rfl (by omega) ?_
          refine fz_istore (ls' := [(8, fz_i (hr + (h 3 (x9.toNat)))), (7, fz_i y28), (6, fz_i x9), (0, fz_r 33), (1, fz_i fr), (2, fz_i hr), (3, fz_i 2), (4, fz_i su), (5, fz_i rt)]) kX6_explore rfl (by decide) rfl ?_
          refine fz_iload kX6_explore rfl rfl ?_
          refine fz_if_lt (tgt := 200) kX6_explore rfl (by decide) (fun c30 => ?_) (fun c30 => ?_)
          · refine fz_iincN (ls' := [(6, fz_i (x9 + 1)), (8, fz_i (hr + (h 3 (x9.toNat)))), (7, fz_i y28), (0, fz_r 33), (1, fz_i fr), (2, fz_i hr), (3, fz_i 2), (4, fz_i su), (5, fz_i rt)]) kX6_explore rfl (by decide) rfl (by omega) rfl ?_
            refine fz_goto (tgt := 18) kX6_explore rfl (by decide) ?_
            refine fz_sub (fz_pk_sub (ls' := [(6, fz_i (x9 + 1)), (0, fz_r 33), (1, fz_i fr), (2, fz_i hr), (3, fz_i 2), (4, fz_i su), (5, fz_i rt)]) [0, 3, 4, 5, 6, 7, 8] rfl) ?_
            exact ih15 (x9 + 1) H10 hI11 hf12 (by omega) (by omega)
          · refine fz_iload kX6_explore rfl rfl ?_
            refine fz_bipush ⟨by decide, by decide⟩ kX6_explore rfl ?_
            refine fz_icmp_ge (tgt := 200) kX6_explore rfl (by decide) (fun c31 => ?_) (fun c31 => ?_)
            · refine fz_iincN (ls' := [(6, fz_i (x9 + 1)), (8, fz_i (hr + (h 3 (x9.toNat)))), (7, fz_i y28), (0, fz_r 33), (1, fz_i fr), (2, fz_i hr), (3, fz_i 2), (4, fz_i su), (5, fz_i rt)]) kX6_explore rfl (by decide) rfl (by omega) rfl ?_
              refine fz_goto (tgt := 18) kX6_explore rfl (by decide) ?_
              refine fz_sub (fz_pk_sub (ls' := [(6, fz_i (x9 + 1)), (0, fz_r 33), (1, fz_i fr), (2, fz_i hr), (3, fz_i 2), (4, fz_i su), (5, fz_i rt)]) [0, 3, 4, 5, 6, 7, 8] rfl) ?_
              exact ih15 (x9 + 1) H10 hI11 hf12 (by omega) (by omega)
            · refine fz_aload_n kX6_explore rfl rfl ?_
              refine fz_getV (v := h 33 4) kX6_explore rfl rfl (hf12 33 4 rfl) ?_
              have b32 : 0 ≤ h 33 4 ∧ h 33 4 ≤ 999 := hI.1 33 _
              refine fz_iload kX6_explore rfl rfl ?_
              refine fz_iaddN kX6_explore rfl (by omega) ?_
              refine fz_sipush ⟨by decide, by decide⟩ kX6_explore rfl ?_
              refine fz_icmp_le (tgt := 84) kX6_explore rfl (by decide) (fun c33 => ?_) (fun c33 => ?_)
              · refine fz_iload kX6_explore rfl rfl ?_
                refine fz_bipush ⟨by decide, by decide⟩ kX6_explore rfl ?_
                refine fz_imulN kX6_explore rfl (by omega) ?_
                refine fz_iload kX6_explore rfl rfl ?_
                refine fz_iaddN kX6_explore rfl (by omega) ?_
                refine fz_istore (ls' := [(9, fz_i ((y28 * 97) + (hr + (h 3 (x9.toNat))))), (8, fz_i (hr + (h 3 (x9.toNat)))), (7, fz_i y28), (6, fz_i x9), (0, fz_r 33), (1, fz_i fr), (2, fz_i hr), (3, fz_i 2), (4, fz_i su), (5, fz_i rt)]) kX6_explore rfl (by decide) rfl ?_
                refine fz_aload_n kX6_explore rfl rfl ?_
                refine fz_getR (t := 34) kX6_explore rfl rfl ?_
                refine fz_iload kX6_explore rfl rfl ?_
                obtain ⟨v34, e35⟩ : ∃ z, H10 34 (((y28 * 97) + (hr + (h 3 (x9.toNat)))).toNat) = z := ⟨_, rfl⟩
                refine fz_ialdV (n := 776) (v := v34) kX6_explore rfl rfl (by omega) (by omega) e35 ?_
                have b36 : (-2147483648) ≤ v34 ∧ v34 ≤ 2147483647 := by rw [← e35]; exact hI11.1 34 _
                refine fz_ldc (x := (-2000000000)) kX6_explore rfl rfl rfl ?_
                refine fz_icmp_ne (tgt := 159) kX6_explore rfl (by decide) (fun c37 => ?_) (fun c37 => ?_)
                · refine fz_aload_n kX6_explore rfl rfl ?_
                  refine fz_getR (t := 34) kX6_explore rfl rfl ?_
                  refine fz_iload kX6_explore rfl rfl ?_
                  obtain ⟨v38, e39⟩ : ∃ z, H10 34 (((y28 * 97) + (hr + (h 3 (x9.toNat)))).toNat) = z := ⟨_, rfl⟩
                  refine fz_ialdV (n := 776) (v := v38) kX6_explore rfl rfl (by omega) (by omega) e39 ?_
                  have b40 : (-2147483648) ≤ v38 ∧ v38 ≤ 2147483647 := by rw [← e39]; exact hI11.1 34 _
                  refine fz_ldc (x := (-1999999999)) kX6_explore rfl rfl rfl ?_
                  refine fz_icmp_eq (tgt := 200) kX6_explore rfl (by decide) (fun c41 => ?_) (fun c41 => ?_)
                  · refine fz_iincN (ls' := [(6, fz_i (x9 + 1)), (9, fz_i ((y28 * 97) + (hr + (h 3 (x9.toNat))))), (8, fz_i (hr + (h 3 (x9.toNat)))), (7, fz_i y28), (0, fz_r 33), (1, fz_i fr), (2, fz_i hr), (3, fz_i 2), (4, fz_i su), (5, fz_i rt)]) kX6_explore rfl (by decide) rfl (by omega) rfl ?_
                    refine fz_goto (tgt := 18) kX6_explore rfl (by decide) ?_
                    refine fz_sub (fz_pk_sub (ls' := [(6, fz_i (x9 + 1)), (0, fz_r 33), (1, fz_i fr), (2, fz_i hr), (3, fz_i 2), (4, fz_i su), (5, fz_i rt)]) [0, 4, 5, 6, 7, 8, 9] rfl) ?_
                    exact ih15 (x9 + 1) H10 hI11 hf12 (by omega) (by omega)
                  · refine fz_aload_n kX6_explore rfl rfl ?_
                    refine fz_iload kX6_explore rfl rfl ?_
                    refine fz_iload kX6_explore rfl rfl ?_
                    refine fz_iload_n kX6_explore rfl rfl ?_
                    refine fz_iconst ⟨by decide, by decide⟩ kX6_explore rfl ?_
                    refine fz_iaddN kX6_explore rfl ⟨by decide, by decide⟩ ?_
                    refine fz_eqi (y := 3) rfl ?_
                    refine fz_iload kX6_explore rfl rfl ?_
                    refine fz_aload_n kX6_explore rfl rfl ?_
                    refine fz_getR (t := 34) kX6_explore rfl rfl ?_
                    refine fz_iload kX6_explore rfl rfl ?_
                    obtain ⟨v42, e43⟩ : ∃ z, H10 34 (((y28 * 97) + (hr + (h 3 (x9.toNat)))).toNat) = z := ⟨_, rfl⟩
                    refine fz_ialdV (n := 776) (v := v42) kX6_explore rfl rfl (by omega) (by omega) e43 ?_
                    have b44 : (-2147483648) ≤ v42 ∧ v42 ≤ 2147483647 := by rw [← e43]; exact hI11.1 34 _
                    refine fz_iadd kX6_explore rfl ?_
                    refine fz_nmw (fun z45 e46 => ?_)
                    refine fz_iload kX6_explore rfl rfl ?_
                    refine fz_bipush ⟨by decide, by decide⟩ kX6_explore rfl ?_
                    refine fz_imul kX6_explore rfl ?_
                    refine fz_nmw (fun z47 e48 => ?_)
                    refine fz_iload kX6_explore rfl rfl ?_
                    refine fz_iadd kX6_explore rfl ?_
                    refine fz_nmw (fun z49 e50 => ?_)
                    refine fz_callV (d' := 5) (M' := mX6_explore) (As := [fz_i y28, fz_i (hr + (h 3 (x9.toNat))), fz_i 3, fz_i z45, fz_i z49]) (st := []) kX6_explore rfl rfl vX6_explore rfl rfl rfl rfl (Nat.le_of_ble_eq_true rfl) (Nat.le_of_ble_eq_true rfl) (by decide) (sX6_explore_3 H10 hI11 y28 (hr + (h 3 (x9.toNat))) z45 z49 (by omega) (by omega)) (fun H51 r52 q53 o54 => ?_)
                    obtain ⟨hI55, hf56, rfl⟩ := q53
                    clear o54
                    have hf57 := fz_fr_tr hf12 hf56 (show fz_su [(18, 99999), (19, 99999), (29, 99999), (33, 5), (33, 6), (33, 7), (34, 99999)] [(18, 99999), (19, 99999), (29, 99999), (33, 5), (33, 6), (33, 7), (34, 99999)] = true from rfl)
                    refine fz_iincN (ls' := [(6, fz_i (x9 + 1)), (9, fz_i ((y28 * 97) + (hr + (h 3 (x9.toNat))))), (8, fz_i (hr + (h 3 (x9.toNat)))), (7, fz_i y28), (0, fz_r 33), (1, fz_i fr), (2, fz_i hr), (3, fz_i 2), (4, fz_i su), (5, fz_i rt)]) kX6_explore rfl (by decide) rfl (by omega) rfl ?_
                    refine fz_goto (tgt := 18) kX6_explore rfl (by decide) ?_
                    refine fz_sub (fz_pk_sub (ls' := [(6, fz_i (x9 + 1)), (0, fz_r 33), (1, fz_i fr), (2, fz_i hr), (3, fz_i 2), (4, fz_i su), (5, fz_i rt)]) [0, 4, 5, 6, 7, 8, 9] rfl) ?_
                    exact ih15 (x9 + 1) H51 hI55 hf57 (by omega) (by omega)
                · refine fz_aload_n kX6_explore rfl rfl ?_
                  refine fz_getR (t := 27) kX6_explore rfl rfl ?_
                  refine fz_aload_n kX6_explore rfl rfl ?_
                  refine fz_getV (v := h 33 3) kX6_explore rfl rfl (hf12 33 3 rfl) ?_
                  have b58 : 0 ≤ h 33 3 ∧ h 33 3 ≤ 3 := hI.1 33 _
                  refine fz_aload_n kX6_explore rfl rfl ?_
                  refine fz_getV (v := h 33 3) kX6_explore rfl rfl (hf12 33 3 rfl) ?_
                  refine fz_iload kX6_explore rfl rfl ?_
                  refine fz_aload_n kX6_explore rfl rfl ?_
                  refine fz_getV (v := h 33 4) kX6_explore rfl rfl (hf12 33 4 rfl) ?_
                  refine fz_iload kX6_explore rfl rfl ?_
                  refine fz_iaddN kX6_explore rfl (by omega) ?_
                  refine fz_callV (d' := 4) (M' := mX8_listen) (As := [fz_i (h 33 3), fz_i (h 33 3), fz_i y28, fz_i ((h 33 4) + (hr + (h 3 (x9.toNat))))]) (st := []) kX6_explore rfl rfl vX8_listen rfl rfl rfl rfl (Nat.le_of_ble_eq_true rfl) (Nat.le_of_ble_eq_true rfl) (by decide) (sX8_listen H10 hI11 (h 33 3) (h 33 3) y28 ((h 33 4) + (hr + (h 3 (x9.toNat)))) (by omega)) (fun H59 r60 q61 o62 => ?_)
                  obtain ⟨hI63, hf64, rfl, f65⟩ := q61
                  clear o62
                  have hf66 := fz_fr_tr hf12 hf64 (show fz_su [(18, 99999), (19, 99999), (29, 99999)] [(18, 99999), (19, 99999), (29, 99999), (33, 5), (33, 6), (33, 7), (34, 99999)] = true from rfl)
                  refine fz_aload_n kX6_explore rfl rfl ?_
                  refine fz_getR (t := 34) kX6_explore rfl rfl ?_
                  refine fz_iload kX6_explore rfl rfl ?_
                  refine fz_aload_n kX6_explore rfl rfl ?_
                  refine fz_getR (t := 27) kX6_explore rfl rfl ?_
                  have b67 : (-2147483648) ≤ H59 29 1 ∧ H59 29 1 ≤ 2147483647 := hI63.1 29 _
                  have b68 : 0 ≤ h 27 8 ∧ h 27 8 ≤ 99 := hI.1 27 _
                  have e69 : H59 27 8 = h 27 8 := hf66 27 8 rfl
                  refine fz_callV (d' := 1) (M' := mX8_isArrested) (As := []) (st := [fz_i ((y28 * 97) + (hr + (h 3 (x9.toNat)))), fz_r 34]) kX6_explore rfl rfl vX8_isArrested rfl rfl rfl rfl (Nat.le_of_ble_eq_true rfl) (Nat.le_of_ble_eq_true rfl) (by decide) (sX8_isArrested H59 hI63  ) (fun H70 r71 q72 o73 => ?_)
                  obtain ⟨e74, y76, rfl, p77, f75⟩ := q72
                  subst H70
                  clear o73
                  refine fz_if_eq (tgt := 151) kX6_explore rfl (by decide) (fun c78 => ?_) (fun c78 => ?_)
                  · refine fz_aload_n kX6_explore rfl rfl ?_
                    refine fz_getR (t := 27) kX6_explore rfl rfl ?_
                    refine fz_callV (d' := 0) (M' := mX8_reception) (As := []) (st := [fz_i ((y28 * 97) + (hr + (h 3 (x9.toNat)))), fz_r 34]) kX6_explore rfl rfl vX8_reception rfl rfl rfl rfl (Nat.le_of_ble_eq_true rfl) (Nat.le_of_ble_eq_true rfl) (by decide) (sX8_reception H59 hI63  ) (fun H79 r80 q81 o82 => ?_)
                    obtain ⟨e83, y86, rfl, f84, f85⟩ := q81
                    subst H79
                    clear o82
                    refine fz_iast (n := 776) kX6_explore rfl rfl (by omega) (by omega) ?_
                    refine fz_nmu (S := [(18, 99999), (19, 99999), (29, 99999), (33, 5), (33, 6), (33, 7), (34, 99999)]) (h0 := h) (fz_Iv_up hI63 (by decide) (show ((-2147483648) : Int) ≤ y86 by omega) (show (y86 : Int) ≤ 2147483647 by omega)) (fz_fr_up hf66 rfl) (fun H87 hI88 hf89 e90 => ?_)
                    clear e90
                    refine fz_aload_n kX6_explore rfl rfl ?_
                    refine fz_getR (t := 34) kX6_explore rfl rfl ?_
                    refine fz_iload kX6_explore rfl rfl ?_
                    obtain ⟨v91, e92⟩ : ∃ z, H87 34 (((y28 * 97) + (hr + (h 3 (x9.toNat)))).toNat) = z := ⟨_, rfl⟩
                    refine fz_ialdV (n := 776) (v := v91) kX6_explore rfl rfl (by omega) (by omega) e92 ?_
                    have b93 : (-2147483648) ≤ v91 ∧ v91 ≤ 2147483647 := by rw [← e92]; exact hI88.1 34 _
                    refine fz_ldc (x := (-1999999999)) kX6_explore rfl rfl rfl ?_
                    refine fz_icmp_eq (tgt := 200) kX6_explore rfl (by decide) (fun c94 => ?_) (fun c94 => ?_)
                    · refine fz_iincN (ls' := [(6, fz_i (x9 + 1)), (9, fz_i ((y28 * 97) + (hr + (h 3 (x9.toNat))))), (8, fz_i (hr + (h 3 (x9.toNat)))), (7, fz_i y28), (0, fz_r 33), (1, fz_i fr), (2, fz_i hr), (3, fz_i 2), (4, fz_i su), (5, fz_i rt)]) kX6_explore rfl (by decide) rfl (by omega) rfl ?_
                      refine fz_goto (tgt := 18) kX6_explore rfl (by decide) ?_
                      refine fz_sub (fz_pk_sub (ls' := [(6, fz_i (x9 + 1)), (0, fz_r 33), (1, fz_i fr), (2, fz_i hr), (3, fz_i 2), (4, fz_i su), (5, fz_i rt)]) [0, 4, 5, 6, 7, 8, 9] rfl) ?_
                      exact ih15 (x9 + 1) H87 hI88 hf89 (by omega) (by omega)
                    · refine fz_aload_n kX6_explore rfl rfl ?_
                      refine fz_iload kX6_explore rfl rfl ?_
                      refine fz_iload kX6_explore rfl rfl ?_
                      refine fz_iload_n kX6_explore rfl rfl ?_
                      refine fz_iconst ⟨by decide, by decide⟩ kX6_explore rfl ?_
                      refine fz_iaddN kX6_explore rfl ⟨by decide, by decide⟩ ?_
                      refine fz_eqi (y := 3) rfl ?_
                      refine fz_iload kX6_explore rfl rfl ?_
                      refine fz_aload_n kX6_explore rfl rfl ?_
                      refine fz_getR (t := 34) kX6_explore rfl rfl ?_
                      refine fz_iload kX6_explore rfl rfl ?_
                      obtain ⟨v95, e96⟩ : ∃ z, H87 34 (((y28 * 97) + (hr + (h 3 (x9.toNat)))).toNat) = z := ⟨_, rfl⟩
                      refine fz_ialdV (n := 776) (v := v95) kX6_explore rfl rfl (by omega) (by omega) e96 ?_
                      have b97 : (-2147483648) ≤ v95 ∧ v95 ≤ 2147483647 := by rw [← e96]; exact hI88.1 34 _
                      refine fz_iadd kX6_explore rfl ?_
                      refine fz_nmw (fun z98 e99 => ?_)
                      refine fz_iload kX6_explore rfl rfl ?_
                      refine fz_bipush ⟨by decide, by decide⟩ kX6_explore rfl ?_
                      refine fz_imul kX6_explore rfl ?_
                      refine fz_nmw (fun z100 e101 => ?_)
                      refine fz_iload kX6_explore rfl rfl ?_
                      refine fz_iadd kX6_explore rfl ?_
                      refine fz_nmw (fun z102 e103 => ?_)
                      refine fz_callV (d' := 5) (M' := mX6_explore) (As := [fz_i y28, fz_i (hr + (h 3 (x9.toNat))), fz_i 3, fz_i z98, fz_i z102]) (st := []) kX6_explore rfl rfl vX6_explore rfl rfl rfl rfl (Nat.le_of_ble_eq_true rfl) (Nat.le_of_ble_eq_true rfl) (by decide) (sX6_explore_3 H87 hI88 y28 (hr + (h 3 (x9.toNat))) z98 z102 (by omega) (by omega)) (fun H104 r105 q106 o107 => ?_)
                      obtain ⟨hI108, hf109, rfl⟩ := q106
                      clear o107
                      have hf110 := fz_fr_tr hf89 hf109 (show fz_su [(18, 99999), (19, 99999), (29, 99999), (33, 5), (33, 6), (33, 7), (34, 99999)] [(18, 99999), (19, 99999), (29, 99999), (33, 5), (33, 6), (33, 7), (34, 99999)] = true from rfl)
                      refine fz_iincN (ls' := [(6, fz_i (x9 + 1)), (9, fz_i ((y28 * 97) + (hr + (h 3 (x9.toNat))))), (8, fz_i (hr + (h 3 (x9.toNat)))), (7, fz_i y28), (0, fz_r 33), (1, fz_i fr), (2, fz_i hr), (3, fz_i 2), (4, fz_i su), (5, fz_i rt)]) kX6_explore rfl (by decide) rfl (by omega) rfl ?_
                      refine fz_goto (tgt := 18) kX6_explore rfl (by decide) ?_
                      refine fz_sub (fz_pk_sub (ls' := [(6, fz_i (x9 + 1)), (0, fz_r 33), (1, fz_i fr), (2, fz_i hr), (3, fz_i 2), (4, fz_i su), (5, fz_i rt)]) [0, 4, 5, 6, 7, 8, 9] rfl) ?_
                      exact ih15 (x9 + 1) H104 hI108 hf110 (by omega) (by omega)
                  · refine fz_ldc (x := (-1999999999)) kX6_explore rfl rfl rfl ?_
                    refine fz_goto (tgt := 158) kX6_explore rfl (by decide) ?_
                    refine fz_iast (n := 776) kX6_explore rfl rfl (by omega) (by omega) ?_
                    refine fz_nmu (S := [(18, 99999), (19, 99999), (29, 99999), (33, 5), (33, 6), (33, 7), (34, 99999)]) (h0 := h) (fz_Iv_up hI63 (by decide) (show ((-2147483648) : Int) ≤ (-1999999999) by decide) (show ((-1999999999) : Int) ≤ 2147483647 by decide)) (fz_fr_up hf66 rfl) (fun H111 hI112 hf113 e114 => ?_)
                    clear e114
                    refine fz_aload_n kX6_explore rfl rfl ?_
                    refine fz_getR (t := 34) kX6_explore rfl rfl ?_
                    refine fz_iload kX6_explore rfl rfl ?_
                    obtain ⟨v115, e116⟩ : ∃ z, H111 34 (((y28 * 97) + (hr + (h 3 (x9.toNat)))).toNat) = z := ⟨_, rfl⟩
                    refine fz_ialdV (n := 776) (v := v115) kX6_explore rfl rfl (by omega) (by omega) e116 ?_
                    have b117 : (-2147483648) ≤ v115 ∧ v115 ≤ 2147483647 := by rw [← e116]; exact hI112.1 34 _
                    refine fz_ldc (x := (-1999999999)) kX6_explore rfl rfl rfl ?_
                    refine fz_icmp_eq (tgt := 200) kX6_explore rfl (by decide) (fun c118 => ?_) (fun c118 => ?_)
                    · refine fz_iincN (ls' := [(6, fz_i (x9 + 1)), (9, fz_i ((y28 * 97) + (hr + (h 3 (x9.toNat))))), (8, fz_i (hr + (h 3 (x9.toNat)))), (7, fz_i y28), (0, fz_r 33), (1, fz_i fr), (2, fz_i hr), (3, fz_i 2), (4, fz_i su), (5, fz_i rt)]) kX6_explore rfl (by decide) rfl (by omega) rfl ?_
                      refine fz_goto (tgt := 18) kX6_explore rfl (by decide) ?_
                      refine fz_sub (fz_pk_sub (ls' := [(6, fz_i (x9 + 1)), (0, fz_r 33), (1, fz_i fr), (2, fz_i hr), (3, fz_i 2), (4, fz_i su), (5, fz_i rt)]) [0, 4, 5, 6, 7, 8, 9] rfl) ?_
                      exact ih15 (x9 + 1) H111 hI112 hf113 (by omega) (by omega)
                    · refine fz_aload_n kX6_explore rfl rfl ?_
                      refine fz_iload kX6_explore rfl rfl ?_
                      refine fz_iload kX6_explore rfl rfl ?_
                      refine fz_iload_n kX6_explore rfl rfl ?_
                      refine fz_iconst ⟨by decide, by decide⟩ kX6_explore rfl ?_
                      refine fz_iaddN kX6_explore rfl ⟨by decide, by decide⟩ ?_
                      refine fz_eqi (y := 3) rfl ?_
                      refine fz_iload kX6_explore rfl rfl ?_
                      refine fz_aload_n kX6_explore rfl rfl ?_
                      refine fz_getR (t := 34) kX6_explore rfl rfl ?_
                      refine fz_iload kX6_explore rfl rfl ?_
                      obtain ⟨v119, e120⟩ : ∃ z, H111 34 (((y28 * 97) + (hr + (h 3 (x9.toNat)))).toNat) = z := ⟨_, rfl⟩
                      refine fz_ialdV (n := 776) (v := v119) kX6_explore rfl rfl (by omega) (by omega) e120 ?_
                      have b121 : (-2147483648) ≤ v119 ∧ v119 ≤ 2147483647 := by rw [← e120]; exact hI112.1 34 _
                      refine fz_iadd kX6_explore rfl ?_
                      refine fz_nmw (fun z122 e123 => ?_)
                      refine fz_iload kX6_explore rfl rfl ?_
                      refine fz_bipush ⟨by decide, by decide⟩ kX6_explore rfl ?_
                      refine fz_imul kX6_explore rfl ?_
                      refine fz_nmw (fun z124 e125 => ?_)
                      refine fz_iload kX6_explore rfl rfl ?_
                      refine fz_iadd kX6_explore rfl ?_
                      refine fz_nmw (fun z126 e127 => ?_)
                      refine fz_callV (d' := 5) (M' := mX6_explore) (As := [fz_i y28, fz_i (hr + (h 3 (x9.toNat))), fz_i 3, fz_i z122, fz_i z126]) (st := []) kX6_explore rfl rfl vX6_explore rfl rfl rfl rfl (Nat.le_of_ble_eq_true rfl) (Nat.le_of_ble_eq_true rfl) (by decide) (sX6_explore_3 H111 hI112 y28 (hr + (h 3 (x9.toNat))) z122 z126 (by omega) (by omega)) (fun H128 r129 q130 o131 => ?_)
                      obtain ⟨hI132, hf133, rfl⟩ := q130
                      clear o131
                      have hf134 := fz_fr_tr hf113 hf133 (show fz_su [(18, 99999), (19, 99999), (29, 99999), (33, 5), (33, 6), (33, 7), (34, 99999)] [(18, 99999), (19, 99999), (29, 99999), (33, 5), (33, 6), (33, 7), (34, 99999)] = true from rfl)
                      refine fz_iincN (ls' := [(6, fz_i (x9 + 1)), (9, fz_i ((y28 * 97) + (hr + (h 3 (x9.toNat))))), (8, fz_i (hr + (h 3 (x9.toNat)))), (7, fz_i y28), (0, fz_r 33), (1, fz_i fr), (2, fz_i hr), (3, fz_i 2), (4, fz_i su), (5, fz_i rt)]) kX6_explore rfl (by decide) rfl (by omega) rfl ?_
                      refine fz_goto (tgt := 18) kX6_explore rfl (by decide) ?_
                      refine fz_sub (fz_pk_sub (ls' := [(6, fz_i (x9 + 1)), (0, fz_r 33), (1, fz_i fr), (2, fz_i hr), (3, fz_i 2), (4, fz_i su), (5, fz_i rt)]) [0, 4, 5, 6, 7, 8, 9] rfl) ?_
                      exact ih15 (x9 + 1) H128 hI132 hf134 (by omega) (by omega)
              · refine fz_goto (tgt := 200) kX6_explore rfl (by decide) ?_
                refine fz_iincN (ls' := [(6, fz_i (x9 + 1)), (8, fz_i (hr + (h 3 (x9.toNat)))), (7, fz_i y28), (0, fz_r 33), (1, fz_i fr), (2, fz_i hr), (3, fz_i 2), (4, fz_i su), (5, fz_i rt)]) kX6_explore rfl (by decide) rfl (by omega) rfl ?_
                refine fz_goto (tgt := 18) kX6_explore rfl (by decide) ?_
                refine fz_sub (fz_pk_sub (ls' := [(6, fz_i (x9 + 1)), (0, fz_r 33), (1, fz_i fr), (2, fz_i hr), (3, fz_i 2), (4, fz_i su), (5, fz_i rt)]) [0, 3, 4, 5, 6, 7, 8] rfl) ?_
                exact ih15 (x9 + 1) H10 hI11 hf12 (by omega) (by omega)
    exact lp14 _ 0 H1 hI5 hf7 (by omega) (Nat.lt_succ_self _)
  · exfalso; omega

abbrev qX6_explore_1 (h : fz_H) (fr hr su rt : Int) : fz_H → Option fz_V → Prop := fun h' r0 => fz_Iv h' ∧ fz_fr [(18, 99999), (19, 99999), (29, 99999), (33, 5), (33, 6), (33, 7), (34, 99999)] h h' ∧ r0 = none
set_option maxHeartbeats 1000000 in
set_option maxRecDepth 100000 in
theorem sX6_explore_1 (h : fz_H) (hI : fz_Iv h) (fr hr su rt : Int) (hp0 : 0 ≤ fr ∧ fr < 8) (hp1 : 0 ≤ hr ∧ hr ≤ 96) : fz_R 7 mX6_explore 0 [(0, fz_r 33), (1, fz_i fr), (2, fz_i hr), (3, fz_i 1), (4, fz_i su), (5, fz_i rt)] [] h (qX6_explore_1 h fr hr su rt) := by
  refine fz_knowl (fun hk => ?_)
  have hr_fr : -2147483648 ≤ fr ∧ fr < 2147483648 := hk _ (List.Mem.tail _ (List.Mem.head _))
  have hr_hr : -2147483648 ≤ hr ∧ hr < 2147483648 := hk _ (List.Mem.tail _ (List.Mem.tail _ (List.Mem.head _)))
  have hr_su : -2147483648 ≤ su ∧ su < 2147483648 := hk _ (List.Mem.tail _ (List.Mem.tail _ (List.Mem.tail _ (List.Mem.tail _ (List.Mem.head _)))))
  have hr_rt : -2147483648 ≤ rt ∧ rt < 2147483648 := hk _ (List.Mem.tail _ (List.Mem.tail _ (List.Mem.tail _ (List.Mem.tail _ (List.Mem.tail _ (List.Mem.head _))))))
  clear hk
  have hf : fz_fr [(18, 99999), (19, 99999), (29, 99999), (33, 5), (33, 6), (33, 7), (34, 99999)] h h := fz_fr_rf
  refine fz_aload_n kX6_explore rfl rfl ?_
  refine fz_iload_n kX6_explore rfl rfl ?_
  refine fz_iload kX6_explore rfl rfl ?_
  refine fz_iload kX6_explore rfl rfl ?_
  refine fz_callV (d' := 0) (M' := mX6_compare) (As := [fz_i 1, fz_i su, fz_i rt]) (st := []) kX6_explore rfl rfl vX6_compare rfl rfl rfl rfl (Nat.le_of_ble_eq_true rfl) (Nat.le_of_ble_eq_true rfl) (by decide) (sX6_compare h hI 1 su rt (by omega)) (fun H1 r2 q3 o4 => ?_)
  obtain ⟨hI5, hf6, rfl⟩ := q3
  clear o4
  have hf7 := fz_fr_tr hf hf6 (show fz_su [(33, 5), (33, 6), (33, 7)] [(18, 99999), (19, 99999), (29, 99999), (33, 5), (33, 6), (33, 7), (34, 99999)] = true from rfl)
  refine fz_iload_n kX6_explore rfl rfl ?_
  refine fz_iconst ⟨by decide, by decide⟩ kX6_explore rfl ?_
  refine fz_icmp_lt (tgt := 15) kX6_explore rfl (by decide) (fun c8 => ?_) (fun c8 => ?_)
  · refine fz_iconst ⟨by decide, by decide⟩ kX6_explore rfl ?_
    refine fz_istore (ls' := [(6, fz_i 0), (0, fz_r 33), (1, fz_i fr), (2, fz_i hr), (3, fz_i 1), (4, fz_i su), (5, fz_i rt)]) kX6_explore rfl (by decide) rfl ?_
    have lp14 : ∀ (n13 : Nat) (x9 : Int) (H10 : fz_H), fz_Iv H10 → fz_fr [(18, 99999), (19, 99999), (29, 99999), (33, 5), (33, 6), (33, 7), (34, 99999)] h H10 → (0 ≤ x9 ∧ x9 ≤ 2147483647) → ((h 1 8) - x9).toNat < n13 → fz_R 7 mX6_explore 18 [(6, fz_i x9), (0, fz_r 33), (1, fz_i fr), (2, fz_i hr), (3, fz_i 1), (4, fz_i su), (5, fz_i rt)] [] H10 (qX6_explore_1 h fr hr su rt) := by
      intro n13
      induction n13 with
      | zero => intro x9 H10 hI11 hf12 hv17 hm16; exact absurd hm16 (by omega)
      | succ n13 ih15 =>
        intro x9 H10 hI11 hf12 hv17 hm16
        refine fz_iload kX6_explore rfl rfl ?_
        refine fz_aload_n kX6_explore rfl rfl ?_
        refine fz_getR (t := 1) kX6_explore rfl rfl ?_
        refine fz_getV (v := h 1 8) kX6_explore rfl rfl (hf12 1 8 rfl) ?_
        have b18 : 0 ≤ h 1 8 ∧ h 1 8 ≤ 12 := hI.1 1 _
        refine fz_icmp_ge (tgt := 206) kX6_explore rfl (by decide) (fun c19 => ?_) (fun c19 => ?_)
        · exact fz_vret kX6_explore rfl rfl ⟨hI11, hf12, rfl⟩
        · refine fz_aload_n kX6_explore rfl rfl ?_
          refine fz_getR (t := 1) kX6_explore rfl rfl ?_
          refine fz_iload kX6_explore rfl rfl ?_
          refine fz_iload_n kX6_explore rfl rfl ?_
          refine fz_callV (d' := 0) (M' := mX2_acrossFrom) (As := [fz_i x9, fz_i fr]) (st := []) kX6_explore rfl rfl vX2_acrossFrom rfl rfl rfl rfl (Nat.le_of_ble_eq_true rfl) (Nat.le_of_ble_eq_true rfl) (by decide) (sX2_acrossFrom H10 hI11 x9 fr (by omega)) (fun H20 r21 q22 o23 => ?_)
          obtain ⟨e24, y28, rfl, f25, f26, f27⟩ := q22
          subst H20
          clear o23
          refine fz_istore (ls' := [(7, fz_i y28), (6, fz_i x9), (0, fz_r 33), (1, fz_i fr), (2, fz_i hr), (3, fz_i 1), (4, fz_i su), (5, fz_i rt)]) kX6_explore rfl (by decide) rfl ?_
          refine fz_iload_n kX6_explore rfl rfl ?_
          refine fz_aload_n kX6_explore rfl rfl ?_
          refine fz_getR (t := 1) kX6_explore rfl rfl ?_
          refine fz_getR (t := 3) kX6_explore rfl rfl ?_
          refine fz_iload kX6_explore rfl rfl ?_
          refine fz_ialdV (n := 12) (v := h 3 (x9.toNat)) kX6_explore rfl rfl (by omega) (by omega) (hf12 3 _ rfl) ?_
          have b29 : 0 ≤ h 3 (x9.toNat) ∧ h 3 (x9.toNat) ≤ 24 := hI.1 3 _
          refine fz_iaddN kX6_explore rfl (by omega) ?_
          refine fz_istore (ls' := [(8, fz_i (hr + (h 3 (x9.toNat)))), (7, fz_i y28), (6, fz_i x9), (0, fz_r 33), (1, fz_i fr), (2, fz_i hr), (3, fz_i 1), (4, fz_i su), (5, fz_i rt)]) kX6_explore rfl (by decide) rfl ?_
          refine fz_iload kX6_explore rfl rfl ?_
          refine fz_if_lt (tgt := 200) kX6_explore rfl (by decide) (fun c30 => ?_) (fun c30 => ?_)
          · refine fz_iincN (ls' := [(6, fz_i (x9 + 1)), (8, fz_i (hr + (h 3 (x9.toNat)))), (7, fz_i y28), (0, fz_r 33), (1, fz_i fr), (2, fz_i hr), (3, fz_i 1), (4, fz_i su), (5, fz_i rt)]) kX6_explore rfl (by decide) rfl (by omega) rfl ?_
            refine fz_goto (tgt := 18) kX6_explore rfl (by decide) ?_
            refine fz_sub (fz_pk_sub (ls' := [(6, fz_i (x9 + 1)), (0, fz_r 33), (1, fz_i fr), (2, fz_i hr), (3, fz_i 1), (4, fz_i su), (5, fz_i rt)]) [0, 3, 4, 5, 6, 7, 8] rfl) ?_
            exact ih15 (x9 + 1) H10 hI11 hf12 (by omega) (by omega)
          · refine fz_iload kX6_explore rfl rfl ?_
            refine fz_bipush ⟨by decide, by decide⟩ kX6_explore rfl ?_
            refine fz_icmp_ge (tgt := 200) kX6_explore rfl (by decide) (fun c31 => ?_) (fun c31 => ?_)
            · refine fz_iincN (ls' := [(6, fz_i (x9 + 1)), (8, fz_i (hr + (h 3 (x9.toNat)))), (7, fz_i y28), (0, fz_r 33), (1, fz_i fr), (2, fz_i hr), (3, fz_i 1), (4, fz_i su), (5, fz_i rt)]) kX6_explore rfl (by decide) rfl (by omega) rfl ?_
              refine fz_goto (tgt := 18) kX6_explore rfl (by decide) ?_
              refine fz_sub (fz_pk_sub (ls' := [(6, fz_i (x9 + 1)), (0, fz_r 33), (1, fz_i fr), (2, fz_i hr), (3, fz_i 1), (4, fz_i su), (5, fz_i rt)]) [0, 3, 4, 5, 6, 7, 8] rfl) ?_
              exact ih15 (x9 + 1) H10 hI11 hf12 (by omega) (by omega)
            · refine fz_aload_n kX6_explore rfl rfl ?_
              refine fz_getV (v := h 33 4) kX6_explore rfl rfl (hf12 33 4 rfl) ?_
              have b32 : 0 ≤ h 33 4 ∧ h 33 4 ≤ 999 := hI.1 33 _
              refine fz_iload kX6_explore rfl rfl ?_
              refine fz_iaddN kX6_explore rfl (by omega) ?_
              refine fz_sipush ⟨by decide, by decide⟩ kX6_explore rfl ?_
              refine fz_icmp_le (tgt := 84) kX6_explore rfl (by decide) (fun c33 => ?_) (fun c33 => ?_)
              · refine fz_iload kX6_explore rfl rfl ?_
                refine fz_bipush ⟨by decide, by decide⟩ kX6_explore rfl ?_
                refine fz_imulN kX6_explore rfl (by omega) ?_
                refine fz_iload kX6_explore rfl rfl ?_
                refine fz_iaddN kX6_explore rfl (by omega) ?_
                refine fz_istore (ls' := [(9, fz_i ((y28 * 97) + (hr + (h 3 (x9.toNat))))), (8, fz_i (hr + (h 3 (x9.toNat)))), (7, fz_i y28), (6, fz_i x9), (0, fz_r 33), (1, fz_i fr), (2, fz_i hr), (3, fz_i 1), (4, fz_i su), (5, fz_i rt)]) kX6_explore rfl (by decide) rfl ?_
                refine fz_aload_n kX6_explore rfl rfl ?_
                refine fz_getR (t := 34) kX6_explore rfl rfl ?_
                refine fz_iload kX6_explore rfl rfl ?_
                obtain ⟨v34, e35⟩ : ∃ z, H10 34 (((y28 * 97) + (hr + (h 3 (x9.toNat)))).toNat) = z := ⟨_, rfl⟩
                refine fz_ialdV (n := 776) (v := v34) kX6_explore rfl rfl (by omega) (by omega) e35 ?_
                have b36 : (-2147483648) ≤ v34 ∧ v34 ≤ 2147483647 := by rw [← e35]; exact hI11.1 34 _
                refine fz_ldc (x := (-2000000000)) kX6_explore rfl rfl rfl ?_
                refine fz_icmp_ne (tgt := 159) kX6_explore rfl (by decide) (fun c37 => ?_) (fun c37 => ?_)
                · refine fz_aload_n kX6_explore rfl rfl ?_
                  refine fz_getR (t := 34) kX6_explore rfl rfl ?_
                  refine fz_iload kX6_explore rfl rfl ?_
                  obtain ⟨v38, e39⟩ : ∃ z, H10 34 (((y28 * 97) + (hr + (h 3 (x9.toNat)))).toNat) = z := ⟨_, rfl⟩
                  refine fz_ialdV (n := 776) (v := v38) kX6_explore rfl rfl (by omega) (by omega) e39 ?_
                  have b40 : (-2147483648) ≤ v38 ∧ v38 ≤ 2147483647 := by rw [← e39]; exact hI11.1 34 _
                  refine fz_ldc (x := (-1999999999)) kX6_explore rfl rfl rfl ?_
                  refine fz_icmp_eq (tgt := 200) kX6_explore rfl (by decide) (fun c41 => ?_) (fun c41 => ?_)
                  · refine fz_iincN (ls' := [(6, fz_i (x9 + 1)), (9, fz_i ((y28 * 97) + (hr + (h 3 (x9.toNat))))), (8, fz_i (hr + (h 3 (x9.toNat)))), (7, fz_i y28), (0, fz_r 33), (1, fz_i fr), (2, fz_i hr), (3, fz_i 1), (4, fz_i su), (5, fz_i rt)]) kX6_explore rfl (by decide) rfl (by omega) rfl ?_
                    refine fz_goto (tgt := 18) kX6_explore rfl (by decide) ?_
                    refine fz_sub (fz_pk_sub (ls' := [(6, fz_i (x9 + 1)), (0, fz_r 33), (1, fz_i fr), (2, fz_i hr), (3, fz_i 1), (4, fz_i su), (5, fz_i rt)]) [0, 4, 5, 6, 7, 8, 9] rfl) ?_
                    exact ih15 (x9 + 1) H10 hI11 hf12 (by omega) (by omega)
                  · refine fz_aload_n kX6_explore rfl rfl ?_
                    refine fz_iload kX6_explore rfl rfl ?_
                    refine fz_iload kX6_explore rfl rfl ?_
                    refine fz_iload_n kX6_explore rfl rfl ?_
                    refine fz_iconst ⟨by decide, by decide⟩ kX6_explore rfl ?_
                    refine fz_iaddN kX6_explore rfl ⟨by decide, by decide⟩ ?_
                    refine fz_eqi (y := 2) rfl ?_
                    refine fz_iload kX6_explore rfl rfl ?_
                    refine fz_aload_n kX6_explore rfl rfl ?_
                    refine fz_getR (t := 34) kX6_explore rfl rfl ?_
                    refine fz_iload kX6_explore rfl rfl ?_
                    obtain ⟨v42, e43⟩ : ∃ z, H10 34 (((y28 * 97) + (hr + (h 3 (x9.toNat)))).toNat) = z := ⟨_, rfl⟩
                    refine fz_ialdV (n := 776) (v := v42) kX6_explore rfl rfl (by omega) (by omega) e43 ?_
                    have b44 : (-2147483648) ≤ v42 ∧ v42 ≤ 2147483647 := by rw [← e43]; exact hI11.1 34 _
                    refine fz_iadd kX6_explore rfl ?_
                    refine fz_nmw (fun z45 e46 => ?_)
                    refine fz_iload kX6_explore rfl rfl ?_
                    refine fz_bipush ⟨by decide, by decide⟩ kX6_explore rfl ?_
                    refine fz_imul kX6_explore rfl ?_
                    refine fz_nmw (fun z47 e48 => ?_)
                    refine fz_iload kX6_explore rfl rfl ?_
                    refine fz_iadd kX6_explore rfl ?_
                    refine fz_nmw (fun z49 e50 => ?_)
                    refine fz_callV (d' := 6) (M' := mX6_explore) (As := [fz_i y28, fz_i (hr + (h 3 (x9.toNat))), fz_i 2, fz_i z45, fz_i z49]) (st := []) kX6_explore rfl rfl vX6_explore rfl rfl rfl rfl (Nat.le_of_ble_eq_true rfl) (Nat.le_of_ble_eq_true rfl) (by decide) (sX6_explore_2 H10 hI11 y28 (hr + (h 3 (x9.toNat))) z45 z49 (by omega) (by omega)) (fun H51 r52 q53 o54 => ?_)
                    obtain ⟨hI55, hf56, rfl⟩ := q53
                    clear o54
                    have hf57 := fz_fr_tr hf12 hf56 (show fz_su [(18, 99999), (19, 99999), (29, 99999), (33, 5), (33, 6), (33, 7), (34, 99999)] [(18, 99999), (19, 99999), (29, 99999), (33, 5), (33, 6), (33, 7), (34, 99999)] = true from rfl)
                    refine fz_iincN (ls' := [(6, fz_i (x9 + 1)), (9, fz_i ((y28 * 97) + (hr + (h 3 (x9.toNat))))), (8, fz_i (hr + (h 3 (x9.toNat)))), (7, fz_i y28), (0, fz_r 33), (1, fz_i fr), (2, fz_i hr), (3, fz_i 1), (4, fz_i su), (5, fz_i rt)]) kX6_explore rfl (by decide) rfl (by omega) rfl ?_
                    refine fz_goto (tgt := 18) kX6_explore rfl (by decide) ?_
                    refine fz_sub (fz_pk_sub (ls' := [(6, fz_i (x9 + 1)), (0, fz_r 33), (1, fz_i fr), (2, fz_i hr), (3, fz_i 1), (4, fz_i su), (5, fz_i rt)]) [0, 4, 5, 6, 7, 8, 9] rfl) ?_
                    exact ih15 (x9 + 1) H51 hI55 hf57 (by omega) (by omega)
                · refine fz_aload_n kX6_explore rfl rfl ?_
                  refine fz_getR (t := 27) kX6_explore rfl rfl ?_
                  refine fz_aload_n kX6_explore rfl rfl ?_
                  refine fz_getV (v := h 33 3) kX6_explore rfl rfl (hf12 33 3 rfl) ?_
                  have b58 : 0 ≤ h 33 3 ∧ h 33 3 ≤ 3 := hI.1 33 _
                  refine fz_aload_n kX6_explore rfl rfl ?_
                  refine fz_getV (v := h 33 3) kX6_explore rfl rfl (hf12 33 3 rfl) ?_
                  refine fz_iload kX6_explore rfl rfl ?_
                  refine fz_aload_n kX6_explore rfl rfl ?_
                  refine fz_getV (v := h 33 4) kX6_explore rfl rfl (hf12 33 4 rfl) ?_
                  refine fz_iload kX6_explore rfl rfl ?_
                  refine fz_iaddN kX6_explore rfl (by omega) ?_
                  refine fz_callV (d' := 4) (M' := mX8_listen) (As := [fz_i (h 33 3), fz_i (h 33 3), fz_i y28, fz_i ((h 33 4) + (hr + (h 3 (x9.toNat))))]) (st := []) kX6_explore rfl rfl vX8_listen rfl rfl rfl rfl (Nat.le_of_ble_eq_true rfl) (Nat.le_of_ble_eq_true rfl) (by decide) (sX8_listen H10 hI11 (h 33 3) (h 33 3) y28 ((h 33 4) + (hr + (h 3 (x9.toNat)))) (by omega)) (fun H59 r60 q61 o62 => ?_)
                  obtain ⟨hI63, hf64, rfl, f65⟩ := q61
                  clear o62
                  have hf66 := fz_fr_tr hf12 hf64 (show fz_su [(18, 99999), (19, 99999), (29, 99999)] [(18, 99999), (19, 99999), (29, 99999), (33, 5), (33, 6), (33, 7), (34, 99999)] = true from rfl)
                  refine fz_aload_n kX6_explore rfl rfl ?_
                  refine fz_getR (t := 34) kX6_explore rfl rfl ?_
                  refine fz_iload kX6_explore rfl rfl ?_
                  refine fz_aload_n kX6_explore rfl rfl ?_
                  refine fz_getR (t := 27) kX6_explore rfl rfl ?_
                  have b67 : (-2147483648) ≤ H59 29 1 ∧ H59 29 1 ≤ 2147483647 := hI63.1 29 _
                  have b68 : 0 ≤ h 27 8 ∧ h 27 8 ≤ 99 := hI.1 27 _
                  have e69 : H59 27 8 = h 27 8 := hf66 27 8 rfl
                  refine fz_callV (d' := 1) (M' := mX8_isArrested) (As := []) (st := [fz_i ((y28 * 97) + (hr + (h 3 (x9.toNat)))), fz_r 34]) kX6_explore rfl rfl vX8_isArrested rfl rfl rfl rfl (Nat.le_of_ble_eq_true rfl) (Nat.le_of_ble_eq_true rfl) (by decide) (sX8_isArrested H59 hI63  ) (fun H70 r71 q72 o73 => ?_)
                  obtain ⟨e74, y76, rfl, p77, f75⟩ := q72
                  subst H70
                  clear o73
                  refine fz_if_eq (tgt := 151) kX6_explore rfl (by decide) (fun c78 => ?_) (fun c78 => ?_)
                  · refine fz_aload_n kX6_explore rfl rfl ?_
                    refine fz_getR (t := 27) kX6_explore rfl rfl ?_
                    refine fz_callV (d' := 0) (M' := mX8_reception) (As := []) (st := [fz_i ((y28 * 97) + (hr + (h 3 (x9.toNat)))), fz_r 34]) kX6_explore rfl rfl vX8_reception rfl rfl rfl rfl (Nat.le_of_ble_eq_true rfl) (Nat.le_of_ble_eq_true rfl) (by decide) (sX8_reception H59 hI63  ) (fun H79 r80 q81 o82 => ?_)
                    obtain ⟨e83, y86, rfl, f84, f85⟩ := q81
                    subst H79
                    clear o82
                    refine fz_iast (n := 776) kX6_explore rfl rfl (by omega) (by omega) ?_
                    refine fz_nmu (S := [(18, 99999), (19, 99999), (29, 99999), (33, 5), (33, 6), (33, 7), (34, 99999)]) (h0 := h) (fz_Iv_up hI63 (by decide) (show ((-2147483648) : Int) ≤ y86 by omega) (show (y86 : Int) ≤ 2147483647 by omega)) (fz_fr_up hf66 rfl) (fun H87 hI88 hf89 e90 => ?_)
                    clear e90
                    refine fz_aload_n kX6_explore rfl rfl ?_
                    refine fz_getR (t := 34) kX6_explore rfl rfl ?_
                    refine fz_iload kX6_explore rfl rfl ?_
                    obtain ⟨v91, e92⟩ : ∃ z, H87 34 (((y28 * 97) + (hr + (h 3 (x9.toNat)))).toNat) = z := ⟨_, rfl⟩
                    refine fz_ialdV (n := 776) (v := v91) kX6_explore rfl rfl (by omega) (by omega) e92 ?_
                    have b93 : (-2147483648) ≤ v91 ∧ v91 ≤ 2147483647 := by rw [← e92]; exact hI88.1 34 _
                    refine fz_ldc (x := (-1999999999)) kX6_explore rfl rfl rfl ?_
                    refine fz_icmp_eq (tgt := 200) kX6_explore rfl (by decide) (fun c94 => ?_) (fun c94 => ?_)
                    · refine fz_iincN (ls' := [(6, fz_i (x9 + 1)), (9, fz_i ((y28 * 97) + (hr + (h 3 (x9.toNat))))), (8, fz_i (hr + (h 3 (x9.toNat)))), (7, fz_i y28), (0, fz_r 33), (1, fz_i fr), (2, fz_i hr), (3, fz_i 1), (4, fz_i su), (5, fz_i rt)]) kX6_explore rfl (by decide) rfl (by omega) rfl ?_
                      refine fz_goto (tgt := 18) kX6_explore rfl (by decide) ?_
                      refine fz_sub (fz_pk_sub (ls' := [(6, fz_i (x9 + 1)), (0, fz_r 33), (1, fz_i fr), (2, fz_i hr), (3, fz_i 1), (4, fz_i su), (5, fz_i rt)]) [0, 4, 5, 6, 7, 8, 9] rfl) ?_
                      exact ih15 (x9 + 1) H87 hI88 hf89 (by omega) (by omega)
                    · refine fz_aload_n kX6_explore rfl rfl ?_
                      refine fz_iload kX6_explore rfl rfl ?_
                      refine fz_iload kX6_explore rfl rfl ?_
                      refine fz_iload_n kX6_explore rfl rfl ?_
                      refine fz_iconst ⟨by decide, by decide⟩ kX6_explore rfl ?_
                      refine fz_iaddN kX6_explore rfl ⟨by decide, by decide⟩ ?_
                      refine fz_eqi (y := 2) rfl ?_
                      refine fz_iload kX6_explore rfl rfl ?_
                      refine fz_aload_n kX6_explore rfl rfl ?_
                      refine fz_getR (t := 34) kX6_explore rfl rfl ?_
                      refine fz_iload kX6_explore rfl rfl ?_
                      obtain ⟨v95, e96⟩ : ∃ z, H87 34 (((y28 * 97) + (hr + (h 3 (x9.toNat)))).toNat) = z := ⟨_, rfl⟩
                      refine fz_ialdV (n := 776) (v := v95) kX6_explore rfl rfl (by omega) (by omega) e96 ?_
                      have b97 : (-2147483648) ≤ v95 ∧ v95 ≤ 2147483647 := by rw [← e96]; exact hI88.1 34 _
                      refine fz_iadd kX6_explore rfl ?_
                      refine fz_nmw (fun z98 e99 => ?_)
                      refine fz_iload kX6_explore rfl rfl ?_
                      refine fz_bipush ⟨by decide, by decide⟩ kX6_explore rfl ?_
                      refine fz_imul kX6_explore rfl ?_
                      refine fz_nmw (fun z100 e101 => ?_)
                      refine fz_iload kX6_explore rfl rfl ?_
                      refine fz_iadd kX6_explore rfl ?_
                      refine fz_nmw (fun z102 e103 => ?_)
                      refine fz_callV (d' := 6) (M' := mX6_explore) (As := [fz_i y28, fz_i (hr + (h 3 (x9.toNat))), fz_i 2, fz_i z98, fz_i z102]) (st := []) kX6_explore rfl rfl vX6_explore rfl rfl rfl rfl (Nat.le_of_ble_eq_true rfl) (Nat.le_of_ble_eq_true rfl) (by decide) (sX6_explore_2 H87 hI88 y28 (hr + (h 3 (x9.toNat))) z98 z102 (by omega) (by omega)) (fun H104 r105 q106 o107 => ?_)
                      obtain ⟨hI108, hf109, rfl⟩ := q106
                      clear o107
                      have hf110 := fz_fr_tr hf89 hf109 (show fz_su [(18, 99999), (19, 99999), (29, 99999), (33, 5), (33, 6), (33, 7), (34, 99999)] [(18, 99999), (19, 99999), (29, 99999), (33, 5), (33, 6), (33, 7), (34, 99999)] = true from rfl)
                      refine fz_iincN (ls' := [(6, fz_i (x9 + 1)), (9, fz_i ((y28 * 97) + (hr + (h 3 (x9.toNat))))), (8, fz_i (hr + (h 3 (x9.toNat)))), (7, fz_i y28), (0, fz_r 33), (1, fz_i fr), (2, fz_i hr), (3, fz_i 1), (4, fz_i su), (5, fz_i rt)]) kX6_explore rfl (by decide) rfl (by omega) rfl ?_
                      refine fz_goto (tgt := 18) kX6_explore rfl (by decide) ?_
                      refine fz_sub (fz_pk_sub (ls' := [(6, fz_i (x9 + 1)), (0, fz_r 33), (1, fz_i fr), (2, fz_i hr), (3, fz_i 1), (4, fz_i su), (5, fz_i rt)]) [0, 4, 5, 6, 7, 8, 9] rfl) ?_
                      exact ih15 (x9 + 1) H104 hI108 hf110 (by omega) (by omega)
                  · refine fz_ldc (x := (-1999999999)) kX6_explore rfl rfl rfl ?_
                    refine fz_goto (tgt := 158) kX6_explore rfl (by decide) ?_
                    refine fz_iast (n := 776) kX6_explore rfl rfl (by omega) (by omega) ?_
                    refine fz_nmu (S := [(18, 99999), (19, 99999), (29, 99999), (33, 5), (33, 6), (33, 7), (34, 99999)]) (h0 := h) (fz_Iv_up hI63 (by decide) (show ((-2147483648) : Int) ≤ (-1999999999) by decide) (show ((-1999999999) : Int) ≤ 2147483647 by decide)) (fz_fr_up hf66 rfl) (fun H111 hI112 hf113 e114 => ?_)
                    clear e114
                    refine fz_aload_n kX6_explore rfl rfl ?_
                    refine fz_getR (t := 34) kX6_explore rfl rfl ?_
                    refine fz_iload kX6_explore rfl rfl ?_
                    obtain ⟨v115, e116⟩ : ∃ z, H111 34 (((y28 * 97) + (hr + (h 3 (x9.toNat)))).toNat) = z := ⟨_, rfl⟩
                    refine fz_ialdV (n := 776) (v := v115) kX6_explore rfl rfl (by omega) (by omega) e116 ?_
                    have b117 : (-2147483648) ≤ v115 ∧ v115 ≤ 2147483647 := by rw [← e116]; exact hI112.1 34 _
                    refine fz_ldc (x := (-1999999999)) kX6_explore rfl rfl rfl ?_
                    refine fz_icmp_eq (tgt := 200) kX6_explore rfl (by decide) (fun c118 => ?_) (fun c118 => ?_)
                    · refine fz_iincN (ls' := [(6, fz_i (x9 + 1)), (9, fz_i ((y28 * 97) + (hr + (h 3 (x9.toNat))))), (8, fz_i (hr + (h 3 (x9.toNat)))), (7, fz_i y28), (0, fz_r 33), (1, fz_i fr), (2, fz_i hr), (3, fz_i 1), (4, fz_i su), (5, fz_i rt)]) kX6_explore rfl (by decide) rfl (by omega) rfl ?_
                      refine fz_goto (tgt := 18) kX6_explore rfl (by decide) ?_
                      refine fz_sub (fz_pk_sub (ls' := [(6, fz_i (x9 + 1)), (0, fz_r 33), (1, fz_i fr), (2, fz_i hr), (3, fz_i 1), (4, fz_i su), (5, fz_i rt)]) [0, 4, 5, 6, 7, 8, 9] rfl) ?_
                      exact ih15 (x9 + 1) H111 hI112 hf113 (by omega) (by omega)
                    · refine fz_aload_n kX6_explore rfl rfl ?_
                      refine fz_iload kX6_explore rfl rfl ?_
                      refine fz_iload kX6_explore rfl rfl ?_
                      refine fz_iload_n kX6_explore rfl rfl ?_
                      refine fz_iconst ⟨by decide, by decide⟩ kX6_explore rfl ?_
                      refine fz_iaddN kX6_explore rfl ⟨by decide, by decide⟩ ?_
                      refine fz_eqi (y := 2) rfl ?_
                      refine fz_iload kX6_explore rfl rfl ?_
                      refine fz_aload_n kX6_explore rfl rfl ?_
                      refine fz_getR (t := 34) kX6_explore rfl rfl ?_
                      refine fz_iload kX6_explore rfl rfl ?_
                      obtain ⟨v119, e120⟩ : ∃ z, H111 34 (((y28 * 97) + (hr + (h 3 (x9.toNat)))).toNat) = z := ⟨_, rfl⟩
                      refine fz_ialdV (n := 776) (v := v119) kX6_explore rfl rfl (by omega) (by omega) e120 ?_
                      have b121 : (-2147483648) ≤ v119 ∧ v119 ≤ 2147483647 := by rw [← e120]; exact hI112.1 34 _
                      refine fz_iadd kX6_explore rfl ?_
                      refine fz_nmw (fun z122 e123 => ?_)
                      refine fz_iload kX6_explore rfl rfl ?_
                      refine fz_bipush ⟨by decide, by decide⟩ kX6_explore rfl ?_
                      refine fz_imul kX6_explore rfl ?_
                      refine fz_nmw (fun z124 e125 => ?_)
                      refine fz_iload kX6_explore rfl rfl ?_
                      refine fz_iadd kX6_explore rfl ?_
                      refine fz_nmw (fun z126 e127 => ?_)
                      refine fz_callV (d' := 6) (M' := mX6_explore) (As := [fz_i y28, fz_i (hr + (h 3 (x9.toNat))), fz_i 2, fz_i z122, fz_i z126]) (st := []) kX6_explore rfl rfl vX6_explore rfl rfl rfl rfl (Nat.le_of_ble_eq_true rfl) (Nat.le_of_ble_eq_true rfl) (by decide) (sX6_explore_2 H111 hI112 y28 (hr + (h 3 (x9.toNat))) z122 z126 (by omega) (by omega)) (fun H128 r129 q130 o131 => ?_)
                      obtain ⟨hI132, hf133, rfl⟩ := q130
                      clear o131
                      have hf134 := fz_fr_tr hf113 hf133 (show fz_su [(18, 99999), (19, 99999), (29, 99999), (33, 5), (33, 6), (33, 7), (34, 99999)] [(18, 99999), (19, 99999), (29, 99999), (33, 5), (33, 6), (33, 7), (34, 99999)] = true from rfl)
                      refine fz_iincN (ls' := [(6, fz_i (x9 + 1)), (9, fz_i ((y28 * 97) + (hr + (h 3 (x9.toNat))))), (8, fz_i (hr + (h 3 (x9.toNat)))), (7, fz_i y28), (0, fz_r 33), (1, fz_i fr), (2, fz_i hr), (3, fz_i 1), (4, fz_i su), (5, fz_i rt)]) kX6_explore rfl (by decide) rfl (by omega) rfl ?_
                      refine fz_goto (tgt := 18) kX6_explore rfl (by decide) ?_
                      refine fz_sub (fz_pk_sub (ls' := [(6, fz_i (x9 + 1)), (0, fz_r 33), (1, fz_i fr), (2, fz_i hr), (3, fz_i 1), (4, fz_i su), (5, fz_i rt)]) [0, 4, 5, 6, 7, 8, 9] rfl) ?_
                      exact ih15 (x9 + 1) H128 hI132 hf134 (by omega) (by omega)
              · refine fz_goto (tgt := 200) kX6_explore rfl (by decide) ?_
                refine fz_iincN (ls' := [(6, fz_i (x9 + 1)), (8, fz_i (hr + (h 3 (x9.toNat)))), (7, fz_i y28), (0, fz_r 33), (1, fz_i fr), (2, fz_i hr), (3, fz_i 1), (4, fz_i su), (5, fz_i rt)]) kX6_explore rfl (by decide) rfl (by omega) rfl ?_
                refine fz_goto (tgt := 18) kX6_explore rfl (by decide) ?_
                refine fz_sub (fz_pk_sub (ls' := [(6, fz_i (x9 + 1)), (0, fz_r 33), (1, fz_i fr), (2, fz_i hr), (3, fz_i 1), (4, fz_i su), (5, fz_i rt)]) [0, 3, 4, 5, 6, 7, 8] rfl) ?_
                exact ih15 (x9 + 1) H10 hI11 hf12 (by omega) (by omega)
    exact lp14 _ 0 H1 hI5 hf7 (by omega) (Nat.lt_succ_self _)
  · exfalso; omega

abbrev qX6_explore_0 (h : fz_H) (fr hr su rt : Int) : fz_H → Option fz_V → Prop := fun h' r0 => fz_Iv h' ∧ fz_fr [(18, 99999), (19, 99999), (29, 99999), (33, 5), (33, 6), (33, 7), (34, 99999)] h h' ∧ r0 = none
set_option maxHeartbeats 1000000 in
set_option maxRecDepth 100000 in
theorem sX6_explore_0 (h : fz_H) (hI : fz_Iv h) (fr hr su rt : Int) (hp0 : 0 ≤ fr ∧ fr < 8) (hp1 : 0 ≤ hr ∧ hr ≤ 96) : fz_R 8 mX6_explore 0 [(0, fz_r 33), (1, fz_i fr), (2, fz_i hr), (3, fz_i 0), (4, fz_i su), (5, fz_i rt)] [] h (qX6_explore_0 h fr hr su rt) := by
  refine fz_knowl (fun hk => ?_)
  have hr_fr : -2147483648 ≤ fr ∧ fr < 2147483648 := hk _ (List.Mem.tail _ (List.Mem.head _))
  have hr_hr : -2147483648 ≤ hr ∧ hr < 2147483648 := hk _ (List.Mem.tail _ (List.Mem.tail _ (List.Mem.head _)))
  have hr_su : -2147483648 ≤ su ∧ su < 2147483648 := hk _ (List.Mem.tail _ (List.Mem.tail _ (List.Mem.tail _ (List.Mem.tail _ (List.Mem.head _)))))
  have hr_rt : -2147483648 ≤ rt ∧ rt < 2147483648 := hk _ (List.Mem.tail _ (List.Mem.tail _ (List.Mem.tail _ (List.Mem.tail _ (List.Mem.tail _ (List.Mem.head _))))))
  clear hk
  have hf : fz_fr [(18, 99999), (19, 99999), (29, 99999), (33, 5), (33, 6), (33, 7), (34, 99999)] h h := fz_fr_rf
  refine fz_aload_n kX6_explore rfl rfl ?_
  refine fz_iload_n kX6_explore rfl rfl ?_
  refine fz_iload kX6_explore rfl rfl ?_
  refine fz_iload kX6_explore rfl rfl ?_
  refine fz_callV (d' := 0) (M' := mX6_compare) (As := [fz_i 0, fz_i su, fz_i rt]) (st := []) kX6_explore rfl rfl vX6_compare rfl rfl rfl rfl (Nat.le_of_ble_eq_true rfl) (Nat.le_of_ble_eq_true rfl) (by decide) (sX6_compare h hI 0 su rt (by omega)) (fun H1 r2 q3 o4 => ?_)
  obtain ⟨hI5, hf6, rfl⟩ := q3
  clear o4
  have hf7 := fz_fr_tr hf hf6 (show fz_su [(33, 5), (33, 6), (33, 7)] [(18, 99999), (19, 99999), (29, 99999), (33, 5), (33, 6), (33, 7), (34, 99999)] = true from rfl)
  refine fz_iload_n kX6_explore rfl rfl ?_
  refine fz_iconst ⟨by decide, by decide⟩ kX6_explore rfl ?_
  refine fz_icmp_lt (tgt := 15) kX6_explore rfl (by decide) (fun c8 => ?_) (fun c8 => ?_)
  · refine fz_iconst ⟨by decide, by decide⟩ kX6_explore rfl ?_
    refine fz_istore (ls' := [(6, fz_i 0), (0, fz_r 33), (1, fz_i fr), (2, fz_i hr), (3, fz_i 0), (4, fz_i su), (5, fz_i rt)]) kX6_explore rfl (by decide) rfl ?_
    have lp14 : ∀ (n13 : Nat) (x9 : Int) (H10 : fz_H), fz_Iv H10 → fz_fr [(18, 99999), (19, 99999), (29, 99999), (33, 5), (33, 6), (33, 7), (34, 99999)] h H10 → (0 ≤ x9 ∧ x9 ≤ 2147483647) → ((h 1 8) - x9).toNat < n13 → fz_R 8 mX6_explore 18 [(6, fz_i x9), (0, fz_r 33), (1, fz_i fr), (2, fz_i hr), (3, fz_i 0), (4, fz_i su), (5, fz_i rt)] [] H10 (qX6_explore_0 h fr hr su rt) := by
      intro n13
      induction n13 with
      | zero => intro x9 H10 hI11 hf12 hv17 hm16; exact absurd hm16 (by omega)
      | succ n13 ih15 =>
        intro x9 H10 hI11 hf12 hv17 hm16
        refine fz_iload kX6_explore rfl rfl ?_
        refine fz_aload_n kX6_explore rfl rfl ?_
        refine fz_getR (t := 1) kX6_explore rfl rfl ?_
        refine fz_getV (v := h 1 8) kX6_explore rfl rfl (hf12 1 8 rfl) ?_
        have b18 : 0 ≤ h 1 8 ∧ h 1 8 ≤ 12 := hI.1 1 _
        refine fz_icmp_ge (tgt := 206) kX6_explore rfl (by decide) (fun c19 => ?_) (fun c19 => ?_)
        · exact fz_vret kX6_explore rfl rfl ⟨hI11, hf12, rfl⟩
        · refine fz_aload_n kX6_explore rfl rfl ?_
          refine fz_getR (t := 1) kX6_explore rfl rfl ?_
          refine fz_iload kX6_explore rfl rfl ?_
          refine fz_iload_n kX6_explore rfl rfl ?_
          refine fz_callV (d' := 0) (M' := mX2_acrossFrom) (As := [fz_i x9, fz_i fr]) (st := []) kX6_explore rfl rfl vX2_acrossFrom rfl rfl rfl rfl (Nat.le_of_ble_eq_true rfl) (Nat.le_of_ble_eq_true rfl) (by decide) (sX2_acrossFrom H10 hI11 x9 fr (by omega)) (fun H20 r21 q22 o23 => ?_)
          obtain ⟨e24, y28, rfl, f25, f26, f27⟩ := q22
          subst H20
          clear o23
          refine fz_istore (ls' := [(7, fz_i y28), (6, fz_i x9), (0, fz_r 33), (1, fz_i fr), (2, fz_i hr), (3, fz_i 0), (4, fz_i su), (5, fz_i rt)]) kX6_explore rfl (by decide) rfl ?_
          refine fz_iload_n kX6_explore rfl rfl ?_
          refine fz_aload_n kX6_explore rfl rfl ?_
          refine fz_getR (t := 1) kX6_explore rfl rfl ?_
          refine fz_getR (t := 3) kX6_explore rfl rfl ?_
          refine fz_iload kX6_explore rfl rfl ?_
          refine fz_ialdV (n := 12) (v := h 3 (x9.toNat)) kX6_explore rfl rfl (by omega) (by omega) (hf12 3 _ rfl) ?_
          have b29 : 0 ≤ h 3 (x9.toNat) ∧ h 3 (x9.toNat) ≤ 24 := hI.1 3 _
          refine fz_iaddN kX6_explore rfl (by omega) ?_
          refine fz_istore (ls' := [(8, fz_i (hr + (h 3 (x9.toNat)))), (7, fz_i y28), (6, fz_i x9), (0, fz_r 33), (1, fz_i fr), (2, fz_i hr), (3, fz_i 0), (4, fz_i su), (5, fz_i rt)]) kX6_explore rfl (by decide) rfl ?_
          refine fz_iload kX6_explore rfl rfl ?_
          refine fz_if_lt (tgt := 200) kX6_explore rfl (by decide) (fun c30 => ?_) (fun c30 => ?_)
          · refine fz_iincN (ls' := [(6, fz_i (x9 + 1)), (8, fz_i (hr + (h 3 (x9.toNat)))), (7, fz_i y28), (0, fz_r 33), (1, fz_i fr), (2, fz_i hr), (3, fz_i 0), (4, fz_i su), (5, fz_i rt)]) kX6_explore rfl (by decide) rfl (by omega) rfl ?_
            refine fz_goto (tgt := 18) kX6_explore rfl (by decide) ?_
            refine fz_sub (fz_pk_sub (ls' := [(6, fz_i (x9 + 1)), (0, fz_r 33), (1, fz_i fr), (2, fz_i hr), (3, fz_i 0), (4, fz_i su), (5, fz_i rt)]) [0, 3, 4, 5, 6, 7, 8] rfl) ?_
            exact ih15 (x9 + 1) H10 hI11 hf12 (by omega) (by omega)
          · refine fz_iload kX6_explore rfl rfl ?_
            refine fz_bipush ⟨by decide, by decide⟩ kX6_explore rfl ?_
            refine fz_icmp_ge (tgt := 200) kX6_explore rfl (by decide) (fun c31 => ?_) (fun c31 => ?_)
            · refine fz_iincN (ls' := [(6, fz_i (x9 + 1)), (8, fz_i (hr + (h 3 (x9.toNat)))), (7, fz_i y28), (0, fz_r 33), (1, fz_i fr), (2, fz_i hr), (3, fz_i 0), (4, fz_i su), (5, fz_i rt)]) kX6_explore rfl (by decide) rfl (by omega) rfl ?_
              refine fz_goto (tgt := 18) kX6_explore rfl (by decide) ?_
              refine fz_sub (fz_pk_sub (ls' := [(6, fz_i (x9 + 1)), (0, fz_r 33), (1, fz_i fr), (2, fz_i hr), (3, fz_i 0), (4, fz_i su), (5, fz_i rt)]) [0, 3, 4, 5, 6, 7, 8] rfl) ?_
              exact ih15 (x9 + 1) H10 hI11 hf12 (by omega) (by omega)
            · refine fz_aload_n kX6_explore rfl rfl ?_
              refine fz_getV (v := h 33 4) kX6_explore rfl rfl (hf12 33 4 rfl) ?_
              have b32 : 0 ≤ h 33 4 ∧ h 33 4 ≤ 999 := hI.1 33 _
              refine fz_iload kX6_explore rfl rfl ?_
              refine fz_iaddN kX6_explore rfl (by omega) ?_
              refine fz_sipush ⟨by decide, by decide⟩ kX6_explore rfl ?_
              refine fz_icmp_le (tgt := 84) kX6_explore rfl (by decide) (fun c33 => ?_) (fun c33 => ?_)
              · refine fz_iload kX6_explore rfl rfl ?_
                refine fz_bipush ⟨by decide, by decide⟩ kX6_explore rfl ?_
                refine fz_imulN kX6_explore rfl (by omega) ?_
                refine fz_iload kX6_explore rfl rfl ?_
                refine fz_iaddN kX6_explore rfl (by omega) ?_
                refine fz_istore (ls' := [(9, fz_i ((y28 * 97) + (hr + (h 3 (x9.toNat))))), (8, fz_i (hr + (h 3 (x9.toNat)))), (7, fz_i y28), (6, fz_i x9), (0, fz_r 33), (1, fz_i fr), (2, fz_i hr), (3, fz_i 0), (4, fz_i su), (5, fz_i rt)]) kX6_explore rfl (by decide) rfl ?_
                refine fz_aload_n kX6_explore rfl rfl ?_
                refine fz_getR (t := 34) kX6_explore rfl rfl ?_
                refine fz_iload kX6_explore rfl rfl ?_
                obtain ⟨v34, e35⟩ : ∃ z, H10 34 (((y28 * 97) + (hr + (h 3 (x9.toNat)))).toNat) = z := ⟨_, rfl⟩
                refine fz_ialdV (n := 776) (v := v34) kX6_explore rfl rfl (by omega) (by omega) e35 ?_
                have b36 : (-2147483648) ≤ v34 ∧ v34 ≤ 2147483647 := by rw [← e35]; exact hI11.1 34 _
                refine fz_ldc (x := (-2000000000)) kX6_explore rfl rfl rfl ?_
                refine fz_icmp_ne (tgt := 159) kX6_explore rfl (by decide) (fun c37 => ?_) (fun c37 => ?_)
                · refine fz_aload_n kX6_explore rfl rfl ?_
                  refine fz_getR (t := 34) kX6_explore rfl rfl ?_
                  refine fz_iload kX6_explore rfl rfl ?_
                  obtain ⟨v38, e39⟩ : ∃ z, H10 34 (((y28 * 97) + (hr + (h 3 (x9.toNat)))).toNat) = z := ⟨_, rfl⟩
                  refine fz_ialdV (n := 776) (v := v38) kX6_explore rfl rfl (by omega) (by omega) e39 ?_
                  have b40 : (-2147483648) ≤ v38 ∧ v38 ≤ 2147483647 := by rw [← e39]; exact hI11.1 34 _
                  refine fz_ldc (x := (-1999999999)) kX6_explore rfl rfl rfl ?_
                  refine fz_icmp_eq (tgt := 200) kX6_explore rfl (by decide) (fun c41 => ?_) (fun c41 => ?_)
                  · refine fz_iincN (ls' := [(6, fz_i (x9 + 1)), (9, fz_i ((y28 * 97) + (hr + (h 3 (x9.toNat))))), (8, fz_i (hr + (h 3 (x9.toNat)))), (7, fz_i y28), (0, fz_r 33), (1, fz_i fr), (2, fz_i hr), (3, fz_i 0), (4, fz_i su), (5, fz_i rt)]) kX6_explore rfl (by decide) rfl (by omega) rfl ?_
                    refine fz_goto (tgt := 18) kX6_explore rfl (by decide) ?_
                    refine fz_sub (fz_pk_sub (ls' := [(6, fz_i (x9 + 1)), (0, fz_r 33), (1, fz_i fr), (2, fz_i hr), (3, fz_i 0), (4, fz_i su), (5, fz_i rt)]) [0, 4, 5, 6, 7, 8, 9] rfl) ?_
                    exact ih15 (x9 + 1) H10 hI11 hf12 (by omega) (by omega)
                  · refine fz_aload_n kX6_explore rfl rfl ?_
                    refine fz_iload kX6_explore rfl rfl ?_
                    refine fz_iload kX6_explore rfl rfl ?_
                    refine fz_iload_n kX6_explore rfl rfl ?_
                    refine fz_iconst ⟨by decide, by decide⟩ kX6_explore rfl ?_
                    refine fz_iaddN kX6_explore rfl ⟨by decide, by decide⟩ ?_
                    refine fz_eqi (y := 1) rfl ?_
                    refine fz_iload kX6_explore rfl rfl ?_
                    refine fz_aload_n kX6_explore rfl rfl ?_
                    refine fz_getR (t := 34) kX6_explore rfl rfl ?_
                    refine fz_iload kX6_explore rfl rfl ?_
                    obtain ⟨v42, e43⟩ : ∃ z, H10 34 (((y28 * 97) + (hr + (h 3 (x9.toNat)))).toNat) = z := ⟨_, rfl⟩
                    refine fz_ialdV (n := 776) (v := v42) kX6_explore rfl rfl (by omega) (by omega) e43 ?_
                    have b44 : (-2147483648) ≤ v42 ∧ v42 ≤ 2147483647 := by rw [← e43]; exact hI11.1 34 _
                    refine fz_iadd kX6_explore rfl ?_
                    refine fz_nmw (fun z45 e46 => ?_)
                    refine fz_iload kX6_explore rfl rfl ?_
                    refine fz_bipush ⟨by decide, by decide⟩ kX6_explore rfl ?_
                    refine fz_imul kX6_explore rfl ?_
                    refine fz_nmw (fun z47 e48 => ?_)
                    refine fz_iload kX6_explore rfl rfl ?_
                    refine fz_iadd kX6_explore rfl ?_
                    refine fz_nmw (fun z49 e50 => ?_)
                    refine fz_callV (d' := 7) (M' := mX6_explore) (As := [fz_i y28, fz_i (hr + (h 3 (x9.toNat))), fz_i 1, fz_i z45, fz_i z49]) (st := []) kX6_explore rfl rfl vX6_explore rfl rfl rfl rfl (Nat.le_of_ble_eq_true rfl) (Nat.le_of_ble_eq_true rfl) (by decide) (sX6_explore_1 H10 hI11 y28 (hr + (h 3 (x9.toNat))) z45 z49 (by omega) (by omega)) (fun H51 r52 q53 o54 => ?_)
                    obtain ⟨hI55, hf56, rfl⟩ := q53
                    clear o54
                    have hf57 := fz_fr_tr hf12 hf56 (show fz_su [(18, 99999), (19, 99999), (29, 99999), (33, 5), (33, 6), (33, 7), (34, 99999)] [(18, 99999), (19, 99999), (29, 99999), (33, 5), (33, 6), (33, 7), (34, 99999)] = true from rfl)
                    refine fz_iincN (ls' := [(6, fz_i (x9 + 1)), (9, fz_i ((y28 * 97) + (hr + (h 3 (x9.toNat))))), (8, fz_i (hr + (h 3 (x9.toNat)))), (7, fz_i y28), (0, fz_r 33), (1, fz_i fr), (2, fz_i hr), (3, fz_i 0), (4, fz_i su), (5, fz_i rt)]) kX6_explore rfl (by decide) rfl (by omega) rfl ?_
                    refine fz_goto (tgt := 18) kX6_explore rfl (by decide) ?_
                    refine fz_sub (fz_pk_sub (ls' := [(6, fz_i (x9 + 1)), (0, fz_r 33), (1, fz_i fr), (2, fz_i hr), (3, fz_i 0), (4, fz_i su), (5, fz_i rt)]) [0, 4, 5, 6, 7, 8, 9] rfl) ?_
                    exact ih15 (x9 + 1) H51 hI55 hf57 (by omega) (by omega)
                · refine fz_aload_n kX6_explore rfl rfl ?_
                  refine fz_getR (t := 27) kX6_explore rfl rfl ?_
                  refine fz_aload_n kX6_explore rfl rfl ?_
                  refine fz_getV (v := h 33 3) kX6_explore rfl rfl (hf12 33 3 rfl) ?_
                  have b58 : 0 ≤ h 33 3 ∧ h 33 3 ≤ 3 := hI.1 33 _
                  refine fz_aload_n kX6_explore rfl rfl ?_
                  refine fz_getV (v := h 33 3) kX6_explore rfl rfl (hf12 33 3 rfl) ?_
                  refine fz_iload kX6_explore rfl rfl ?_
                  refine fz_aload_n kX6_explore rfl rfl ?_
                  refine fz_getV (v := h 33 4) kX6_explore rfl rfl (hf12 33 4 rfl) ?_
                  refine fz_iload kX6_explore rfl rfl ?_
                  refine fz_iaddN kX6_explore rfl (by omega) ?_
                  refine fz_callV (d' := 4) (M' := mX8_listen) (As := [fz_i (h 33 3), fz_i (h 33 3), fz_i y28, fz_i ((h 33 4) + (hr + (h 3 (x9.toNat))))]) (st := []) kX6_explore rfl rfl vX8_listen rfl rfl rfl rfl (Nat.le_of_ble_eq_true rfl) (Nat.le_of_ble_eq_true rfl) (by decide) (sX8_listen H10 hI11 (h 33 3) (h 33 3) y28 ((h 33 4) + (hr + (h 3 (x9.toNat)))) (by omega)) (fun H59 r60 q61 o62 => ?_)
                  obtain ⟨hI63, hf64, rfl, f65⟩ := q61
                  clear o62
                  have hf66 := fz_fr_tr hf12 hf64 (show fz_su [(18, 99999), (19, 99999), (29, 99999)] [(18, 99999), (19, 99999), (29, 99999), (33, 5), (33, 6), (33, 7), (34, 99999)] = true from rfl)
                  refine fz_aload_n kX6_explore rfl rfl ?_
                  refine fz_getR (t := 34) kX6_explore rfl rfl ?_
                  refine fz_iload kX6_explore rfl rfl ?_
                  refine fz_aload_n kX6_explore rfl rfl ?_
                  refine fz_getR (t := 27) kX6_explore rfl rfl ?_
                  have b67 : (-2147483648) ≤ H59 29 1 ∧ H59 29 1 ≤ 2147483647 := hI63.1 29 _
                  have b68 : 0 ≤ h 27 8 ∧ h 27 8 ≤ 99 := hI.1 27 _
                  have e69 : H59 27 8 = h 27 8 := hf66 27 8 rfl
                  refine fz_callV (d' := 1) (M' := mX8_isArrested) (As := []) (st := [fz_i ((y28 * 97) + (hr + (h 3 (x9.toNat)))), fz_r 34]) kX6_explore rfl rfl vX8_isArrested rfl rfl rfl rfl (Nat.le_of_ble_eq_true rfl) (Nat.le_of_ble_eq_true rfl) (by decide) (sX8_isArrested H59 hI63  ) (fun H70 r71 q72 o73 => ?_)
                  obtain ⟨e74, y76, rfl, p77, f75⟩ := q72
                  subst H70
                  clear o73
                  refine fz_if_eq (tgt := 151) kX6_explore rfl (by decide) (fun c78 => ?_) (fun c78 => ?_)
                  · refine fz_aload_n kX6_explore rfl rfl ?_
                    refine fz_getR (t := 27) kX6_explore rfl rfl ?_
                    refine fz_callV (d' := 0) (M' := mX8_reception) (As := []) (st := [fz_i ((y28 * 97) + (hr + (h 3 (x9.toNat)))), fz_r 34]) kX6_explore rfl rfl vX8_reception rfl rfl rfl rfl (Nat.le_of_ble_eq_true rfl) (Nat.le_of_ble_eq_true rfl) (by decide) (sX8_reception H59 hI63  ) (fun H79 r80 q81 o82 => ?_)
                    obtain ⟨e83, y86, rfl, f84, f85⟩ := q81
                    subst H79
                    clear o82
                    refine fz_iast (n := 776) kX6_explore rfl rfl (by omega) (by omega) ?_
                    refine fz_nmu (S := [(18, 99999), (19, 99999), (29, 99999), (33, 5), (33, 6), (33, 7), (34, 99999)]) (h0 := h) (fz_Iv_up hI63 (by decide) (show ((-2147483648) : Int) ≤ y86 by omega) (show (y86 : Int) ≤ 2147483647 by omega)) (fz_fr_up hf66 rfl) (fun H87 hI88 hf89 e90 => ?_)
                    clear e90
                    refine fz_aload_n kX6_explore rfl rfl ?_
                    refine fz_getR (t := 34) kX6_explore rfl rfl ?_
                    refine fz_iload kX6_explore rfl rfl ?_
                    obtain ⟨v91, e92⟩ : ∃ z, H87 34 (((y28 * 97) + (hr + (h 3 (x9.toNat)))).toNat) = z := ⟨_, rfl⟩
                    refine fz_ialdV (n := 776) (v := v91) kX6_explore rfl rfl (by omega) (by omega) e92 ?_
                    have b93 : (-2147483648) ≤ v91 ∧ v91 ≤ 2147483647 := by rw [← e92]; exact hI88.1 34 _
                    refine fz_ldc (x := (-1999999999)) kX6_explore rfl rfl rfl ?_
                    refine fz_icmp_eq (tgt := 200) kX6_explore rfl (by decide) (fun c94 => ?_) (fun c94 => ?_)
                    · refine fz_iincN (ls' := [(6, fz_i (x9 + 1)), (9, fz_i ((y28 * 97) + (hr + (h 3 (x9.toNat))))), (8, fz_i (hr + (h 3 (x9.toNat)))), (7, fz_i y28), (0, fz_r 33), (1, fz_i fr), (2, fz_i hr), (3, fz_i 0), (4, fz_i su), (5, fz_i rt)]) kX6_explore rfl (by decide) rfl (by omega) rfl ?_
                      refine fz_goto (tgt := 18) kX6_explore rfl (by decide) ?_
                      refine fz_sub (fz_pk_sub (ls' := [(6, fz_i (x9 + 1)), (0, fz_r 33), (1, fz_i fr), (2, fz_i hr), (3, fz_i 0), (4, fz_i su), (5, fz_i rt)]) [0, 4, 5, 6, 7, 8, 9] rfl) ?_
                      exact ih15 (x9 + 1) H87 hI88 hf89 (by omega) (by omega)
                    · refine fz_aload_n kX6_explore rfl rfl ?_
                      refine fz_iload kX6_explore rfl rfl ?_
                      refine fz_iload kX6_explore rfl rfl ?_
                      refine fz_iload_n kX6_explore rfl rfl ?_
                      refine fz_iconst ⟨by decide, by decide⟩ kX6_explore rfl ?_
                      refine fz_iaddN kX6_explore rfl ⟨by decide, by decide⟩ ?_
                      refine fz_eqi (y := 1) rfl ?_
                      refine fz_iload kX6_explore rfl rfl ?_
                      refine fz_aload_n kX6_explore rfl rfl ?_
                      refine fz_getR (t := 34) kX6_explore rfl rfl ?_
                      refine fz_iload kX6_explore rfl rfl ?_
                      obtain ⟨v95, e96⟩ : ∃ z, H87 34 (((y28 * 97) + (hr + (h 3 (x9.toNat)))).toNat) = z := ⟨_, rfl⟩
                      refine fz_ialdV (n := 776) (v := v95) kX6_explore rfl rfl (by omega) (by omega) e96 ?_
                      have b97 : (-2147483648) ≤ v95 ∧ v95 ≤ 2147483647 := by rw [← e96]; exact hI88.1 34 _
                      refine fz_iadd kX6_explore rfl ?_
                      refine fz_nmw (fun z98 e99 => ?_)
                      refine fz_iload kX6_explore rfl rfl ?_
                      refine fz_bipush ⟨by decide, by decide⟩ kX6_explore rfl ?_
                      refine fz_imul kX6_explore rfl ?_
                      refine fz_nmw (fun z100 e101 => ?_)
                      refine fz_iload kX6_explore rfl rfl ?_
                      refine fz_iadd kX6_explore rfl ?_
                      refine fz_nmw (fun z102 e103 => ?_)
                      refine fz_callV (d' := 7) (M' := mX6_explore) (As := [fz_i y28, fz_i (hr + (h 3 (x9.toNat))), fz_i 1, fz_i z98, fz_i z102]) (st := []) kX6_explore rfl rfl vX6_explore rfl rfl rfl rfl (Nat.le_of_ble_eq_true rfl) (Nat.le_of_ble_eq_true rfl) (by decide) (sX6_explore_1 H87 hI88 y28 (hr + (h 3 (x9.toNat))) z98 z102 (by omega) (by omega)) (fun H104 r105 q106 o107 => ?_)
                      obtain ⟨hI108, hf109, rfl⟩ := q106
                      clear o107
                      have hf110 := fz_fr_tr hf89 hf109 (show fz_su [(18, 99999), (19, 99999), (29, 99999), (33, 5), (33, 6), (33, 7), (34, 99999)] [(18, 99999), (19, 99999), (29, 99999), (33, 5), (33, 6), (33, 7), (34, 99999)] = true from rfl)
                      refine fz_iincN (ls' := [(6, fz_i (x9 + 1)), (9, fz_i ((y28 * 97) + (hr + (h 3 (x9.toNat))))), (8, fz_i (hr + (h 3 (x9.toNat)))), (7, fz_i y28), (0, fz_r 33), (1, fz_i fr), (2, fz_i hr), (3, fz_i 0), (4, fz_i su), (5, fz_i rt)]) kX6_explore rfl (by decide) rfl (by omega) rfl ?_
                      refine fz_goto (tgt := 18) kX6_explore rfl (by decide) ?_
                      refine fz_sub (fz_pk_sub (ls' := [(6, fz_i (x9 + 1)), (0, fz_r 33), (1, fz_i fr), (2, fz_i hr), (3, fz_i 0), (4, fz_i su), (5, fz_i rt)]) [0, 4, 5, 6, 7, 8, 9] rfl) ?_
                      exact ih15 (x9 + 1) H104 hI108 hf110 (by omega) (by omega)
                  · refine fz_ldc (x := (-1999999999)) kX6_explore rfl rfl rfl ?_
                    refine fz_goto (tgt := 158) kX6_explore rfl (by decide) ?_
                    refine fz_iast (n := 776) kX6_explore rfl rfl (by omega) (by omega) ?_
                    refine fz_nmu (S := [(18, 99999), (19, 99999), (29, 99999), (33, 5), (33, 6), (33, 7), (34, 99999)]) (h0 := h) (fz_Iv_up hI63 (by decide) (show ((-2147483648) : Int) ≤ (-1999999999) by decide) (show ((-1999999999) : Int) ≤ 2147483647 by decide)) (fz_fr_up hf66 rfl) (fun H111 hI112 hf113 e114 => ?_)
                    clear e114
                    refine fz_aload_n kX6_explore rfl rfl ?_
                    refine fz_getR (t := 34) kX6_explore rfl rfl ?_
                    refine fz_iload kX6_explore rfl rfl ?_
                    obtain ⟨v115, e116⟩ : ∃ z, H111 34 (((y28 * 97) + (hr + (h 3 (x9.toNat)))).toNat) = z := ⟨_, rfl⟩
                    refine fz_ialdV (n := 776) (v := v115) kX6_explore rfl rfl (by omega) (by omega) e116 ?_
                    have b117 : (-2147483648) ≤ v115 ∧ v115 ≤ 2147483647 := by rw [← e116]; exact hI112.1 34 _
                    refine fz_ldc (x := (-1999999999)) kX6_explore rfl rfl rfl ?_
                    refine fz_icmp_eq (tgt := 200) kX6_explore rfl (by decide) (fun c118 => ?_) (fun c118 => ?_)
                    · refine fz_iincN (ls' := [(6, fz_i (x9 + 1)), (9, fz_i ((y28 * 97) + (hr + (h 3 (x9.toNat))))), (8, fz_i (hr + (h 3 (x9.toNat)))), (7, fz_i y28), (0, fz_r 33), (1, fz_i fr), (2, fz_i hr), (3, fz_i 0), (4, fz_i su), (5, fz_i rt)]) kX6_explore rfl (by decide) rfl (by omega) rfl ?_
                      refine fz_goto (tgt := 18) kX6_explore rfl (by decide) ?_
                      refine fz_sub (fz_pk_sub (ls' := [(6, fz_i (x9 + 1)), (0, fz_r 33), (1, fz_i fr), (2, fz_i hr), (3, fz_i 0), (4, fz_i su), (5, fz_i rt)]) [0, 4, 5, 6, 7, 8, 9] rfl) ?_
                      exact ih15 (x9 + 1) H111 hI112 hf113 (by omega) (by omega)
                    · refine fz_aload_n kX6_explore rfl rfl ?_
                      refine fz_iload kX6_explore rfl rfl ?_
                      refine fz_iload kX6_explore rfl rfl ?_
                      refine fz_iload_n kX6_explore rfl rfl ?_
                      refine fz_iconst ⟨by decide, by decide⟩ kX6_explore rfl ?_
                      refine fz_iaddN kX6_explore rfl ⟨by decide, by decide⟩ ?_
                      refine fz_eqi (y := 1) rfl ?_
                      refine fz_iload kX6_explore rfl rfl ?_
                      refine fz_aload_n kX6_explore rfl rfl ?_
                      refine fz_getR (t := 34) kX6_explore rfl rfl ?_
                      refine fz_iload kX6_explore rfl rfl ?_
                      obtain ⟨v119, e120⟩ : ∃ z, H111 34 (((y28 * 97) + (hr + (h 3 (x9.toNat)))).toNat) = z := ⟨_, rfl⟩
                      refine fz_ialdV (n := 776) (v := v119) kX6_explore rfl rfl (by omega) (by omega) e120 ?_
                      have b121 : (-2147483648) ≤ v119 ∧ v119 ≤ 2147483647 := by rw [← e120]; exact hI112.1 34 _
                      refine fz_iadd kX6_explore rfl ?_
                      refine fz_nmw (fun z122 e123 => ?_)
                      refine fz_iload kX6_explore rfl rfl ?_
                      refine fz_bipush ⟨by decide, by decide⟩ kX6_explore rfl ?_
                      refine fz_imul kX6_explore rfl ?_
                      refine fz_nmw (fun z124 e125 => ?_)
                      refine fz_iload kX6_explore rfl rfl ?_
                      refine fz_iadd kX6_explore rfl ?_
                      refine fz_nmw (fun z126 e127 => ?_)
                      refine fz_callV (d' := 7) (M' := mX6_explore) (As := [fz_i y28, fz_i (hr + (h 3 (x9.toNat))), fz_i 1, fz_i z122, fz_i z126]) (st := []) kX6_explore rfl rfl vX6_explore rfl rfl rfl rfl (Nat.le_of_ble_eq_true rfl) (Nat.le_of_ble_eq_true rfl) (by decide) (sX6_explore_1 H111 hI112 y28 (hr + (h 3 (x9.toNat))) z122 z126 (by omega) (by omega)) (fun H128 r129 q130 o131 => ?_)
                      obtain ⟨hI132, hf133, rfl⟩ := q130
                      clear o131
                      have hf134 := fz_fr_tr hf113 hf133 (show fz_su [(18, 99999), (19, 99999), (29, 99999), (33, 5), (33, 6), (33, 7), (34, 99999)] [(18, 99999), (19, 99999), (29, 99999), (33, 5), (33, 6), (33, 7), (34, 99999)] = true from rfl)
                      refine fz_iincN (ls' := [(6, fz_i (x9 + 1)), (9, fz_i ((y28 * 97) + (hr + (h 3 (x9.toNat))))), (8, fz_i (hr + (h 3 (x9.toNat)))), (7, fz_i y28), (0, fz_r 33), (1, fz_i fr), (2, fz_i hr), (3, fz_i 0), (4, fz_i su), (5, fz_i rt)]) kX6_explore rfl (by decide) rfl (by omega) rfl ?_
                      refine fz_goto (tgt := 18) kX6_explore rfl (by decide) ?_
                      refine fz_sub (fz_pk_sub (ls' := [(6, fz_i (x9 + 1)), (0, fz_r 33), (1, fz_i fr), (2, fz_i hr), (3, fz_i 0), (4, fz_i su), (5, fz_i rt)]) [0, 4, 5, 6, 7, 8, 9] rfl) ?_
                      exact ih15 (x9 + 1) H128 hI132 hf134 (by omega) (by omega)
              · refine fz_goto (tgt := 200) kX6_explore rfl (by decide) ?_
                refine fz_iincN (ls' := [(6, fz_i (x9 + 1)), (8, fz_i (hr + (h 3 (x9.toNat)))), (7, fz_i y28), (0, fz_r 33), (1, fz_i fr), (2, fz_i hr), (3, fz_i 0), (4, fz_i su), (5, fz_i rt)]) kX6_explore rfl (by decide) rfl (by omega) rfl ?_
                refine fz_goto (tgt := 18) kX6_explore rfl (by decide) ?_
                refine fz_sub (fz_pk_sub (ls' := [(6, fz_i (x9 + 1)), (0, fz_r 33), (1, fz_i fr), (2, fz_i hr), (3, fz_i 0), (4, fz_i su), (5, fz_i rt)]) [0, 3, 4, 5, 6, 7, 8] rfl) ?_
                exact ih15 (x9 + 1) H10 hI11 hf12 (by omega) (by omega)
    exact lp14 _ 0 H1 hI5 hf7 (by omega) (Nat.lt_succ_self _)
  · exfalso; omega

abbrev qX6_seek (h : fz_H) (on fr hr : Int) : fz_H → Option fz_V → Prop := fun h' r0 => fz_Iv h' ∧ fz_fr [(18, 99999), (19, 99999), (29, 99999), (33, 3), (33, 4), (33, 5), (33, 6), (33, 7), (34, 99999)] h h' ∧ r0 = none
set_option maxHeartbeats 1000000 in
set_option maxRecDepth 100000 in
theorem sX6_seek (h : fz_H) (hI : fz_Iv h) (on fr hr : Int) (hp0 : 0 ≤ on ∧ on < 4) (hp1 : 0 ≤ fr ∧ fr < 8) (hp2 : 0 ≤ hr ∧ hr ≤ 999) : fz_R 9 mX6_seek 0 [(0, fz_r 33), (1, fz_i on), (2, fz_i fr), (3, fz_i hr)] [] h (qX6_seek h on fr hr) := by
  refine fz_knowl (fun hk => ?_)
  have hr_on : -2147483648 ≤ on ∧ on < 2147483648 := hk _ (List.Mem.tail _ (List.Mem.head _))
  have hr_fr : -2147483648 ≤ fr ∧ fr < 2147483648 := hk _ (List.Mem.tail _ (List.Mem.tail _ (List.Mem.head _)))
  have hr_hr : -2147483648 ≤ hr ∧ hr < 2147483648 := hk _ (List.Mem.tail _ (List.Mem.tail _ (List.Mem.tail _ (List.Mem.head _))))
  clear hk
  have hf : fz_fr [(18, 99999), (19, 99999), (29, 99999), (33, 3), (33, 4), (33, 5), (33, 6), (33, 7), (34, 99999)] h h := fz_fr_rf
  refine fz_aload_n kX6_seek rfl rfl ?_
  refine fz_getR (t := 34) kX6_seek rfl rfl ?_
  refine fz_ldc (x := (-2000000000)) kX6_seek rfl rfl rfl ?_
  refine fz_callS (d' := 0) (M' := mJ7_fill_53178) (As := [fz_r 34, fz_i (-2000000000)]) (st := []) kX6_seek rfl rfl vJ7_fill_53178 rfl rfl (Nat.le_of_ble_eq_true rfl) (Nat.le_of_ble_eq_true rfl) (by decide) (sJ7_fill_53178_34 h hI (-2000000000) ) (fun H1 r2 q3 o4 => ?_)
  obtain ⟨hI5, hf6, rfl, f7⟩ := q3
  clear o4
  have hf8 := fz_fr_tr hf hf6 (show fz_su [(34, 99999)] [(18, 99999), (19, 99999), (29, 99999), (33, 3), (33, 4), (33, 5), (33, 6), (33, 7), (34, 99999)] = true from rfl)
  refine fz_aload_n kX6_seek rfl rfl ?_
  refine fz_iload_n kX6_seek rfl rfl ?_
  refine fz_putI kX6_seek rfl rfl rfl ?_
  refine fz_nmu (S := [(18, 99999), (19, 99999), (29, 99999), (33, 3), (33, 4), (33, 5), (33, 6), (33, 7), (34, 99999)]) (h0 := h) (fz_Iv_up hI5 (by decide) (show (0 : Int) ≤ on by omega) (show (on : Int) ≤ 3 by omega)) (fz_fr_up hf8 rfl) (fun H9 hI10 hf11 e12 => ?_)
  have k13 : H9 33 3 = on := by rw [e12]; exact fz_up_e
  clear e12
  refine fz_aload_n kX6_seek rfl rfl ?_
  refine fz_iload_n kX6_seek rfl rfl ?_
  refine fz_putI kX6_seek rfl rfl rfl ?_
  refine fz_nmu (S := [(18, 99999), (19, 99999), (29, 99999), (33, 3), (33, 4), (33, 5), (33, 6), (33, 7), (34, 99999)]) (h0 := h) (fz_Iv_up hI10 (by decide) (show (0 : Int) ≤ hr by omega) (show (hr : Int) ≤ 999 by omega)) (fz_fr_up hf11 rfl) (fun H14 hI15 hf16 e17 => ?_)
  have k18 : H14 33 3 = on := by rw [e17]; exact (fz_up_s (by decide)).trans k13
  have k19 : H14 33 4 = hr := by rw [e17]; exact fz_up_e
  clear e17
  refine fz_aload_n kX6_seek rfl rfl ?_
  refine fz_iconst ⟨by decide, by decide⟩ kX6_seek rfl ?_
  refine fz_putI kX6_seek rfl rfl rfl ?_
  refine fz_nmu (S := [(18, 99999), (19, 99999), (29, 99999), (33, 3), (33, 4), (33, 5), (33, 6), (33, 7), (34, 99999)]) (h0 := h) (fz_Iv_up hI15 (by decide) (show ((-2147483648) : Int) ≤ 0 by decide) (show (0 : Int) ≤ 2147483647 by decide)) (fz_fr_up hf16 rfl) (fun H20 hI21 hf22 e23 => ?_)
  have k24 : H20 33 3 = on := by rw [e23]; exact (fz_up_s (by decide)).trans k18
  have k25 : H20 33 4 = hr := by rw [e23]; exact (fz_up_s (by decide)).trans k19
  have k26 : H20 33 5 = 0 := by rw [e23]; exact fz_up_e
  clear e23
  refine fz_aload_n kX6_seek rfl rfl ?_
  refine fz_iconst ⟨by decide, by decide⟩ kX6_seek rfl ?_
  refine fz_putI kX6_seek rfl rfl rfl ?_
  refine fz_nmu (S := [(18, 99999), (19, 99999), (29, 99999), (33, 3), (33, 4), (33, 5), (33, 6), (33, 7), (34, 99999)]) (h0 := h) (fz_Iv_up hI21 (by decide) (show (0 : Int) ≤ 0 by decide) (show (0 : Int) ≤ 4 by decide)) (fz_fr_up hf22 rfl) (fun H27 hI28 hf29 e30 => ?_)
  have k31 : H27 33 3 = on := by rw [e30]; exact (fz_up_s (by decide)).trans k24
  have k32 : H27 33 4 = hr := by rw [e30]; exact (fz_up_s (by decide)).trans k25
  have k33 : H27 33 5 = 0 := by rw [e30]; exact (fz_up_s (by decide)).trans k26
  have k34 : H27 33 6 = 0 := by rw [e30]; exact fz_up_e
  clear e30
  refine fz_aload_n kX6_seek rfl rfl ?_
  refine fz_iconst ⟨by decide, by decide⟩ kX6_seek rfl ?_
  refine fz_putI kX6_seek rfl rfl rfl ?_
  refine fz_nmu (S := [(18, 99999), (19, 99999), (29, 99999), (33, 3), (33, 4), (33, 5), (33, 6), (33, 7), (34, 99999)]) (h0 := h) (fz_Iv_up hI28 (by decide) (show ((-2147483648) : Int) ≤ 0 by decide) (show (0 : Int) ≤ 2147483647 by decide)) (fz_fr_up hf29 rfl) (fun H35 hI36 hf37 e38 => ?_)
  have k39 : H35 33 3 = on := by rw [e38]; exact (fz_up_s (by decide)).trans k31
  have k40 : H35 33 4 = hr := by rw [e38]; exact (fz_up_s (by decide)).trans k32
  have k41 : H35 33 5 = 0 := by rw [e38]; exact (fz_up_s (by decide)).trans k33
  have k42 : H35 33 6 = 0 := by rw [e38]; exact (fz_up_s (by decide)).trans k34
  have k43 : H35 33 7 = 0 := by rw [e38]; exact fz_up_e
  clear e38
  refine fz_aload_n kX6_seek rfl rfl ?_
  refine fz_iload_n kX6_seek rfl rfl ?_
  refine fz_iconst ⟨by decide, by decide⟩ kX6_seek rfl ?_
  refine fz_iconst ⟨by decide, by decide⟩ kX6_seek rfl ?_
  refine fz_iconst ⟨by decide, by decide⟩ kX6_seek rfl ?_
  refine fz_iconst ⟨by decide, by decide⟩ kX6_seek rfl ?_
  refine fz_callV (d' := 8) (M' := mX6_explore) (As := [fz_i fr, fz_i 0, fz_i 0, fz_i 0, fz_i 0]) (st := []) kX6_seek rfl rfl vX6_explore rfl rfl rfl rfl (Nat.le_of_ble_eq_true rfl) (Nat.le_of_ble_eq_true rfl) (by decide) (sX6_explore_0 H35 hI36 fr 0 0 0 (by omega) (by omega)) (fun H44 r45 q46 o47 => ?_)
  obtain ⟨hI48, hf49, rfl⟩ := q46
  clear o47
  have hf50 := fz_fr_tr hf37 hf49 (show fz_su [(18, 99999), (19, 99999), (29, 99999), (33, 5), (33, 6), (33, 7), (34, 99999)] [(18, 99999), (19, 99999), (29, 99999), (33, 3), (33, 4), (33, 5), (33, 6), (33, 7), (34, 99999)] = true from rfl)
  have k51 : H44 33 3 = on := (hf49 33 3 rfl).trans k39
  have k52 : H44 33 4 = hr := (hf49 33 4 rfl).trans k40
  exact fz_vret kX6_seek rfl rfl ⟨hI48, hf50, rfl⟩
