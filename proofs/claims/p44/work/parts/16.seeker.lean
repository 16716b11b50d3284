/-! ===== what the methods keep ===== -/
abbrev qX6_townAt (h : fz_H) (k : Int) : fz_H → Option fz_V → Prop := fun h' r0 => h' = h ∧ ∃ r : Int, r0 = some (fz_i r) ∧ ((-2147483648) ≤ r ∧ r ≤ 2147483647)
set_option maxHeartbeats 1000000 in
set_option maxRecDepth 100000 in
theorem sX6_townAt (h : fz_H) (hI : fz_Iv h) (k : Int) : fz_R 0 mX6_townAt 0 [(0, fz_r 33), (1, fz_i k)] [] h (qX6_townAt h k) := by
  refine fz_knowl (fun hk => ?_)
  have hr_k : -2147483648 ≤ k ∧ k < 2147483648 := hk _ (List.Mem.tail _ (List.Mem.head _))
  clear hk
  refine fz_iload_n kX6_townAt rfl rfl ?_
  refine fz_if_lt (tgt := 12) kX6_townAt rfl (by decide) (fun c1 => ?_) (fun c1 => ?_)
  · refine fz_bipush ⟨by decide, by decide⟩ kX6_townAt rfl ?_
    refine fz_goto (tgt := 35) kX6_townAt rfl (by decide) ?_
    exact fz_iret kX6_townAt rfl rfl (fun _ => ⟨rfl, _, rfl, (by omega)⟩)
  · refine fz_iload_n kX6_townAt rfl rfl ?_
    refine fz_aload_n kX6_townAt rfl rfl ?_
    refine fz_getV (v := h 33 6) kX6_townAt rfl rfl rfl ?_
    have b2 : 0 ≤ h 33 6 ∧ h 33 6 ≤ 4 := hI.1 33 _
    refine fz_icmp_lt (tgt := 17) kX6_townAt rfl (by decide) (fun c3 => ?_) (fun c3 => ?_)
    · refine fz_aload_n kX6_townAt rfl rfl ?_
      refine fz_getV (v := h 33 7) kX6_townAt rfl rfl rfl ?_
      have b4 : (-2147483648) ≤ h 33 7 ∧ h 33 7 ≤ 2147483647 := hI.1 33 _
      refine fz_iconst ⟨by decide, by decide⟩ kX6_townAt rfl ?_
      refine fz_aload_n kX6_townAt rfl rfl ?_
      refine fz_getV (v := h 33 6) kX6_townAt rfl rfl rfl ?_
      refine fz_iconst ⟨by decide, by decide⟩ kX6_townAt rfl ?_
      refine fz_isubN kX6_townAt rfl (by omega) ?_
      refine fz_iload_n kX6_townAt rfl rfl ?_
      refine fz_isubN kX6_townAt rfl (by omega) ?_
      refine fz_imulN kX6_townAt rfl (by omega) ?_
      refine fz_ishr kX6_townAt rfl ?_
      have b5 : -2147483648 ≤ (fz_shr (h 33 7) (3 * (((h 33 6) - 1) - k))) ∧ (fz_shr (h 33 7) (3 * (((h 33 6) - 1) - k))) < 2147483648 := fz_b32 _
      refine fz_bipush ⟨by decide, by decide⟩ kX6_townAt rfl ?_
      refine fz_iand kX6_townAt rfl ?_
      have b6 : -2147483648 ≤ (fz_and (fz_shr (h 33 7) (3 * (((h 33 6) - 1) - k))) 7) ∧ (fz_and (fz_shr (h 33 7) (3 * (((h 33 6) - 1) - k))) 7) < 2147483648 := fz_b32 _
      exact fz_iret kX6_townAt rfl rfl (fun _ => ⟨rfl, _, rfl, (by omega)⟩)
    · refine fz_bipush ⟨by decide, by decide⟩ kX6_townAt rfl ?_
      refine fz_goto (tgt := 35) kX6_townAt rfl (by decide) ?_
      exact fz_iret kX6_townAt rfl rfl (fun _ => ⟨rfl, _, rfl, (by omega)⟩)

abbrev qX6_compare (h : fz_H) (ro su rt : Int) : fz_H → Option fz_V → Prop := fun h' r0 => fz_Iv h' ∧ fz_fr [(33, 5), (33, 6), (33, 7)] h h' ∧ r0 = none
set_option maxHeartbeats 1000000 in
set_option maxRecDepth 100000 in
theorem sX6_compare (h : fz_H) (hI : fz_Iv h) (ro su rt : Int) (hp0 : 0 ≤ ro ∧ ro ≤ 4) : fz_R 0 mX6_compare 0 [(0, fz_r 33), (1, fz_i ro), (2, fz_i su), (3, fz_i rt)] [] h (qX6_compare h ro su rt) := by
  refine fz_knowl (fun hk => ?_)
  have hr_ro : -2147483648 ≤ ro ∧ ro < 2147483648 := hk _ (List.Mem.tail _ (List.Mem.head _))
  have hr_su : -2147483648 ≤ su ∧ su < 2147483648 := hk _ (List.Mem.tail _ (List.Mem.tail _ (List.Mem.head _)))
  have hr_rt : -2147483648 ≤ rt ∧ rt < 2147483648 := hk _ (List.Mem.tail _ (List.Mem.tail _ (List.Mem.tail _ (List.Mem.head _))))
  clear hk
  have hf : fz_fr [(33, 5), (33, 6), (33, 7)] h h := fz_fr_rf
  refine fz_iload_n kX6_compare rfl rfl ?_
  refine fz_aload_n kX6_compare rfl rfl ?_
  refine fz_getV (v := h 33 5) kX6_compare rfl rfl rfl ?_
  have b1 : (-2147483648) ≤ h 33 5 ∧ h 33 5 ≤ 2147483647 := hI.1 33 _
  refine fz_icmp_gt (tgt := 40) kX6_compare rfl (by decide) (fun c2 => ?_) (fun c2 => ?_)
  · refine fz_iconst ⟨by decide, by decide⟩ kX6_compare rfl ?_
    refine fz_goto (tgt := 45) kX6_compare rfl (by decide) ?_
    refine fz_istore (ls' := [(4, fz_i 1), (0, fz_r 33), (1, fz_i ro), (2, fz_i su), (3, fz_i rt)]) kX6_compare rfl (by decide) rfl ?_
    refine fz_iload kX6_compare rfl rfl ?_
    refine fz_if_eq (tgt := 67) kX6_compare rfl (by decide) (fun c3 => ?_) (fun c3 => ?_)
    · exfalso; omega
    · refine fz_aload_n kX6_compare rfl rfl ?_
      refine fz_iload_n kX6_compare rfl rfl ?_
      refine fz_putI kX6_compare rfl rfl rfl ?_
      refine fz_nmu (S := [(33, 5), (33, 6), (33, 7)]) (h0 := h) (fz_Iv_up hI (by decide) (show ((-2147483648) : Int) ≤ su by omega) (show (su : Int) ≤ 2147483647 by omega)) (fz_fr_up hf rfl) (fun H4 hI5 hf6 e7 => ?_)
      have k8 : H4 33 5 = su := by rw [e7]; exact fz_up_e
      clear e7
      refine fz_aload_n kX6_compare rfl rfl ?_
      refine fz_iload_n kX6_compare rfl rfl ?_
      refine fz_putI kX6_compare rfl rfl rfl ?_
      refine fz_nmu (S := [(33, 5), (33, 6), (33, 7)]) (h0 := h) (fz_Iv_up hI5 (by decide) (show (0 : Int) ≤ ro by omega) (show (ro : Int) ≤ 4 by omega)) (fz_fr_up hf6 rfl) (fun H9 hI10 hf11 e12 => ?_)
      have k13 : H9 33 5 = su := by rw [e12]; exact (fz_up_s (by decide)).trans k8
      have k14 : H9 33 6 = ro := by rw [e12]; exact fz_up_e
      clear e12
      refine fz_aload_n kX6_compare rfl rfl ?_
      refine fz_iload_n kX6_compare rfl rfl ?_
      refine fz_putI kX6_compare rfl rfl rfl ?_
      refine fz_nmu (S := [(33, 5), (33, 6), (33, 7)]) (h0 := h) (fz_Iv_up hI10 (by decide) (show ((-2147483648) : Int) ≤ rt by omega) (show (rt : Int) ≤ 2147483647 by omega)) (fz_fr_up hf11 rfl) (fun H15 hI16 hf17 e18 => ?_)
      have k19 : H15 33 5 = su := by rw [e18]; exact (fz_up_s (by decide)).trans k13
      have k20 : H15 33 6 = ro := by rw [e18]; exact (fz_up_s (by decide)).trans k14
      have k21 : H15 33 7 = rt := by rw [e18]; exact fz_up_e
      clear e18
      exact fz_vret kX6_compare rfl rfl ⟨hI16, hf17, rfl⟩
  · refine fz_iload_n kX6_compare rfl rfl ?_
    refine fz_aload_n kX6_compare rfl rfl ?_
    refine fz_getV (v := h 33 5) kX6_compare rfl rfl rfl ?_
    refine fz_icmp_ne (tgt := 44) kX6_compare rfl (by decide) (fun c22 => ?_) (fun c22 => ?_)
    · refine fz_iconst ⟨by decide, by decide⟩ kX6_compare rfl ?_
      refine fz_istore (ls' := [(4, fz_i 0), (0, fz_r 33), (1, fz_i ro), (2, fz_i su), (3, fz_i rt)]) kX6_compare rfl (by decide) rfl ?_
      refine fz_iload kX6_compare rfl rfl ?_
      refine fz_if_eq (tgt := 67) kX6_compare rfl (by decide) (fun c23 => ?_) (fun c23 => ?_)
      · exact fz_vret kX6_compare rfl rfl ⟨hI, hf, rfl⟩
      · exfalso; omega
    · refine fz_iload_n kX6_compare rfl rfl ?_
      refine fz_aload_n kX6_compare rfl rfl ?_
      refine fz_getV (v := h 33 6) kX6_compare rfl rfl rfl ?_
      have b24 : 0 ≤ h 33 6 ∧ h 33 6 ≤ 4 := hI.1 33 _
      refine fz_icmp_lt (tgt := 40) kX6_compare rfl (by decide) (fun c25 => ?_) (fun c25 => ?_)
      · refine fz_iconst ⟨by decide, by decide⟩ kX6_compare rfl ?_
        refine fz_goto (tgt := 45) kX6_compare rfl (by decide) ?_
        refine fz_istore (ls' := [(4, fz_i 1), (0, fz_r 33), (1, fz_i ro), (2, fz_i su), (3, fz_i rt)]) kX6_compare rfl (by decide) rfl ?_
        refine fz_iload kX6_compare rfl rfl ?_
        refine fz_if_eq (tgt := 67) kX6_compare rfl (by decide) (fun c26 => ?_) (fun c26 => ?_)
        · exfalso; omega
        · refine fz_aload_n kX6_compare rfl rfl ?_
          refine fz_iload_n kX6_compare rfl rfl ?_
          refine fz_putI kX6_compare rfl rfl rfl ?_
          refine fz_nmu (S := [(33, 5), (33, 6), (33, 7)]) (h0 := h) (fz_Iv_up hI (by decide) (show ((-2147483648) : Int) ≤ su by omega) (show (su : Int) ≤ 2147483647 by omega)) (fz_fr_up hf rfl) (fun H27 hI28 hf29 e30 => ?_)
          have k31 : H27 33 6 = (h 33 6) := by rw [e30]; exact (fz_up_s (by decide)).trans rfl
          have k32 : H27 33 5 = su := by rw [e30]; exact fz_up_e
          clear e30
          refine fz_aload_n kX6_compare rfl rfl ?_
          refine fz_iload_n kX6_compare rfl rfl ?_
          refine fz_putI kX6_compare rfl rfl rfl ?_
          refine fz_nmu (S := [(33, 5), (33, 6), (33, 7)]) (h0 := h) (fz_Iv_up hI28 (by decide) (show (0 : Int) ≤ ro by omega) (show (ro : Int) ≤ 4 by omega)) (fz_fr_up hf29 rfl) (fun H33 hI34 hf35 e36 => ?_)
          have k37 : H33 33 5 = su := by rw [e36]; exact (fz_up_s (by decide)).trans k32
          have k38 : H33 33 6 = ro := by rw [e36]; exact fz_up_e
          clear e36
          refine fz_aload_n kX6_compare rfl rfl ?_
          refine fz_iload_n kX6_compare rfl rfl ?_
          refine fz_putI kX6_compare rfl rfl rfl ?_
          refine fz_nmu (S := [(33, 5), (33, 6), (33, 7)]) (h0 := h) (fz_Iv_up hI34 (by decide) (show ((-2147483648) : Int) ≤ rt by omega) (show (rt : Int) ≤ 2147483647 by omega)) (fz_fr_up hf35 rfl) (fun H39 hI40 hf41 e42 => ?_)
          have k43 : H39 33 5 = su := by rw [e42]; exact (fz_up_s (by decide)).trans k37
          have k44 : H39 33 6 = ro := by rw [e42]; exact (fz_up_s (by decide)).trans k38
          have k45 : H39 33 7 = rt := by rw [e42]; exact fz_up_e
          clear e42
          exact fz_vret kX6_compare rfl rfl ⟨hI40, hf41, rfl⟩
      · refine fz_iload_n kX6_compare rfl rfl ?_
        refine fz_aload_n kX6_compare rfl rfl ?_
        refine fz_getV (v := h 33 6) kX6_compare rfl rfl rfl ?_
        refine fz_icmp_ne (tgt := 44) kX6_compare rfl (by decide) (fun c46 => ?_) (fun c46 => ?_)
        · refine fz_iconst ⟨by decide, by decide⟩ kX6_compare rfl ?_
          refine fz_istore (ls' := [(4, fz_i 0), (0, fz_r 33), (1, fz_i ro), (2, fz_i su), (3, fz_i rt)]) kX6_compare rfl (by decide) rfl ?_
          refine fz_iload kX6_compare rfl rfl ?_
          refine fz_if_eq (tgt := 67) kX6_compare rfl (by decide) (fun c47 => ?_) (fun c47 => ?_)
          · exact fz_vret kX6_compare rfl rfl ⟨hI, hf, rfl⟩
          · exfalso; omega
        · refine fz_iload_n kX6_compare rfl rfl ?_
          refine fz_aload_n kX6_compare rfl rfl ?_
          refine fz_getV (v := h 33 7) kX6_compare rfl rfl rfl ?_
          have b48 : (-2147483648) ≤ h 33 7 ∧ h 33 7 ≤ 2147483647 := hI.1 33 _
          refine fz_icmp_ge (tgt := 44) kX6_compare rfl (by decide) (fun c49 => ?_) (fun c49 => ?_)
          · refine fz_iconst ⟨by decide, by decide⟩ kX6_compare rfl ?_
            refine fz_istore (ls' := [(4, fz_i 0), (0, fz_r 33), (1, fz_i ro), (2, fz_i su), (3, fz_i rt)]) kX6_compare rfl (by decide) rfl ?_
            refine fz_iload kX6_compare rfl rfl ?_
            refine fz_if_eq (tgt := 67) kX6_compare rfl (by decide) (fun c50 => ?_) (fun c50 => ?_)
            · exact fz_vret kX6_compare rfl rfl ⟨hI, hf, rfl⟩
            · exfalso; omega
          · refine fz_iconst ⟨by decide, by decide⟩ kX6_compare rfl ?_
            refine fz_goto (tgt := 45) kX6_compare rfl (by decide) ?_
            refine fz_istore (ls' := [(4, fz_i 1), (0, fz_r 33), (1, fz_i ro), (2, fz_i su), (3, fz_i rt)]) kX6_compare rfl (by decide) rfl ?_
            refine fz_iload kX6_compare rfl rfl ?_
            refine fz_if_eq (tgt := 67) kX6_compare rfl (by decide) (fun c51 => ?_) (fun c51 => ?_)
            · exfalso; omega
            · refine fz_aload_n kX6_compare rfl rfl ?_
              refine fz_iload_n kX6_compare rfl rfl ?_
              refine fz_putI kX6_compare rfl rfl rfl ?_
              refine fz_nmu (S := [(33, 5), (33, 6), (33, 7)]) (h0 := h) (fz_Iv_up hI (by decide) (show ((-2147483648) : Int) ≤ su by omega) (show (su : Int) ≤ 2147483647 by omega)) (fz_fr_up hf rfl) (fun H52 hI53 hf54 e55 => ?_)
              have k56 : H52 33 6 = (h 33 6) := by rw [e55]; exact (fz_up_s (by decide)).trans rfl
              have k57 : H52 33 7 = (h 33 7) := by rw [e55]; exact (fz_up_s (by decide)).trans rfl
              have k58 : H52 33 5 = su := by rw [e55]; exact fz_up_e
              clear e55
              refine fz_aload_n kX6_compare rfl rfl ?_
              refine fz_iload_n kX6_compare rfl rfl ?_
              refine fz_putI kX6_compare rfl rfl rfl ?_
              refine fz_nmu (S := [(33, 5), (33, 6), (33, 7)]) (h0 := h) (fz_Iv_up hI53 (by decide) (show (0 : Int) ≤ ro by omega) (show (ro : Int) ≤ 4 by omega)) (fz_fr_up hf54 rfl) (fun H59 hI60 hf61 e62 => ?_)
              have k63 : H59 33 7 = (h 33 7) := by rw [e62]; exact (fz_up_s (by decide)).trans k57
              have k64 : H59 33 5 = su := by rw [e62]; exact (fz_up_s (by decide)).trans k58
              have k65 : H59 33 6 = ro := by rw [e62]; exact fz_up_e
              clear e62
              refine fz_aload_n kX6_compare rfl rfl ?_
              refine fz_iload_n kX6_compare rfl rfl ?_
              refine fz_putI kX6_compare rfl rfl rfl ?_
              refine fz_nmu (S := [(33, 5), (33, 6), (33, 7)]) (h0 := h) (fz_Iv_up hI60 (by decide) (show ((-2147483648) : Int) ≤ rt by omega) (show (rt : Int) ≤ 2147483647 by omega)) (fz_fr_up hf61 rfl) (fun H66 hI67 hf68 e69 => ?_)
              have k70 : H66 33 5 = su := by rw [e69]; exact (fz_up_s (by decide)).trans k64
              have k71 : H66 33 6 = ro := by rw [e69]; exact (fz_up_s (by decide)).trans k65
              have k72 : H66 33 7 = rt := by rw [e69]; exact fz_up_e
              clear e69
              exact fz_vret kX6_compare rfl rfl ⟨hI67, hf68, rfl⟩

abbrev qX6_explore_4 (h : fz_H) (fr hr su rt : Int) : fz_H → Option fz_V → Prop := fun h' r0 => fz_Iv h' ∧ fz_fr [(18, 99999), (19, 99999), (29, 99999), (33, 5), (33, 6), (33, 7), (34, 99999)] h h' ∧ r0 = none
set_option maxHeartbeats 1000000 in
set_option maxRecDepth 100000 in
theorem sX6_explore_4 (h : fz_H) (hI : fz_Iv h) (fr hr su rt : Int) (hp0 : 0 ≤ fr ∧ fr < 8) (hp1 : 0 ≤ hr ∧ hr ≤ 96) : fz_R 1 mX6_explore 0 [(0, fz_r 33), (1, fz_i fr), (2, fz_i hr), (3, fz_i 4), (4, fz_i su), (5, fz_i rt)] [] h (qX6_explore_4 h fr hr su rt) := by
  refine fz_knowl (fun hk => ?_)
  have hr_fr : -2147483648 ≤ fr ∧ fr < 2147483648 := hk _ (List.Mem.tail _ (List.Mem.head _))
  have hr_hr : -2147483648 ≤ hr ∧ hr < 2147483648 := hk _ (List.Mem.tail _ (List.Mem.tail _ (List.Mem.head _)))
  have hr_su : -2147483648 ≤ su ∧ su < 2147483648 := hk _ (List.Mem.tail _ (List.Mem.tail _ (List.Mem.tail _ (List.Mem.tail _ (List.Mem.head _)))))
  have hr_rt : -2147483648 ≤ rt ∧ rt < 2147483648 := hk _ (List.Mem.tail _ (List.Mem.tail _ (List.Mem.tail _ (List.Mem.tail _ (List.Mem.tail _ (List.Mem.head _))))))
  clear hk
  have hf : fz_fr [(18, 99999), (19, 99999), (29, 99999), (33, 5), (33, 6), (33, 7), (34, 99999)] h h := fz_fr_rf
  refine fz_aload_n kX6_explore rfl rfl ?_
  refine fz_iload_n kX6_explore rfl rfl ?_
  refine fz_iload kX6_explore rfl rfl ?_
  refine fz_iload kX6_explore rfl rfl ?_
  refine fz_callV (d' := 0) (M' := mX6_compare) (As := [fz_i 4, fz_i su, fz_i rt]) (st := []) kX6_explore rfl rfl vX6_compare rfl rfl rfl rfl (Nat.le_of_ble_eq_true rfl) (Nat.le_of_ble_eq_true rfl) (by decide) (sX6_compare h hI 4 su rt (by omega)) (fun H1 r2 q3 o4 => ?_)
  obtain ⟨hI5, hf6, rfl⟩ := q3
  clear o4
  have hf7 := fz_fr_tr hf hf6 (show fz_su [(33, 5), (33, 6), (33, 7)] [(18, 99999), (19, 99999), (29, 99999), (33, 5), (33, 6), (33, 7), (34, 99999)] = true from rfl)
  refine fz_iload_n kX6_explore rfl rfl ?_
  refine fz_iconst ⟨by decide, by decide⟩ kX6_explore rfl ?_
  refine fz_icmp_lt (tgt := 15) kX6_explore rfl (by decide) (fun c8 => ?_) (fun c8 => ?_)
  · exfalso; omega
  · exact fz_vret kX6_explore rfl rfl ⟨hI5, hf7, rfl⟩

abbrev qX6_explore_3 (h : fz_H) (fr hr su rt : Int) : fz_H → Option fz_V → Prop := fun h' r0 => fz_Iv h' ∧ fz_fr [(18, 99999), (19, 99999), (29, 99999), (33, 5), (33, 6), (33, 7), (34, 99999)] h h' ∧ r0 = none
set_option maxHeartbeats 1000000 in
set_option maxRecDepth 100000 in
theorem sX6_explore_3 (h : fz_H) (hI : fz_Iv h) (fr hr su rt : Int) (hp0 : 0 ≤ fr ∧ fr < 8) (hp1 : 0 ≤ hr ∧ hr ≤ 96) : fz_R 5 mX6_explore 0 [(0, fz_r 33), (1, fz_i fr), (2, fz_i hr), (3, fz_i 3), (4, fz_i su), (5, fz_i rt)] [] h (qX6_explore_3 h fr hr su rt) := by
  refine fz_knowl (fun hk => ?_)
  have hr_fr : -2147483648 ≤ fr ∧ fr < 2147483648 := hk _ (List.Mem.tail _ (List.Mem.head _))
  have hr_hr : -2147483648 ≤ hr ∧ hr < 2147483648 := hk _ (List.Mem.tail _ (List.Mem.tail _ (List.Mem.head _)))
  have hr_su : -2147483648 ≤ su ∧ su < 2147483648 := hk _ (List.Mem.tail _ (List.Mem.tail _ (List.Mem.tail _ (List.Mem.tail _ (List.Mem.head _)))))
  have hr_rt : -2147483648 ≤ rt ∧ rt < 2147483648 := hk _ (List.Mem.tail _ (List.Mem.tail _ (List.Mem.tail _ (List.Mem.tail _ (List.Mem.tail _ (List.Mem.head _))))))
  clear hk
  have hf : fz_fr [(18, 99999), (19, 99999), (29, 99999), (33, 5), (33, 6), (33, 7), (34, 99999)] h h := fz_fr_rf
  refine fz_aload_n kX6_explore rfl rfl ?_
  refine fz_iload_n kX6_explore rfl rfl ?_
  refine fz_iload kX6_explore rfl rfl ?_
  refine fz_iload kX6_explore rfl rfl ?_
  refine fz_callV (d' := 0) (M' := mX6_compare) (As := [fz_i 3, fz_i su, fz_i rt]) (st := []) kX6_explore rfl rfl vX6_compare rfl rfl rfl rfl (Nat.le_of_ble_eq_true rfl) (Nat.le_of_ble_eq_true rfl) (by decide) (sX6_compare h hI 3 su rt (by omega)) (fun H1 r2 q3 o4 => ?_)
  obtain ⟨hI5, hf6, rfl⟩ := q3
  clear o4
  have hf7 := fz_fr_tr hf hf6 (show fz_su [(33, 5), (33, 6), (33, 7)] [(18, 99999), (19, 99999), (29, 99999), (33, 5), (33, 6), (33, 7), (34, 99999)] = true from rfl)
  refine fz_iload_n kX6_explore rfl rfl ?_
  refine fz_iconst ⟨by decide, by decide⟩ kX6_explore rfl ?_
  refine fz_icmp_lt (tgt := 15) kX6_explore rfl (by decide) (fun c8 => ?_) (fun c8 => ?_)
  · refine fz_iconst ⟨by decide, by decide⟩ kX6_explore rfl ?_
    refine fz_istore (ls' := [(6, fz_i 0), (0, fz_r 33), (1, fz_i fr), (2, fz_i hr), (3, fz_i 3), (4, fz_i su), (5, fz_i rt)]) kX6_explore rfl (by decide) rfl ?_
    have lp14 : ∀ (n13 : Nat) (x9 : Int) (H10 : fz_H), fz_Iv H10 → fz_fr [(18, 99999), (19, 99999), (29, 99999), (33, 5), (33, 6), (33, 7), (34, 99999)] h H10 → (0 ≤ x9 ∧ x9 ≤ 2147483647) → ((h 1 8) - x9).toNat < n13 → fz_R 5 mX6_explore 18 [(6, fz_i x9), (0, fz_r 33), (1, fz_i fr), (2, fz_i hr), (3, fz_i 3), (4, fz_i su), (5, fz_i rt)] [] H10 (qX6_explore_3 h fr hr su rt) := by
      intro n13
      induction n13 with
      | zero => intro x9 H10 hI11 hf12 hv17 hm16; exact absurd hm16 (by omega)
      | succ n13 ih15 =>
        intro x9 H10 hI11 hf12 hv17 hm16
        refine fz_iload kX6_explore rfl rfl ?_
        refine fz_aload_n kX6_explore rfl rfl ?_
        refine fz_getR (t := 1) kX6_explore rfl rfl ?_
        refine fz_getV (v := h 1 8) kX6_explore rfl rfl (hf12 1 8 rfl) ?_
        have b18 : 0 ≤ h 1 8 ∧ h 1 8 ≤ 12 := hI.1 1 _
        refine fz_icmp_ge (tgt := 206) kX6_explore rfl (by decide) (fun c19 => ?_) (fun c19 => ?_)
        · exact fz_vret kX6_explore rfl rfl ⟨hI11, hf12, rfl⟩
        · refine fz_aload_n kX6_explore rfl rfl ?_
          refine fz_getR (t := 1) kX6_explore rfl rfl ?_
          refine fz_iload kX6_explore rfl rfl ?_
          refine fz_iload_n kX6_explore rfl rfl ?_
          refine fz_callV (d' := 0) (M' := mX2_acrossFrom) (As := [fz_i x9, fz_i fr]) (st := []) kX6_explore rfl rfl vX2_acrossFrom rfl rfl rfl rfl (Nat.le_of_ble_eq_true rfl) (Nat.le_of_ble_eq_true rfl) (by decide) (sX2_acrossFrom H10 hI11 x9 fr (by omega)) (fun H20 r21 q22 o23 => ?_)
          obtain ⟨e24, y28, rfl, f25, f26, f27⟩ := q22
          subst H20
          clear o23
          refine fz_istore (ls' := [(7, fz_i y28), (6, fz_i x9), (0, fz_r 33), (1, fz_i fr), (2, fz_i hr), (3, fz_i 3), (4, fz_i su), (5, fz_i rt)]) kX6_explore rfl (by decide) rfl ?_
          refine fz_iload_n kX6_explore rfl rfl ?_
          refine fz_aload_n kX6_explore rfl rfl ?_
          refine fz_getR (t := 1) kX6_explore rfl rfl ?_
          refine fz_getR (t := 3) kX6_explore rfl rfl ?_
          refine fz_iload kX6_explore rfl rfl ?_
          refine fz_ialdV (n := 12) (v := h 3 (x9.toNat)) kX6_explore rfl rfl (by omega) (by omega) (hf12 3 _ rfl) ?_
          have b29 : 0 ≤ h 3 (x9.toNat) ∧ h 3 (x9.toNat) ≤ 24 := hI.1 3 _
          refine fz_iaddN kX6_explore rfl (by omega) ?_
          refine fz_istore (ls' := [(8, fz_i (hr + (h 3 (x9.toNat)))), (7, fz_i y28), (6, fz_i x9), (0, fz_r 33), (1, fz_i fr), (2, fz_i hr), (3, fz_i 3), (4, fz_i su), (5, fz_i rt)]) kX6_explore rfl (by decide) rfl ?_
          refine fz_iload kX6_explore rfl rfl ?_
          refine fz_if_lt (tgt := 200) kX6_explore rfl (by decide) (fun c30 => ?_) (fun c30 => ?_)
          · refine fz_iincN (ls' := [(6, fz_i (x9 + 1)), (8, fz_i (hr + (h 3 (x9.toNat)))), (7, fz_i y28), (0, fz_r 33), (1, fz_i fr), (2, fz_i hr), (3, fz_i 3), (4, fz_i su), (5, fz_i rt)]) kX6_explore rfl (by decide) rfl (by omega) rfl ?_
            refine fz_goto (tgt := 18) kX6_explore rfl (by decide) ?_
            refine fz_sub (fz_pk_sub (ls' := [(6, fz_i (x9 + 1)), (0, fz_r 33), (1, fz_i fr), (2, fz_i hr), (3, fz_i 3), (4, fz_i su), (5, fz_i rt)]) [0, 3, 4, 5, 6, 7, 8] rfl) ?_
            exact ih15 (x9 + 1) H10 hI11 hf12 (by omega) (by omega)
          · refine fz_iload kX6_explore rfl rfl ?_
            refine fz_bipush ⟨by decide, by decide⟩ kX6_explore rfl ?_
            refine fz_icmp_ge (tgt := 200) kX6_explore rfl (by decide) (fun c31 => ?_) (fun c31 => ?_)
            · refine fz_iincN (ls' := [(6, fz_i (x9 + 1)), (8, fz_i (hr + (h 3 (x9.toNat)))), (7, fz_i y28), (0, fz_r 33), (1, fz_i fr), (2, fz_i hr), (3, fz_i 3), (4, fz_i su), (5, fz_i rt)]) kX6_explore rfl (by decide) rfl (by omega) rfl ?_
              refine fz_goto (tgt := 18) kX6_explore rfl (by decide) ?_
              refine fz_sub (fz_pk_sub (ls' := [(6, fz_i (x9 + 1)), (0, fz_r 33), (1, fz_i fr), (2, fz_i hr), (3, fz_i 3), (4, fz_i su), (5, fz_i rt)]) [0, 3, 4, 5, 6, 7, 8] rfl) ?_
              exact ih15 (x9 + 1) H10 hI11 hf12 (by omega) (by omega)
            · refine fz_aload_n kX6_explore rfl rfl ?_
              refine fz_getV (v := h 33 4) kX6_explore rfl rfl (hf12 33 4 rfl) ?_
              have b32 : 0 ≤ h 33 4 ∧ h 33 4 ≤ 999 := hI.1 33 _
              refine fz_iload kX6_explore rfl rfl ?_
              refine fz_iaddN kX6_explore rfl (by omega) ?_
              refine fz_sipush ⟨by decide, by decide⟩ kX6_explore rfl ?_
              refine fz_icmp_le (tgt := 84) kX6_explore rfl (by decide) (fun c33 => ?_) (fun c33 => ?_)
              · refine fz_iload kX6_explore rfl rfl ?_
                refine fz_bipush ⟨by decide, by decide⟩ kX6_explore rfl ?_
                refine fz_imulN kX6_explore rfl (by omega) ?_
                refine fz_iload kX6_explore rfl rfl ?_
                refine fz_iaddN kX6_explore rfl (by omega) ?_
                refine fz_istore (ls' := [(9, fz_i ((y28 * 97) + (hr + (h 3 (x9.toNat))))), (8, fz_i (hr + (h 3 (x9.toNat)))), (7, fz_i y28), (6, fz_i x9), (0, fz_r 33), (1, fz_i fr), (2, fz_i hr), (3, fz_i 3), (4, fz_i su), (5, fz_i rt)]) kX6_explore rfl (by decide) rfl ?_
                refine fz_aload_n kX6_explore rfl rfl ?_
                refine fz_getR (t := 34) kX6_explore rfl rfl ?_
                refine fz_iload kX6_explore rfl rfl ?_
                obtain ⟨v34, e35⟩ : ∃ z, H10 34 (((y28 * 97) + (hr + (h 3 (x9.toNat)))).toNat) = z := ⟨_, rfl⟩
                refine fz_ialdV (n := 776) (v := v34) kX6_explore rfl rfl (by omega) (by omega) e35 ?_
                have b36 : (-2147483648) ≤ v34 ∧ v34 ≤ 2147483647 := by rw [← e35]; exact hI11.1 34 _
                refine fz_ldc (x := (-2000000000)) kX6_explore rfl rfl rfl ?_
                refine fz_icmp_ne (tgt := 159) kX6_explore rfl (by decide) (fun c37 => ?_) (fun c37 => ?_)
                · refine fz_aload_n kX6_explore rfl rfl ?_
                  refine fz_getR (t := 34) kX6_explore rfl rfl ?_
                  refine fz_iload kX6_explore rfl rfl ?_
                  obtain ⟨v38, e39⟩ : ∃ z, H10 34 (((y28 * 97) + (hr + (h 3 (x9.toNat)))).toNat) = z := ⟨_, rfl⟩
                  refine fz_ialdV (n := 776) (v := v38) kX6_explore rfl rfl (by omega) (by omega) e39 ?_
                  have b40 : (-2147483648) ≤ v38 ∧ v38 ≤ 2147483647 := by rw [← e39]; exact hI11.1 34 _
                  refine fz_ldc (x := (-1999999999)) kX6_explore rfl rfl rfl ?_
                  refine fz_icmp_eq (tgt := 200) kX6_explore rfl (by decide) (fun c41 => ?_) (fun c41 => ?_)
                  · refine fz_iincN (ls' := [(6, fz_i (x9 + 1)), (9, fz_i ((y28 * 97) + (hr + (h 3 (x9.toNat))))), (8, fz_i (hr + (h 3 (x9.toNat)))), (7, fz_i y28), (0, fz_r 33), (1, fz_i fr), (2, fz_i hr), (3, fz_i 3), (4, fz_i su), (5, fz_i rt)]) kX6_explore rfl (by decide) rfl (by omega) rfl ?_
                    refine fz_goto (tgt := 18) kX6_explore rfl (by decide) ?_
                    refine fz_sub (fz_pk_sub (ls' := [(6, fz_i (x9 + 1)), (0, fz_r 33), (1, fz_i fr), (2, fz_i hr), (3, fz_i 3), (4, fz_i su), (5, fz_i rt)]) [0, 4, 5, 6, 7, 8, 9] rfl) ?_
                    exact ih15 (x9 + 1) H10 hI11 hf12 (by omega) (by omega)
                  · refine fz_aload_n kX6_explore rfl rfl ?_
                    refine fz_iload kX6_explore rfl rfl ?_
                    refine fz_iload kX6_explore rfl rfl ?_
                    refine fz_iload_n kX6_explore rfl rfl ?_
                    refine fz_iconst ⟨by decide, by decide⟩ kX6_explore rfl ?_
                    refine fz_iaddN kX6_explore rfl ⟨by decide, by decide⟩ ?_
                    refine fz_eqi (y := 4) rfl ?_
                    refine fz_iload kX6_explore rfl rfl ?_
                    refine fz_aload_n kX6_explore rfl rfl ?_
                    refine fz_getR (t := 34) kX6_explore rfl rfl ?_
                    refine fz_iload kX6_explore rfl rfl ?_
                    obtain ⟨v42, e43⟩ : ∃ z, H10 34 (((y28 * 97) + (hr + (h 3 (x9.toNat)))).toNat) = z := ⟨_, rfl⟩
                    refine fz_ialdV (n := 776) (v := v42) kX6_explore rfl rfl (by omega) (by omega) e43 ?_
                    have b44 : (-2147483648) ≤ v42 ∧ v42 ≤ 2147483647 := by rw [← e43]; exact hI11.1 34 _
                    refine fz_iadd kX6_explore rfl ?_
                    refine fz_nmw (fun z45 e46 => ?_)
                    refine fz_iload kX6_explore rfl rfl ?_
                    refine fz_bipush ⟨by decide, by decide⟩ kX6_explore rfl ?_
                    refine fz_imul kX6_explore rfl ?_
                    refine fz_nmw (fun z47 e48 => ?_)
                    refine fz_iload kX6_explore rfl rfl ?_
                    refine fz_iadd kX6_explore rfl ?_
                    refine fz_nmw (fun z49 e50 => ?_)
                    refine fz_callV (d' := 1) (M' := mX6_explore) (As := [fz_i y28, fz_i (hr + (h 3 (x9.toNat))), fz_i 4, fz_i z45, fz_i z49]) (st := []) kX6_explore rfl rfl vX6_explore rfl rfl rfl rfl (Nat.le_of_ble_eq_true rfl) (Nat.le_of_ble_eq_true rfl) (by decide) (sX6_explore_4 H10 hI11 y28 (hr + (h 3 (x9.toNat))) z45 z49 (by omega) (by omega)) (fun H51 r52 q53 o54 => ?_)
                    obtain ⟨hI55, hf56, rfl⟩ := q53
                    clear o54
                    have hf57 := fz_fr_tr hf12 hf56 (show fz_su [(18, 99999), (19, 99999), (29, 99999), (33, 5), (33, 6), (33, 7), (34, 99999)] [(18, 99999), (19, 99999), (29, 99999), (33, 5), (33, 6), (33, 7), (34, 99999)] = true from rfl)
                    refine fz_iincN (ls' := [(6, fz_i (x9 + 1)), (9, fz_i ((y28 * 97) + (hr + (h 3 (x9.toNat))))), (8, fz_i (hr + (h 3 (x9.toNat)))), (7, fz_i y28), (0, fz_r 33), (1, fz_i fr), (2, fz_i hr), (3, fz_i 3), (4, fz_i su), (5, fz_i rt)]) kX6_explore rfl (by decide) rfl (by omega) rfl ?_
                    refine fz_goto (tgt := 18) kX6_explore rfl (by decide) ?_
                    refine fz_sub (fz_pk_sub (ls' := [(6, fz_i (x9 + 1)), (0, fz_r 33), (1, fz_i fr), (2, fz_i hr), (3, fz_i 3), (4, fz_i su), (5, fz_i rt)]) [0, 4, 5, 6, 7, 8, 9] rfl) ?_
                    exact ih15 (x9 + 1) H51 hI55 hf57 (by omega) (by omega)
                · refine fz_aload_n kX6_explore rfl rfl ?_
                  refine fz_getR (t := 27) kX6_explore rfl rfl ?_
                  refine fz_aload_n kX6_explore rfl rfl ?_
                  refine fz_getV (v := h 33 3) kX6_explore rfl rfl (hf12 33 3 rfl) ?_
                  have b58 : 0 ≤ h 33 3 ∧ h 33 3 ≤ 3 := hI.1 33 _
                  refine fz_aload_n kX6_explore rfl rfl ?_
                  refine fz_getV (v := h 33 3) kX6_explore rfl rfl (hf12 33 3 rfl) ?_
                  refine fz_iload kX6_explore rfl rfl ?_
                  refine fz_aload_n kX6_explore rfl rfl ?_
                  refine fz_getV (v := h 33 4) kX6_explore rfl rfl (hf12 33 4 rfl) ?_
                  refine fz_iload kX6_explore rfl rfl ?_
                  refine fz_iaddN kX6_explore rfl (by omega) ?_
                  refine fz_callV (d' := 4) (M' := mX8_listen) (As := [fz_i (h 33 3), fz_i (h 33 3), fz_i y28, fz_i ((h 33 4) + (hr + (h 3 (x9.toNat))))]) (st := []) kX6_explore rfl rfl vX8_listen rfl rfl rfl rfl (Nat.le_of_ble_eq_true rfl) (Nat.le_of_ble_eq_true rfl) (by decide) (sX8_listen H10 hI11 (h 33 3) (h 33 3) y28 ((h 33 4) + (hr + (h 3 (x9.toNat)))) (by omega)) (fun H59 r60 q61 o62 => ?_)
                  obtain ⟨hI63, hf64, rfl⟩ := q61
                  clear o62
                  have hf65 := fz_fr_tr hf12 hf64 (show fz_su [(18, 99999), (19, 99999), (29, 99999)] [(18, 99999), (19, 99999), (29, 99999), (33, 5), (33, 6), (33, 7), (34, 99999)] = true from rfl)
                  refine fz_aload_n kX6_explore rfl rfl ?_
                  refine fz_getR (t := 34) kX6_explore rfl rfl ?_
                  refine fz_iload kX6_explore rfl rfl ?_
                  refine fz_aload_n kX6_explore rfl rfl ?_
                  refine fz_getR (t := 27) kX6_explore rfl rfl ?_
                  refine fz_callV (d' := 1) (M' := mX8_isArrested) (As := []) (st := [fz_i ((y28 * 97) + (hr + (h 3 (x9.toNat)))), fz_r 34]) kX6_explore rfl rfl vX8_isArrested rfl rfl rfl rfl (Nat.le_of_ble_eq_true rfl) (Nat.le_of_ble_eq_true rfl) (by decide) (sX8_isArrested H59 hI63  ) (fun H66 r67 q68 o69 => ?_)
                  obtain ⟨e70, y71, rfl, p72⟩ := q68
                  subst H66
                  clear o69
                  refine fz_if_eq (tgt := 151) kX6_explore rfl (by decide) (fun c73 => ?_) (fun c73 => ?_)
                  · refine fz_aload_n kX6_explore rfl rfl ?_
                    refine fz_getR (t := 27) kX6_explore rfl rfl ?_
                    refine fz_callV (d' := 0) (M' := mX8_reception) (As := []) (st := [fz_i ((y28 * 97) + (hr + (h 3 (x9.toNat)))), fz_r 34]) kX6_explore rfl rfl vX8_reception rfl rfl rfl rfl (Nat.le_of_ble_eq_true rfl) (Nat.le_of_ble_eq_true rfl) (by decide) (sX8_reception H59 hI63  ) (fun H74 r75 q76 o77 => ?_)
                    obtain ⟨e78, y80, rfl, f79⟩ := q76
                    subst H74
                    clear o77
                    refine fz_iast (n := 776) kX6_explore rfl rfl (by omega) (by omega) ?_
                    refine fz_nmu (S := [(18, 99999), (19, 99999), (29, 99999), (33, 5), (33, 6), (33, 7), (34, 99999)]) (h0 := h) (fz_Iv_up hI63 (by decide) (show ((-2147483648) : Int) ≤ y80 by omega) (show (y80 : Int) ≤ 2147483647 by omega)) (fz_fr_up hf65 rfl) (fun H81 hI82 hf83 e84 => ?_)
                    clear e84
                    refine fz_aload_n kX6_explore rfl rfl ?_
                    refine fz_getR (t := 34) kX6_explore rfl rfl ?_
                    refine fz_iload kX6_explore rfl rfl ?_
                    obtain ⟨v85, e86⟩ : ∃ z, H81 34 (((y28 * 97) + (hr + (h 3 (x9.toNat)))).toNat) = z := ⟨_, rfl⟩
                    refine fz_ialdV (n := 776) (v := v85) kX6_explore rfl rfl (by omega) (by omega) e86 ?_
                    have b87 : (-2147483648) ≤ v85 ∧ v85 ≤ 2147483647 := by rw [← e86]; exact hI82.1 34 _
                    refine fz_ldc (x := (-1999999999)) kX6_explore rfl rfl rfl ?_
                    refine fz_icmp_eq (tgt := 200) kX6_explore rfl (by decide) (fun c88 => ?_) (fun c88 => ?_)
                    · refine fz_iincN (ls' := [(6, fz_i (x9 + 1)), (9, fz_i ((y28 * 97) + (hr + (h 3 (x9.toNat))))), (8, fz_i (hr + (h 3 (x9.toNat)))), (7, fz_i y28), (0, fz_r 33), (1, fz_i fr), (2, fz_i hr), (3, fz_i 3), (4, fz_i su), (5, fz_i rt)]) kX6_explore rfl (by decide) rfl (by omega) rfl ?_
                      refine fz_goto (tgt := 18) kX6_explore rfl (by decide) ?_
                      refine fz_sub (fz_pk_sub (ls' := [(6, fz_i (x9 + 1)), (0, fz_r 33), (1, fz_i fr), (2, fz_i hr), (3, fz_i 3), (4, fz_i su), (5, fz_i rt)]) [0, 4, 5, 6, 7, 8, 9] rfl) ?_
                      exact ih15 (x9 + 1) H81 hI82 hf83 (by omega) (by omega)
                    · refine fz_aload_n kX6_explore rfl rfl ?_
                      refine fz_iload kX6_explore rfl rfl ?_
                      refine fz_iload kX6_explore rfl rfl ?_
                      refine fz_iload_n kX6_explore rfl rfl ?_
                      refine fz_iconst ⟨by decide, by decide⟩ kX6_explore rfl ?_
                      refine fz_iaddN kX6_explore rfl ⟨by decide, by decide⟩ ?_
                      refine fz_eqi (y := 4) rfl ?_
                      refine fz_iload kX6_explore rfl rfl ?_
                      refine fz_aload_n kX6_explore rfl rfl ?_
                      refine fz_getR (t := 34) kX6_explore rfl rfl ?_
                      refine fz_iload kX6_explore rfl rfl ?_
                      obtain ⟨v89, e90⟩ : ∃ z, H81 34 (((y28 * 97) + (hr + (h 3 (x9.toNat)))).toNat) = z := ⟨_, rfl⟩
                      refine fz_ialdV (n := 776) (v := v89) kX6_explore rfl rfl (by omega) (by omega) e90 ?_
                      have b91 : (-2147483648) ≤ v89 ∧ v89 ≤ 2147483647 := by rw [← e90]; exact hI82.1 34 _
                      refine fz_iadd kX6_explore rfl ?_
                      refine fz_nmw (fun z92 e93 => ?_)
                      refine fz_iload kX6_explore rfl rfl ?_
                      refine fz_bipush ⟨by decide, by decide⟩ kX6_explore rfl ?_
                      refine fz_imul kX6_explore rfl ?_
                      refine fz_nmw (fun z94 e95 => ?_)
                      refine fz_iload kX6_explore rfl rfl ?_
                      refine fz_iadd kX6_explore rfl ?_
                      refine fz_nmw (fun z96 e97 => ?_)
                      refine fz_callV (d' := 1) (M' := mX6_explore) (As := [fz_i y28, fz_i (hr + (h 3 (x9.toNat))), fz_i 4, fz_i z92, fz_i z96]) (st := []) kX6_explore rfl rfl vX6_explore rfl rfl rfl rfl (Nat.le_of_ble_eq_true rfl) (Nat.le_of_ble_eq_true rfl) (by decide) (sX6_explore_4 H81 hI82 y28 (hr + (h 3 (x9.toNat))) z92 z96 (by omega) (by omega)) (fun H98 r99 q100 o101 => ?_)
                      obtain ⟨hI102, hf103, rfl⟩ := q100
                      clear o101
                      have hf104 := fz_fr_tr hf83 hf103 (show fz_su [(18, 99999), (19, 99999), (29, 99999), (33, 5), (33, 6), (33, 7), (34, 99999)] [(18, 99999), (19, 99999), (29, 99999), (33, 5), (33, 6), (33, 7), (34, 99999)] = true from rfl)
                      refine fz_iincN (ls' := [(6, fz_i (x9 + 1)), (9, fz_i ((y28 * 97) + (hr + (h 3 (x9.toNat))))), (8, fz_i (hr + (h 3 (x9.toNat)))), (7, fz_i y28), (0, fz_r 33), (1, fz_i fr), (2, fz_i hr), (3, fz_i 3), (4, fz_i su), (5, fz_i rt)]) kX6_explore rfl (by decide) rfl (by omega) rfl ?_
                      refine fz_goto (tgt := 18) kX6_explore rfl (by decide) ?_
                      refine fz_sub (fz_pk_sub (ls' := [(6, fz_i (x9 + 1)), (0, fz_r 33), (1, fz_i fr), (2, fz_i hr), (3, fz_i 3), (4, fz_i su), (5, fz_i rt)]) [0, 4, 5, 6, 7, 8, 9] rfl) ?_
                      exact ih15 (x9 + 1) H98 hI102 hf104 (by omega) (by omega)
                  · refine fz_ldc (x := (-1999999999)) kX6_explore rfl rfl rfl ?_
                    refine fz_goto (tgt := 158) kX6_explore rfl (by decide) ?_
                    refine fz_iast (n := 776) kX6_explore rfl rfl (by omega) (by omega) ?_
                    refine fz_nmu (S := [(18, 99999), (19, 99999), (29, 99999), (33, 5), (33, 6), (33, 7), (34, 99999)]) (h0 := h) (fz_Iv_up hI63 (by decide) (show ((-2147483648) : Int) ≤ (-1999999999) by decide) (show ((-1999999999) : Int) ≤ 2147483647 by decide)) (fz_fr_up hf65 rfl) (fun H105 hI106 hf107 e108 => ?_)
                    clear e108
                    refine fz_aload_n kX6_explore rfl rfl ?_
                    refine fz_getR (t := 34) kX6_explore rfl rfl ?_
                    refine fz_iload kX6_explore rfl rfl ?_
                    obtain ⟨v109, e110⟩ : ∃ z, H105 34 (((y28 * 97) + (hr + (h 3 (x9.toNat)))).toNat) = z := ⟨_, rfl⟩
                    refine fz_ialdV (n := 776) (v := v109) kX6_explore rfl rfl (by omega) (by omega) e110 ?_
                    have b111 : (-2147483648) ≤ v109 ∧ v109 ≤ 2147483647 := by rw [← e110]; exact hI106.1 34 _
                    refine fz_ldc (x := (-1999999999)) kX6_explore rfl rfl rfl ?_
                    refine fz_icmp_eq (tgt := 200) kX6_explore rfl (by decide) (fun c112 => ?_) (fun c112 => ?_)
                    · refine fz_iincN (ls' := [(6, fz_i (x9 + 1)), (9, fz_i ((y28 * 97) + (hr + (h 3 (x9.toNat))))), (8, fz_i (hr + (h 3 (x9.toNat)))), (7, fz_i y28), (0, fz_r 33), (1, fz_i fr), (2, fz_i hr), (3, fz_i 3), (4, fz_i su), (5, fz_i rt)]) kX6_explore rfl (by decide) rfl (by omega) rfl ?_
                      refine fz_goto (tgt := 18) kX6_explore rfl (by decide) ?_
                      refine fz_sub (fz_pk_sub (ls' := [(6, fz_i (x9 + 1)), (0, fz_r 33), (1, fz_i fr), (2, fz_i hr), (3, fz_i 3), (4, fz_i su), (5, fz_i rt)]) [0, 4, 5, 6, 7, 8, 9] rfl) ?_
                      exact ih15 (x9 + 1) H105 hI106 hf107 (by omega) (by omega)
                    · refine fz_aload_n kX6_explore rfl rfl ?_
                      refine fz_iload kX6_explore rfl rfl ?_
                      refine fz_iload kX6_explore rfl rfl ?_
                      refine fz_iload_n kX6_explore rfl rfl ?_
                      refine fz_iconst ⟨by decide, by decide⟩ kX6_explore rfl ?_
                      refine fz_iaddN kX6_explore rfl ⟨by decide, by decide⟩ ?_
                      refine fz_eqi (y := 4) rfl ?_
                      refine fz_iload kX6_explore rfl rfl ?_
                      refine fz_aload_n kX6_explore rfl rfl ?_
                      refine fz_getR (t := 34) kX6_explore rfl rfl ?_
                      refine fz_iload kX6_explore rfl rfl ?_
                      obtain ⟨v113, e114⟩ : ∃ z, H105 34 (((y28 * 97) + (hr + (h 3 (x9.toNat)))).toNat) = z := ⟨_, rfl⟩
                      refine fz_ialdV (n := 776) (v := v113) kX6_explore rfl rfl (by omega) (by omega) e114 ?_
                      have b115 : (-2147483648) ≤ v113 ∧ v113 ≤ 2147483647 := by rw [← e114]; exact hI106.1 34 _
                      refine fz_iadd kX6_explore rfl ?_
                      refine fz_nmw (fun z116 e117 => ?_)
                      refine fz_iload kX6_explore rfl rfl ?_
                      refine fz_bipush ⟨by decide, by decide⟩ kX6_explore rfl ?_
                      refine fz_imul kX6_explore rfl ?_
                      refine fz_nmw (fun z118 e119 => ?_)
                      refine fz_iload kX6_explore rfl rfl ?_
                      refine fz_iadd kX6_explore rfl ?_
                      refine fz_nmw (fun z120 e121 => ?_)
                      refine fz_callV (d' := 1) (M' := mX6_explore) (As := [fz_i y28, fz_i (hr + (h 3 (x9.toNat))), fz_i 4, fz_i z116, fz_i z120]) (st := []) kX6_explore rfl rfl vX6_explore rfl rfl rfl rfl (Nat.le_of_ble_eq_true rfl) (Nat.le_of_ble_eq_true rfl) (by decide) (sX6_explore_4 H105 hI106 y28 (hr + (h 3 (x9.toNat))) z116 z120 (by omega) (by omega)) (fun H122 r123 q124 o125 => ?_)
                      obtain ⟨hI126, hf127, rfl⟩ := q124
                      clear o125
                      have hf128 := fz_fr_tr hf107 hf127 (show fz_su [(18, 99999), (19, 99999), (29, 99999), (33, 5), (33, 6), (33, 7), (34, 99999)] [(18, 99999), (19, 99999), (29, 99999), (33, 5), (33, 6), (33, 7), (34, 99999)] = true from rfl)
                      refine fz_iincN (ls' := [(6, fz_i (x9 + 1)), (9, fz_i ((y28 * 97) + (hr + (h 3 (x9.toNat))))), (8, fz_i (hr + (h 3 (x9.toNat)))), (7, fz_i y28), (0, fz_r 33), (1, fz_i fr), (2, fz_i hr), (3, fz_i 3), (4, fz_i su), (5, fz_i rt)]) kX6_explore rfl (by decide) rfl (by omega) rfl ?_
                      refine fz_goto (tgt := 18) kX6_explore rfl (by decide) ?_
                      refine fz_sub (fz_pk_sub (ls' := [(6, fz_i (x9 + 1)), (0, fz_r 33), (1, fz_i fr), (2, fz_i hr), (3, fz_i 3), (4, fz_i su), (5, fz_i rt)]) [0, 4, 5, 6, 7, 8, 9] rfl) ?_
                      exact ih15 (x9 + 1) H122 hI126 hf128 (by omega) (by omega)
              · refine fz_goto (tgt := 200) kX6_explore rfl (by decide) ?_
                refine fz_iincN (ls' := [(6, fz_i (x9 + 1)), (8, fz_i (hr + (h 3 (x9.toNat)))), (7, fz_i y28), (0, fz_r 33), (1, fz_i fr), (2, fz_i hr), (3, fz_i 3), (4, fz_i su), (5, fz_i rt)]) kX6_explore rfl (by decide) rfl (by omega) rfl ?_
                refine fz_goto (tgt := 18) kX6_explore rfl (by decide) ?_
                refine fz_sub (fz_pk_sub (ls' := [(6, fz_i (x9 + 1)), (0, fz_r 33), (1, fz_i fr), (2, fz_i hr), (3, fz_i 3), (4, fz_i su), (5, fz_i rt)]) [0, 3, 4, 5, 6, 7, 8] rfl) ?_
                exact ih15 (x9 + 1) H10 hI11 hf12 (by omega) (by omega)
    exact lp14 _ 0 H1 hI5 hf7 (by omega) (Nat.lt_succ_self _)
  · exfalso; omega

abbrev qX6_explore_2 (h : fz_H) (fr hr su rt : Int) : fz_H → Option fz_V → Prop := fun h' r0 => fz_Iv h' ∧ fz_fr [(18, 99999), (19, 99999), (29, 99999), (33, 5), (33, 6), (33, 7), (34, 99999)] h h' ∧ r0 = none
set_option maxHeartbeats 1000000 in
set_option maxRecDepth 100000 in
theorem sX6_explore_2 (h : fz_H) (hI : fz_Iv h) (fr hr su rt : Int) (hp0 : 0 ≤ fr ∧ fr < 8) (hp1 : 0 ≤ hr ∧ hr ≤ 96) : fz_R 6 mX6_explore 0 [(0, fz_r 33), (1, fz_i fr), (2, fz_i hr), (3, fz_i 2), (4, fz_i su), (5, fz_i rt)] [] h (qX6_explore_2 h fr hr su rt) := by
  refine fz_knowl (fun hk => ?_)
  have hr_fr : -2147483648 ≤ fr ∧ fr < 2147483648 := hk _ (List.Mem.tail _ (List.Mem.head _))
  have hr_hr : -2147483648 ≤ hr ∧ hr < 2147483648 := hk _ (List.Mem.tail _ (List.Mem.tail _ (List.Mem.head _)))
  have hr_su : -2147483648 ≤ su ∧ su < 2147483648 := hk _ (List.Mem.tail _ (List.Mem.tail _ (List.Mem.tail _ (List.Mem.tail _ (List.Mem.head _)))))
  have hr_rt : -2147483648 ≤ rt ∧ rt < 2147483648 := hk _ (List.Mem.tail _ (List.Mem.tail _ (List.Mem.tail _ (List.Mem.tail _ (List.Mem.tail _ (List.Mem.head _))))))
  clear hk
  have hf : fz_fr [(18, 99999), (19, 99999), (29, 99999), (33, 5), (33, 6), (33, 7), (34, 99999)] h h := fz_fr_rf
  refine fz_aload_n kX6_explore rfl rfl ?_
  refine fz_iload_n kX6_explore rfl rfl ?_
  refine fz_iload kX6_explore rfl rfl ?_
  refine fz_iload kX6_explore rfl rfl ?_
  refine fz_callV (d' := 0) (M' := mX6_compare) (As := [fz_i 2, fz_i su, fz_i rt]) (st := []) kX6_explore rfl rfl vX6_compare rfl rfl rfl rfl (Nat.le_of_ble_eq_true rfl) (Nat.le_of_ble_eq_true rfl) (by decide) (sX6_compare h hI 2 su rt (by omega)) (fun H1 r2 q3 o4 => ?_)
  obtain ⟨hI5, hf6, rfl⟩ := q3
  clear o4
  have hf7 := fz_fr_tr hf hf6 (show fz_su [(33, 5), (33, 6), (33, 7)] [(18, 99999), (19, 99999), (29, 99999), (33, 5), (33, 6), (33, 7), (34, 99999)] = true from rfl)
  refine fz_iload_n kX6_explore rfl rfl ?_
  refine fz_iconst ⟨by decide, by decide⟩ kX6_explore rfl ?_
  refine fz_icmp_lt (tgt := 15) kX6_explore rfl (by decide) (fun c8 => ?_) (fun c8 => ?_)
  · refine fz_iconst ⟨by decide, by decide⟩ kX6_explore rfl ?_
    refine fz_istore (ls' := [(6, fz_i 0), (0, fz_r 33), (1, fz_i fr), (2, fz_i hr), (3, fz_i 2), (4, fz_i su), (5, fz_i rt)]) kX6_explore rfl (by decide) rfl ?_
    have lp14 : ∀ (n13 : Nat) (x9 : Int) (H10 : fz_H), fz_Iv H10 → fz_fr [(18, 99999), (19, 99999), (29, 99999), (33, 5), (33, 6), (33, 7), (34, 99999)] h H10 → (0 ≤ x9 ∧ x9 ≤ 2147483647) → ((h 1 8) - x9).toNat < n13 → fz_R 6 mX6_explore 18 [(6, fz_i x9), (0, fz_r 33), (1, fz_i fr), (2, fz_i hr), (3, fz_i 2), (4, fz_i su), (5, fz_i rt)] [] H10 (qX6_explore_2 h fr hr su rt) := by
      intro n13
      induction n13 with
      | zero => intro x9 H10 hI11 hf12 hv17 hm16; exact absurd hm16 (by omega)
      | succ n13 ih15 =>
        intro x9 H10 hI11 hf12 hv17 hm16
        refine fz_iload kX6_explore rfl rfl ?_
        refine fz_aload_n kX6_explore rfl rfl ?_
        refine fz_getR (t := 1) kX6_explore rfl rfl ?_
        refine fz_getV (v := h 1 8) kX6_explore rfl rfl (hf12 1 8 rfl) ?_
        have b18 : 0 ≤ h 1 8 ∧ h 1 8 ≤ 12 := hI.1 1 _
        refine fz_icmp_ge (tgt := 206) kX6_explore rfl (by decide) (fun c19 => ?_) (fun c19 => ?_)
        · exact fz_vret kX6_explore rfl rfl ⟨hI11, hf12, rfl⟩
        · refine fz_aload_n kX6_explore rfl rfl ?_
          refine fz_getR (t := 1) kX6_explore rfl rfl ?_
          refine fz_iload kX6_explore rfl rfl ?_
          refine fz_iload_n kX6_explore rfl rfl ?_
          refine fz_callV (d' := 0) (M' := mX2_acrossFrom) (As := [fz_i x9, fz_i fr]) (st := []) kX6_explore rfl rfl vX2_acrossFrom rfl rfl rfl rfl (Nat.le_of_ble_eq_true rfl) (Nat.le_of_ble_eq_true rfl) (by decide) (sX2_acrossFrom H10 hI11 x9 fr (by omega)) (fun H20 r21 q22 o23 => ?_)
          obtain ⟨e24, y28, rfl, f25, f26, f27⟩ := q22
          subst H20
          clear o23
          refine fz_istore (ls' := [(7, fz_i y28), (6, fz_i x9), (0, fz_r 33), (1, fz_i fr), (2, fz_i hr), (3, fz_i 2), (4, fz_i su), (5, fz_i rt)]) kX6_explore rfl (by decide) rfl ?_
          refine fz_iload_n kX6_explore rfl rfl ?_
          refine fz_aload_n kX6_explore rfl rfl ?_
          refine fz_getR (t := 1) kX6_explore rfl rfl ?_
          refine fz_getR (t := 3) kX6_explore rfl rfl ?_
          refine fz_iload kX6_explore rfl rfl ?_
          refine fz_ialdV (n := 12) (v := h 3 (x9.toNat)) kX6_explore rfl rfl (by omega) (by omega) (hf12 3 _ rfl) ?_
          have b29 : 0 ≤ h 3 (x9.toNat) ∧ h 3 (x9.toNat) ≤ 24 := hI.1 3 _
          refine fz_iaddN kX6_explore rfl (by omega) ?_
          refine fz_istore (ls' := [(8, fz_i (hr + (h 3 (x9.toNat)))), (7, fz_i y28), (6, fz_i x9), (0, fz_r 33), (1, fz_i fr), (2, fz_i hr), (3, fz_i 2), (4, fz_i su), (5, fz_i rt)]) kX6_explore rfl (by decide) rfl ?_
          refine fz_iload kX6_explore rfl rfl ?_
          refine fz_if_lt (tgt := 200) kX6_explore rfl (by decide) (fun c30 => ?_) (fun c30 => ?_)
          · refine fz_iincN (ls' := [(6, fz_i (x9 + 1)), (8, fz_i (hr + (h 3 (x9.toNat)))), (7, fz_i y28), (0, fz_r 33), (1, fz_i fr), (2, fz_i hr), (3, fz_i 2), (4, fz_i su), (5, fz_i rt)]) kX6_explore rfl (by decide) rfl (by omega) rfl ?_
            refine fz_goto (tgt := 18) kX6_explore rfl (by decide) ?_
            refine fz_sub (fz_pk_sub (ls' := [(6, fz_i (x9 + 1)), (0, fz_r 33), (1, fz_i fr), (2, fz_i hr), (3, fz_i 2), (4, fz_i su), (5, fz_i rt)]) [0, 3, 4, 5, 6, 7, 8] rfl) ?_
            exact ih15 (x9 + 1) H10 hI11 hf12 (by omega) (by omega)
          · refine fz_iload kX6_explore rfl rfl ?_
            refine fz_bipush ⟨by decide, by decide⟩ kX6_explore rfl ?_
            refine fz_icmp_ge (tgt := 200) kX6_explore rfl (by decide) (fun c31 => ?_) (fun c31 => ?_)
            · refine fz_iincN (ls' := [(6, fz_i (x9 + 1)), (8, fz_i (hr + (h 3 (x9.toNat)))), (7, fz_i y28), (0, fz_r 33), (1, fz_i fr), (2, fz_i hr), (3, fz_i 2), (4, fz_i su), (5, fz_i rt)]) kX6_explore rfl (by decide) rfl (by omega) rfl ?_
              refine fz_goto (tgt := 18) kX6_explore rfl (by decide) ?_
              refine fz_sub (fz_pk_sub (ls' := [(6, fz_i (x9 + 1)), (0, fz_r 33), (1, fz_i fr), (2, fz_i hr), (3, fz_i 2), (4, fz_i su), (5, fz_i rt)]) [0, 3, 4, 5, 6, 7, 8] rfl) ?_
              exact ih15 (x9 + 1) H10 hI11 hf12 (by omega) (by omega)
            · refine fz_aload_n kX6_explore rfl rfl ?_
              refine fz_getV (v := h 33 4) kX6_explore rfl rfl (hf12 33 4 rfl) ?_
              have b32 : 0 ≤ h 33 4 ∧ h 33 4 ≤ 999 := hI.1 33 _
              refine fz_iload kX6_explore rfl rfl ?_
              refine fz_iaddN kX6_explore rfl (by omega) ?_
              refine fz_sipush ⟨by decide, by decide⟩ kX6_explore rfl ?_
              refine fz_icmp_le (tgt := 84) kX6_explore rfl (by decide) (fun c33 => ?_) (fun c33 => ?_)
              · refine fz_iload kX6_explore rfl rfl ?_
                refine fz_bipush ⟨by decide, by decide⟩ kX6_explore rfl ?_
                refine fz_imulN kX6_explore rfl (by omega) ?_
                refine fz_iload kX6_explore rfl rfl ?_
                refine fz_iaddN kX6_explore rfl (by omega) ?_
                refine fz_istore (ls' := [(9, fz_i ((y28 * 97) + (hr + (h 3 (x9.toNat))))), (8, fz_i (hr + (h 3 (x9.toNat)))), (7, fz_i y28), (6, fz_i x9), (0, fz_r 33), (1, fz_i fr), (2, fz_i hr), (3, fz_i 2), (4, fz_i su), (5, fz_i rt)]) kX6_explore rfl (by decide) rfl ?_
                refine fz_aload_n kX6_explore rfl rfl ?_
                refine fz_getR (t := 34) kX6_explore rfl rfl ?_
                refine fz_iload kX6_explore rfl rfl ?_
                obtain ⟨v34, e35⟩ : ∃ z, H10 34 (((y28 * 97) + (hr + (h 3 (x9.toNat)))).toNat) = z := ⟨_, rfl⟩
                refine fz_ialdV (n := 776) (v := v34) kX6_explore rfl rfl (by omega) (by omega) e35 ?_
                have b36 : (-2147483648) ≤ v34 ∧ v34 ≤ 2147483647 := by rw [← e35]; exact hI11.1 34 _
                refine fz_ldc (x := (-2000000000)) kX6_explore rfl rfl rfl ?_
                refine fz_icmp_ne (tgt := 159) kX6_explore rfl (by decide) (fun c37 => ?_) (fun c37 => ?_)
                · refine fz_aload_n kX6_explore rfl rfl ?_
                  refine fz_getR (t := 34) kX6_explore rfl rfl ?_
                  refine fz_iload kX6_explore rfl rfl ?_
                  obtain ⟨v38, e39⟩ : ∃ z, H10 34 (((y28 * 97) + (hr + (h 3 (x9.toNat)))).toNat) = z := ⟨_, rfl⟩
                  refine fz_ialdV (n := 776) (v := v38) kX6_explore rfl rfl (by omega) (by omega) e39 ?_
                  have b40 : (-2147483648) ≤ v38 ∧ v38 ≤ 2147483647 := by rw [← e39]; exact hI11.1 34 _
                  refine fz_ldc (x := (-1999999999)) kX6_explore rfl rfl rfl ?_
                  refine fz_icmp_eq (tgt := 200) kX6_explore rfl (by decide) (fun c41 => ?_) (fun c41 => ?_)
                  · refine fz_iincN (ls' := [(6, fz_i (x9 + 1)), (9, fz_i ((y28 * 97) + (hr + (h 3 (x9.toNat))))), (8, fz_i (hr + (h 3 (x9.toNat)))), (7, fz_i y28), (0, fz_r 33), (1, fz_i fr), (2, fz_i hr), (3, fz_i 2), (4, fz_i su), (5, fz_i rt)]) kX6_explore rfl (by decide) rfl (by omega) rfl ?_
                    refine fz_goto (tgt := 18) kX6_explore rfl (by decide) ?_
                    refine fz_sub (fz_pk_sub (ls' := [(6, fz_i (x9 + 1)), (0, fz_r 33), (1, fz_i fr), (2, fz_i hr), (3, fz_i 2), (4, fz_i su), (5, fz_i rt)]) [0, 4, 5, 6, 7, 8, 9] rfl) ?_
                    exact ih15 (x9 + 1) H10 hI11 hf12 (by omega) (by omega)
                  · refine fz_aload_n kX6_explore rfl rfl ?_
                    refine fz_iload kX6_explore rfl rfl ?_
                    refine fz_iload kX6_explore rfl rfl ?_
                    refine fz_iload_n kX6_explore rfl rfl ?_
                    refine fz_iconst ⟨by decide, by decide⟩ kX6_explore rfl ?_
                    refine fz_iaddN kX6_explore rfl ⟨by decide, by decide⟩ ?_
                    refine fz_eqi (y := 3) rfl ?_
                    refine fz_iload kX6_explore rfl rfl ?_
                    refine fz_aload_n kX6_explore rfl rfl ?_
                    refine fz_getR (t := 34) kX6_explore rfl rfl ?_
                    refine fz_iload kX6_explore rfl rfl ?_
                    obtain ⟨v42, e43⟩ : ∃ z, H10 34 (((y28 * 97) + (hr + (h 3 (x9.toNat)))).toNat) = z := ⟨_, rfl⟩
                    refine fz_ialdV (n := 776) (v := v42) kX6_explore rfl rfl (by omega) (by omega) e43 ?_
                    have b44 : (-2147483648) ≤ v42 ∧ v42 ≤ 2147483647 := by rw [← e43]; exact hI11.1 34 _
                    refine fz_iadd kX6_explore rfl ?_
                    refine fz_nmw (fun z45 e46 => ?_)
                    refine fz_iload kX6_explore rfl rfl ?_
                    refine fz_bipush ⟨by decide, by decide⟩ kX6_explore rfl ?_
                    refine fz_imul kX6_explore rfl ?_
                    refine fz_nmw (fun z47 e48 => ?_)
                    refine fz_iload kX6_explore rfl rfl ?_
                    refine fz_iadd kX6_explore rfl ?_
                    refine fz_nmw (fun z49 e50 => ?_)
                    refine fz_callV (d' := 5) (M' := mX6_explore) (As := [fz_i y28, fz_i (hr + (h 3 (x9.toNat))), fz_i 3, fz_i z45, fz_i z49]) (st := []) kX6_explore rfl rfl vX6_explore rfl rfl rfl rfl (Nat.le_of_ble_eq_true rfl) (Nat.le_of_ble_eq_true rfl) (by decide) (sX6_explore_3 H10 hI11 y28 (hr + (h 3 (x9.toNat))) z45 z49 (by omega) (by omega)) (fun H51 r52 q53 o54 => ?_)
                    obtain ⟨hI55, hf56, rfl⟩ := q53
                    clear o54
                    have hf57 := fz_fr_tr hf12 hf56 (show fz_su [(18, 99999), (19, 99999), (29, 99999), (33, 5), (33, 6), (33, 7), (34, 99999)] [(18, 99999), (19, 99999), (29, 99999), (33, 5), (33, 6), (33, 7), (34, 99999)] = true from rfl)
                    refine fz_iincN (ls' := [(6, fz_i (x9 + 1)), (9, fz_i ((y28 * 97) + (hr + (h 3 (x9.toNat))))), (8, fz_i (hr + (h 3 (x9.toNat)))), (7, fz_i y28), (0, fz_r 33), (1, fz_i fr), (2, fz_i hr), (3, fz_i 2), (4, fz_i su), (5, fz_i rt)]) kX6_explore rfl (by decide) rfl (by omega) rfl ?_
                    refine fz_goto (tgt := 18) kX6_explore rfl (by decide) ?_
                    refine fz_sub (fz_pk_sub (ls' := [(6, fz_i (x9 + 1)), (0, fz_r 33), (1, fz_i fr), (2, fz_i hr), (3, fz_i 2), (4, fz_i su), (5, fz_i rt)]) [0, 4, 5, 6, 7, 8, 9] rfl) ?_
                    exact ih15 (x9 + 1) H51 hI55 hf57 (by omega) (by omega)
                · refine fz_aload_n kX6_explore rfl rfl ?_
                  refine fz_getR (t := 27) kX6_explore rfl rfl ?_
                  refine fz_aload_n kX6_explore rfl rfl ?_
                  refine fz_getV (v := h 33 3) kX6_explore rfl rfl (hf12 33 3 rfl) ?_
                  have b58 : 0 ≤ h 33 3 ∧ h 33 3 ≤ 3 := hI.1 33 _
                  refine fz_aload_n kX6_explore rfl rfl ?_
                  refine fz_getV (v := h 33 3) kX6_explore rfl rfl (hf12 33 3 rfl) ?_
                  refine fz_iload kX6_explore rfl rfl ?_
                  refine fz_aload_n kX6_explore rfl rfl ?_
                  refine fz_getV (v := h 33 4) kX6_explore rfl rfl (hf12 33 4 rfl) ?_
                  refine fz_iload kX6_explore rfl rfl ?_
                  refine fz_iaddN kX6_explore rfl (by omega) ?_
                  refine fz_callV (d' := 4) (M' := mX8_listen) (As := [fz_i (h 33 3), fz_i (h 33 3), fz_i y28, fz_i ((h 33 4) + (hr + (h 3 (x9.toNat))))]) (st := []) kX6_explore rfl rfl vX8_listen rfl rfl rfl rfl (Nat.le_of_ble_eq_true rfl) (Nat.le_of_ble_eq_true rfl) (by decide) (sX8_listen H10 hI11 (h 33 3) (h 33 3) y28 ((h 33 4) + (hr + (h 3 (x9.toNat)))) (by omega)) (fun H59 r60 q61 o62 => ?_)
                  obtain ⟨hI63, hf64, rfl⟩ := q61
                  clear o62
                  have hf65 := fz_fr_tr hf12 hf64 (show fz_su [(18, 99999), (19, 99999), (29, 99999)] [(18, 99999), (19, 99999), (29, 99999), (33, 5), (33, 6), (33, 7), (34, 99999)] = true from rfl)
                  refine fz_aload_n kX6_explore rfl rfl ?_
                  refine fz_getR (t := 34) kX6_explore rfl rfl ?_
                  refine fz_iload kX6_explore rfl rfl ?_
                  refine fz_aload_n kX6_explore rfl rfl ?_
                  refine fz_getR (t := 27) kX6_explore rfl rfl ?_
                  refine fz_callV (d' := 1) (M' := mX8_isArrested) (As := []) (st := [fz_i ((y28 * 97) + (hr + (h 3 (x9.toNat)))), fz_r 34]) kX6_explore rfl rfl vX8_isArrested rfl rfl rfl rfl (Nat.le_of_ble_eq_true rfl) (Nat.le_of_ble_eq_true rfl) (by decide) (sX8_isArrested H59 hI63  ) (fun H66 r67 q68 o69 => ?_)
                  obtain ⟨e70, y71, rfl, p72⟩ := q68
                  subst H66
                  clear o69
                  refine fz_if_eq (tgt := 151) kX6_explore rfl (by decide) (fun c73 => ?_) (fun c73 => ?_)
                  · refine fz_aload_n kX6_explore rfl rfl ?_
                    refine fz_getR (t := 27) kX6_explore rfl rfl ?_
                    refine fz_callV (d' := 0) (M' := mX8_reception) (As := []) (st := [fz_i ((y28 * 97) + (hr + (h 3 (x9.toNat)))), fz_r 34]) kX6_explore rfl rfl vX8_reception rfl rfl rfl rfl (Nat.le_of_ble_eq_true rfl) (Nat.le_of_ble_eq_true rfl) (by decide) (sX8_reception H59 hI63  ) (fun H74 r75 q76 o77 => ?_)
                    obtain ⟨e78, y80, rfl, f79⟩ := q76
                    subst H74
                    clear o77
                    refine fz_iast (n := 776) kX6_explore rfl rfl (by omega) (by omega) ?_
                    refine fz_nmu (S := [(18, 99999), (19, 99999), (29, 99999), (33, 5), (33, 6), (33, 7), (34, 99999)]) (h0 := h) (fz_Iv_up hI63 (by decide) (show ((-2147483648) : Int) ≤ y80 by omega) (show (y80 : Int) ≤ 2147483647 by omega)) (fz_fr_up hf65 rfl) (fun H81 hI82 hf83 e84 => ?_)
                    clear e84
                    refine fz_aload_n kX6_explore rfl rfl ?_
                    refine fz_getR (t := 34) kX6_explore rfl rfl ?_
                    refine fz_iload kX6_explore rfl rfl ?_
                    obtain ⟨v85, e86⟩ : ∃ z, H81 34 (((y28 * 97) + (hr + (h 3 (x9.toNat)))).toNat) = z := ⟨_, rfl⟩
                    refine fz_ialdV (n := 776) (v := v85) kX6_explore rfl rfl (by omega) (by omega) e86 ?_
                    have b87 : (-2147483648) ≤ v85 ∧ v85 ≤ 2147483647 := by rw [← e86]; exact hI82.1 34 _
                    refine fz_ldc (x := (-1999999999)) kX6_explore rfl rfl rfl ?_
                    refine fz_icmp_eq (tgt := 200) kX6_explore rfl (by decide) (fun c88 => ?_) (fun c88 => ?_)
                    · refine fz_iincN (ls' := [(6, fz_i (x9 + 1)), (9, fz_i ((y28 * 97) + (hr + (h 3 (x9.toNat))))), (8, fz_i (hr + (h 3 (x9.toNat)))), (7, fz_i y28), (0, fz_r 33), (1, fz_i fr), (2, fz_i hr), (3, fz_i 2), (4, fz_i su), (5, fz_i rt)]) kX6_explore rfl (by decide) rfl (by omega) rfl ?_
                      refine fz_goto (tgt := 18) kX6_explore rfl (by decide) ?_
                      refine fz_sub (fz_pk_sub (ls' := [(6, fz_i (x9 + 1)), (0, fz_r 33), (1, fz_i fr), (2, fz_i hr), (3, fz_i 2), (4, fz_i su), (5, fz_i rt)]) [0, 4, 5, 6, 7, 8, 9] rfl) ?_
                      exact ih15 (x9 + 1) H81 hI82 hf83 (by omega) (by omega)
                    · refine fz_aload_n kX6_explore rfl rfl ?_
                      refine fz_iload kX6_explore rfl rfl ?_
                      refine fz_iload kX6_explore rfl rfl ?_
                      refine fz_iload_n kX6_explore rfl rfl ?_
                      refine fz_iconst ⟨by decide, by decide⟩ kX6_explore rfl ?_
                      refine fz_iaddN kX6_explore rfl ⟨by decide, by decide⟩ ?_
                      refine fz_eqi (y := 3) rfl ?_
                      refine fz_iload kX6_explore rfl rfl ?_
                      refine fz_aload_n kX6_explore rfl rfl ?_
                      refine fz_getR (t := 34) kX6_explore rfl rfl ?_
                      refine fz_iload kX6_explore rfl rfl ?_
                      obtain ⟨v89, e90⟩ : ∃ z, H81 34 (((y28 * 97) + (hr + (h 3 (x9.toNat)))).toNat) = z := ⟨_, rfl⟩
                      refine fz_ialdV (n := 776) (v := v89) kX6_explore rfl rfl (by omega) (by omega) e90 ?_
                      have b91 : (-2147483648) ≤ v89 ∧ v89 ≤ 2147483647 := by rw [← e90]; exact hI82.1 34 _
                      refine fz_iadd kX6_explore rfl ?_
                      refine fz_nmw (fun z92 e93 => ?_)
                      refine fz_iload kX6_explore rfl rfl ?_
                      refine fz_bipush ⟨by decide, by decide⟩ kX6_explore rfl ?_
                      refine fz_imul kX6_explore rfl ?_
                      refine fz_nmw (fun z94 e95 => ?_)
                      refine fz_iload kX6_explore rfl rfl ?_
                      refine fz_iadd kX6_explore rfl ?_
                      refine fz_nmw (fun z96 e97 => ?_)
                      refine fz_callV (d' := 5) (M' := mX6_explore) (As := [fz_i y28, fz_i (hr + (h 3 (x9.toNat))), fz_i 3, fz_i z92, fz_i z96]) (st := []) kX6_explore rfl rfl vX6_explore rfl rfl rfl rfl (Nat.le_of_ble_eq_true rfl) (Nat.le_of_ble_eq_true rfl) (by decide) (sX6_explore_3 H81 hI82 y28 (hr + (h 3 (x9.toNat))) z92 z96 (by omega) (by omega)) (fun H98 r99 q100 o101 => ?_)
                      obtain ⟨hI102, hf103, rfl⟩ := q100
                      clear o101
                      have hf104 := fz_fr_tr hf83 hf103 (show fz_su [(18, 99999), (19, 99999), (29, 99999), (33, 5), (33, 6), (33, 7), (34, 99999)] [(18, 99999), (19, 99999), (29, 99999), (33, 5), (33, 6), (33, 7), (34, 99999)] = true from rfl)
                      refine fz_iincN (ls' := [(6, fz_i (x9 + 1)), (9, fz_i ((y28 * 97) + (hr + (h 3 (x9.toNat))))), (8, fz_i (hr + (h 3 (x9.toNat)))), (7, fz_i y28), (0, fz_r 33), (1, fz_i fr), (2, fz_i hr), (3, fz_i 2), (4, fz_i su), (5, fz_i rt)]) kX6_explore rfl (by decide) rfl (by omega) rfl ?_
                      refine fz_goto (tgt := 18) kX6_explore rfl (by decide) ?_
                      refine fz_sub (fz_pk_sub (ls' := [(6, fz_i (x9 + 1)), (0, fz_r 33), (1, fz_i fr), (2, fz_i hr), (3, fz_i 2), (4, fz_i su), (5, fz_i rt)]) [0, 4, 5, 6, 7, 8, 9] rfl) ?_
                      exact ih15 (x9 + 1) H98 hI102 hf104 (by omega) (by omega)
                  · refine fz_ldc (x := (-1999999999)) kX6_explore rfl rfl rfl ?_
                    refine fz_goto (tgt := 158) kX6_explore rfl (by decide) ?_
                    refine fz_iast (n := 776) kX6_explore rfl rfl (by omega) (by omega) ?_
                    refine fz_nmu (S := [(18, 99999), (19, 99999), (29, 99999), (33, 5), (33, 6), (33, 7), (34, 99999)]) (h0 := h) (fz_Iv_up hI63 (by decide) (show ((-2147483648) : Int) ≤ (-1999999999) by decide) (show ((-1999999999) : Int) ≤ 2147483647 by decide)) (fz_fr_up hf65 rfl) (fun H105 hI106 hf107 e108 => ?_)
                    clear e108
                    refine fz_aload_n kX6_explore rfl rfl ?_
                    refine fz_getR (t := 34) kX6_explore rfl rfl ?_
                    refine fz_iload kX6_explore rfl rfl ?_
                    obtain ⟨v109, e110⟩ : ∃ z, H105 34 (((y28 * 97) + (hr + (h 3 (x9.toNat)))).toNat) = z := ⟨_, rfl⟩
                    refine fz_ialdV (n := 776) (v := v109) kX6_explore rfl rfl (by omega) (by omega) e110 ?_
                    have b111 : (-2147483648) ≤ v109 ∧ v109 ≤ 2147483647 := by rw [← e110]; exact hI106.1 34 _
                    refine fz_ldc (x := (-1999999999)) kX6_explore rfl rfl rfl ?_
                    refine fz_icmp_eq (tgt := 200) kX6_explore rfl (by decide) (fun c112 => ?_) (fun c112 => ?_)
                    · refine fz_iincN (ls' := [(6, fz_i (x9 + 1)), (9, fz_i ((y28 * 97) + (hr + (h 3 (x9.toNat))))), (8, fz_i (hr + (h 3 (x9.toNat)))), (7, fz_i y28), (0, fz_r 33), (1, fz_i fr), (2, fz_i hr), (3, fz_i 2), (4, fz_i su), (5, fz_i rt)]) kX6_explore rfl (by decide) rfl (by omega) rfl ?_
                      refine fz_goto (tgt := 18) kX6_explore rfl (by decide) ?_
                      refine fz_sub (fz_pk_sub (ls' := [(6, fz_i (x9 + 1)), (0, fz_r 33), (1, fz_i fr), (2, fz_i hr), (3, fz_i 2), (4, fz_i su), (5, fz_i rt)]) [0, 4, 5, 6, 7, 8, 9] rfl) ?_
                      exact ih15 (x9 + 1) H105 hI106 hf107 (by omega) (by omega)
                    · refine fz_aload_n kX6_explore rfl rfl ?_
                      refine fz_iload kX6_explore rfl rfl ?_
                      refine fz_iload kX6_explore rfl rfl ?_
                      refine fz_iload_n kX6_explore rfl rfl ?_
                      refine fz_iconst ⟨by decide, by decide⟩ kX6_explore rfl ?_
                      refine fz_iaddN kX6_explore rfl ⟨by decide, by decide⟩ ?_
                      refine fz_eqi (y := 3) rfl ?_
                      refine fz_iload kX6_explore rfl rfl ?_
                      refine fz_aload_n kX6_explore rfl rfl ?_
                      refine fz_getR (t := 34) kX6_explore rfl rfl ?_
                      refine fz_iload kX6_explore rfl rfl ?_
                      obtain ⟨v113, e114⟩ : ∃ z, H105 34 (((y28 * 97) + (hr + (h 3 (x9.toNat)))).toNat) = z := ⟨_, rfl⟩
                      refine fz_ialdV (n := 776) (v := v113) kX6_explore rfl rfl (by omega) (by omega) e114 ?_
                      have b115 : (-2147483648) ≤ v113 ∧ v113 ≤ 2147483647 := by rw [← e114]; exact hI106.1 34 _
                      refine fz_iadd kX6_explore rfl ?_
                      refine fz_nmw (fun z116 e117 => ?_)
                      refine fz_iload kX6_explore rfl rfl ?_
                      refine fz_bipush ⟨by decide, by decide⟩ kX6_explore rfl ?_
                      refine fz_imul kX6_explore rfl ?_
                      refine fz_nmw (fun z118 e119 => ?_)
                      refine fz_iload kX6_explore rfl rfl ?_
                      refine fz_iadd kX6_explore rfl ?_
                      refine fz_nmw (fun z120 e121 => ?_)
                      refine fz_callV (d' := 5) (M' := mX6_explore) (As := [fz_i y28, fz_i (hr + (h 3 (x9.toNat))), fz_i 3, fz_i z116, fz_i z120]) (st := []) kX6_explore rfl rfl vX6_explore rfl rfl rfl rfl (Nat.le_of_ble_eq_true rfl) (Nat.le_of_ble_eq_true rfl) (by decide) (sX6_explore_3 H105 hI106 y28 (hr + (h 3 (x9.toNat))) z116 z120 (by omega) (by omega)) (fun H122 r123 q124 o125 => ?_)
                      obtain ⟨hI126, hf127, rfl⟩ := q124
                      clear o125
                      have hf128 := fz_fr_tr hf107 hf127 (show fz_su [(18, 99999), (19, 99999), (29, 99999), (33, 5), (33, 6), (33, 7), (34, 99999)] [(18, 99999), (19, 99999), (29, 99999), (33, 5), (33, 6), (33, 7), (34, 99999)] = true from rfl)
                      refine fz_iincN (ls' := [(6, fz_i (x9 + 1)), (9, fz_i ((y28 * 97) + (hr + (h 3 (x9.toNat))))), (8, fz_i (hr + (h 3 (x9.toNat)))), (7, fz_i y28), (0, fz_r 33), (1, fz_i fr), (2, fz_i hr), (3, fz_i 2), (4, fz_i su), (5, fz_i rt)]) kX6_explore rfl (by decide) rfl (by omega) rfl ?_
                      refine fz_goto (tgt := 18) kX6_explore rfl (by decide) ?_
                      refine fz_sub (fz_pk_sub (ls' := [(6, fz_i (x9 + 1)), (0, fz_r 33), (1, fz_i fr), (2, fz_i hr), (3, fz_i 2), (4, fz_i su), (5, fz_i rt)]) [0, 4, 5, 6, 7, 8, 9] rfl) ?_
                      exact ih15 (x9 + 1) H122 hI126 hf128 (by omega) (by omega)
              · refine fz_goto (tgt := 200) kX6_explore rfl (by decide) ?_
                refine fz_iincN (ls' := [(6, fz_i (x9 + 1)), (8, fz_i (hr + (h 3 (x9.toNat)))), (7, fz_i y28), (0, fz_r 33), (1, fz_i fr), (2, fz_i hr), (3, fz_i 2), (4, fz_i su), (5, fz_i rt)]) kX6_explore rfl (by decide) rfl (by omega) rfl ?_
                refine fz_goto (tgt := 18) kX6_explore rfl (by decide) ?_
                refine fz_sub (fz_pk_sub (ls' := [(6, fz_i (x9 + 1)), (0, fz_r 33), (1, fz_i fr), (2, fz_i hr), (3, fz_i 2), (4, fz_i su), (5, fz_i rt)]) [0, 3, 4, 5, 6, 7, 8] rfl) ?_
                exact ih15 (x9 + 1) H10 hI11 hf12 (by omega) (by omega)
    exact lp14 _ 0 H1 hI5 hf7 (by omega) (Nat.lt_succ_self _)
  · exfalso; omega

abbrev qX6_explore_1 (h : fz_H) (fr hr su rt : Int) : fz_H → Option fz_V → Prop := fun h' r0 => fz_Iv h' ∧ fz_fr [(18, 99999), (19, 99999), (29, 99999), (33, 5), (33, 6), (33, 7), (34, 99999)] h h' ∧ r0 = none
set_option maxHeartbeats 1000000 in
set_option maxRecDepth 100000 in
theorem sX6_explore_1 (h : fz_H) (hI : fz_Iv h) (fr hr su rt : Int) (hp0 : 0 ≤ fr ∧ fr < 8) (hp1 : 0 ≤ hr ∧ hr ≤ 96) : fz_R 7 mX6_explore 0 [(0, fz_r 33), (1, fz_i fr), (2, fz_i hr), (3, fz_i 1), (4, fz_i su), (5, fz_i rt)] [] h (qX6_explore_1 h fr hr su rt) := by
  refine fz_knowl (fun hk => ?_)
  have hr_fr : -2147483648 ≤ fr ∧ fr < 2147483648 := hk _ (List.Mem.tail _ (List.Mem.head _))
  have hr_hr : -2147483648 ≤ hr ∧ hr < 2147483648 := hk _ (List.Mem.tail _ (List.Mem.tail _ (List.Mem.head _)))
  have hr_su : -2147483648 ≤ su ∧ su < 2147483648 := hk _ (List.Mem.tail _ (List.Mem.tail _ (List.Mem.tail _ (List.Mem.tail _ (List.Mem.head _)))))
  have hr_rt : -2147483648 ≤ rt ∧ rt < 2147483648 := hk _ (List.Mem.tail _ (List.Mem.tail _ (List.Mem.tail _ (List.Mem.tail _ (List.Mem.tail _ (List.Mem.head _))))))
  clear hk
  have hf : fz_fr [(18, 99999), (19, 99999), (29, 99999), (33, 5), (33, 6), (33, 7), (34, 99999)] h h := fz_fr_rf
  refine fz_aload_n kX6_explore rfl rfl ?_
  refine fz_iload_n kX6_explore rfl rfl ?_
  refine fz_iload kX6_explore rfl rfl ?_
  refine fz_iload kX6_explore rfl rfl ?_
  refine fz_callV (d' := 0) (M' := mX6_compare) (As := [fz_i 1, fz_i su, fz_i rt]) (st := []) kX6_explore rfl rfl vX6_compare rfl rfl rfl rfl (Nat.le_of_ble_eq_true rfl) (Nat.le_of_ble_eq_true rfl) (by decide) (sX6_compare h hI 1 su rt (by omega)) (fun H1 r2 q3 o4 => ?_)
  obtain ⟨hI5, hf6, rfl⟩ := q3
  clear o4
  have hf7 := fz_fr_tr hf hf6 (show fz_su [(33, 5), (33, 6), (33, 7)] [(18, 99999), (19, 99999), (29, 99999), (33, 5), (33, 6), (33, 7), (34, 99999)] = true from rfl)
  refine fz_iload_n kX6_explore rfl rfl ?_
  refine fz_iconst ⟨by decide, by decide⟩ kX6_explore rfl ?_
  refine fz_icmp_lt (tgt := 15) kX6_explore rfl (by decide) (fun c8 => ?_) (fun c8 => ?_)
  · refine fz_iconst ⟨by decide, by decide⟩ kX6_explore rfl ?_
    refine fz_istore (ls' := [(6, fz_i 0), (0, fz_r 33), (1, fz_i fr), (2, fz_i hr), (3, fz_i 1), (4, fz_i su), (5, fz_i rt)]) kX6_explore rfl (by decide) rfl ?_
    have lp14 : ∀ (n13 : Nat) (x9 : Int) (H10 : fz_H), fz_Iv H10 → fz_fr [(18, 99999), (19, 99999), (29, 99999), (33, 5), (33, 6), (33, 7), (34, 99999)] h H10 → (0 ≤ x9 ∧ x9 ≤ 2147483647) → ((h 1 8) - x9).toNat < n13 → fz_R 7 mX6_explore 18 [(6, fz_i x9), (0, fz_r 33), (1, fz_i fr), (2, fz_i hr), (3, fz_i 1), (4, fz_i su), (5, fz_i rt)] [] H10 (qX6_explore_1 h fr hr su rt) := by
      intro n13
      induction n13 with
      | zero => intro x9 H10 hI11 hf12 hv17 hm16; exact absurd hm16 (by omega)
      | succ n13 ih15 =>
        intro x9 H10 hI11 hf12 hv17 hm16
        refine fz_iload kX6_explore rfl rfl ?_
        refine fz_aload_n kX6_explore rfl rfl ?_
        refine fz_getR (t := 1) kX6_explore rfl rfl ?_
        refine fz_getV (v := h 1 8) kX6_explore rfl rfl (hf12 1 8 rfl) ?_
        have b18 : 0 ≤ h 1 8 ∧ h 1 8 ≤ 12 := hI.1 1 _
        refine fz_icmp_ge (tgt := 206) kX6_explore rfl (by decide) (fun c19 => ?_) (fun c19 => ?_)
        · exact fz_vret kX6_explore rfl rfl ⟨hI11, hf12, rfl⟩
        · refine fz_aload_n kX6_explore rfl rfl ?_
          refine fz_getR (t := 1) kX6_explore rfl rfl ?_
          refine fz_iload kX6_explore rfl rfl ?_
          refine fz_iload_n kX6_explore rfl rfl ?_
          refine fz_callV (d' := 0) (M' := mX2_acrossFrom) (As := [fz_i x9, fz_i fr]) (st := []) kX6_explore rfl rfl vX2_acrossFrom rfl rfl rfl rfl (Nat.le_of_ble_eq_true rfl) (Nat.le_of_ble_eq_true rfl) (by decide) (sX2_acrossFrom H10 hI11 x9 fr (by omega)) (fun H20 r21 q22 o23 => ?_)
          obtain ⟨e24, y28, rfl, f25, f26, f27⟩ := q22
          subst H20
          clear o23
          refine fz_istore (ls' := [(7, fz_i y28), (6, fz_i x9), (0, fz_r 33), (1, fz_i fr), (2, fz_i hr), (3, fz_i 1), (4, fz_i su), (5, fz_i rt)]) kX6_explore rfl (by decide) rfl ?_
          refine fz_iload_n kX6_explore rfl rfl ?_
          refine fz_aload_n kX6_explore rfl rfl ?_
          refine fz_getR (t := 1) kX6_explore rfl rfl ?_
          refine fz_getR (t := 3) kX6_explore rfl rfl ?_
          refine fz_iload kX6_explore rfl rfl ?_
          refine fz_ialdV (n := 12) (v := h 3 (x9.toNat)) kX6_explore rfl rfl (by omega) (by omega) (hf12 3 _ rfl) ?_
          have b29 : 0 ≤ h 3 (x9.toNat) ∧ h 3 (x9.toNat) ≤ 24 := hI.1 3 _
          refine fz_iaddN kX6_explore rfl (by omega) ?_
          refine fz_istore (ls' := [(8, fz_i (hr + (h 3 (x9.toNat)))), (7, fz_i y28), (6, fz_i x9), (0, fz_r 33), (1, fz_i fr), (2, fz_i hr), (3, fz_i 1), (4, fz_i su), (5, fz_i rt)]) kX6_explore rfl (by decide) rfl ?_
          refine fz_iload kX6_explore rfl rfl ?_
          refine fz_if_lt (tgt := 200) kX6_explore rfl (by decide) (fun c30 => ?_) (fun c30 => ?_)
          · refine fz_iincN (ls' := [(6, fz_i (x9 + 1)), (8, fz_i (hr + (h 3 (x9.toNat)))), (7, fz_i y28), (0, fz_r 33), (1, fz_i fr), (2, fz_i hr), (3, fz_i 1), (4, fz_i su), (5, fz_i rt)]) kX6_explore rfl (by decide) rfl (by omega) rfl ?_
            refine fz_goto (tgt := 18) kX6_explore rfl (by decide) ?_
            refine fz_sub (fz_pk_sub (ls' := [(6, fz_i (x9 + 1)), (0, fz_r 33), (1, fz_i fr), (2, fz_i hr), (3, fz_i 1), (4, fz_i su), (5, fz_i rt)]) [0, 3, 4, 5, 6, 7, 8] rfl) ?_
            exact ih15 (x9 + 1) H10 hI11 hf12 (by omega) (by omega)
          · refine fz_iload kX6_explore rfl rfl ?_
            refine fz_bipush ⟨by decide, by decide⟩ kX6_explore rfl ?_
            refine fz_icmp_ge (tgt := 200) kX6_explore rfl (by decide) (fun c31 => ?_) (fun c31 => ?_)
            · refine fz_iincN (ls' := [(6, fz_i (x9 + 1)), (8, fz_i (hr + (h 3 (x9.toNat)))), (7, fz_i y28), (0, fz_r 33), (1, fz_i fr), (2, fz_i hr), (3, fz_i 1), (4, fz_i su), (5, fz_i rt)]) kX6_explore rfl (by decide) rfl (by omega) rfl ?_
              refine fz_goto (tgt := 18) kX6_explore rfl (by decide) ?_
              refine fz_sub (fz_pk_sub (ls' := [(6, fz_i (x9 + 1)), (0, fz_r 33), (1, fz_i fr), (2, fz_i hr), (3, fz_i 1), (4, fz_i su), (5, fz_i rt)]) [0, 3, 4, 5, 6, 7, 8] rfl) ?_
              exact ih15 (x9 + 1) H10 hI11 hf12 (by omega) (by omega)
            · refine fz_aload_n kX6_explore rfl rfl ?_
              refine fz_getV (v := h 33 4) kX6_explore rfl rfl (hf12 33 4 rfl) ?_
              have b32 : 0 ≤ h 33 4 ∧ h 33 4 ≤ 999 := hI.1 33 _
              refine fz_iload kX6_explore rfl rfl ?_
              refine fz_iaddN kX6_explore rfl (by omega) ?_
              refine fz_sipush ⟨by decide, by decide⟩ kX6_explore rfl ?_
              refine fz_icmp_le (tgt := 84) kX6_explore rfl (by decide) (fun c33 => ?_) (fun c33 => ?_)
              · refine fz_iload kX6_explore rfl rfl ?_
                refine fz_bipush ⟨by decide, by decide⟩ kX6_explore rfl ?_
                refine fz_imulN kX6_explore rfl (by omega) ?_
                refine fz_iload kX6_explore rfl rfl ?_
                refine fz_iaddN kX6_explore rfl (by omega) ?_
                refine fz_istore (ls' := [(9, fz_i ((y28 * 97) + (hr + (h 3 (x9.toNat))))), (8, fz_i (hr + (h 3 (x9.toNat)))), (7, fz_i y28), (6, fz_i x9), (0, fz_r 33), (1, fz_i fr), (2, fz_i hr), (3, fz_i 1), (4, fz_i su), (5, fz_i rt)]) kX6_explore rfl (by decide) rfl ?_
                refine fz_aload_n kX6_explore rfl rfl ?_
                refine fz_getR (t := 34) kX6_explore rfl rfl ?_
                refine fz_iload kX6_explore rfl rfl ?_
                obtain ⟨v34, e35⟩ : ∃ z, H10 34 (((y28 * 97) + (hr + (h 3 (x9.toNat)))).toNat) = z := ⟨_, rfl⟩
                refine fz_ialdV (n := 776) (v := v34) kX6_explore rfl rfl (by omega) (by omega) e35 ?_
                have b36 : (-2147483648) ≤ v34 ∧ v34 ≤ 2147483647 := by rw [← e35]; exact hI11.1 34 _
                refine fz_ldc (x := (-2000000000)) kX6_explore rfl rfl rfl ?_
                refine fz_icmp_ne (tgt := 159) kX6_explore rfl (by decide) (fun c37 => ?_) (fun c37 => ?_)
                · refine fz_aload_n kX6_explore rfl rfl ?_
                  refine fz_getR (t := 34) kX6_explore rfl rfl ?_
                  refine fz_iload kX6_explore rfl rfl ?_
                  obtain ⟨v38, e39⟩ : ∃ z, H10 34 (((y28 * 97) + (hr + (h 3 (x9.toNat)))).toNat) = z := ⟨_, rfl⟩
                  refine fz_ialdV (n := 776) (v := v38) kX6_explore rfl rfl (by omega) (by omega) e39 ?_
                  have b40 : (-2147483648) ≤ v38 ∧ v38 ≤ 2147483647 := by rw [← e39]; exact hI11.1 34 _
                  refine fz_ldc (x := (-1999999999)) kX6_explore rfl rfl rfl ?_
                  refine fz_icmp_eq (tgt := 200) kX6_explore rfl (by decide) (fun c41 => ?_) (fun c41 => ?_)
                  · refine fz_iincN (ls' := [(6, fz_i (x9 + 1)), (9, fz_i ((y28 * 97) + (hr + (h 3 (x9.toNat))))), (8, fz_i (hr + (h 3 (x9.toNat)))), (7, fz_i y28), (0, fz_r 33), (1, fz_i fr), (2, fz_i hr), (3, fz_i 1), (4, fz_i su), (5, fz_i rt)]) kX6_explore rfl (by decide) rfl (by omega) rfl ?_
                    refine fz_goto (tgt := 18) kX6_explore rfl (by decide) ?_
                    refine fz_sub (fz_pk_sub (ls' := [(6, fz_i (x9 + 1)), (0, fz_r 33), (1, fz_i fr), (2, fz_i hr), (3, fz_i 1), (4, fz_i su), (5, fz_i rt)]) [0, 4, 5, 6, 7, 8, 9] rfl) ?_
                    exact ih15 (x9 + 1) H10 hI11 hf12 (by omega) (by omega)
                  · refine fz_aload_n kX6_explore rfl rfl ?_
                    refine fz_iload kX6_explore rfl rfl ?_
                    refine fz_iload kX6_explore rfl rfl ?_
                    refine fz_iload_n kX6_explore rfl rfl ?_
                    refine fz_iconst ⟨by decide, by decide⟩ kX6_explore rfl ?_
                    refine fz_iaddN kX6_explore rfl ⟨by decide, by decide⟩ ?_
                    refine fz_eqi (y := 2) rfl ?_
                    refine fz_iload kX6_explore rfl rfl ?_
                    refine fz_aload_n kX6_explore rfl rfl ?_
                    refine fz_getR (t := 34) kX6_explore rfl rfl ?_
                    refine fz_iload kX6_explore rfl rfl ?_
                    obtain ⟨v42, e43⟩ : ∃ z, H10 34 (((y28 * 97) + (hr + (h 3 (x9.toNat)))).toNat) = z := ⟨_, rfl⟩
                    refine fz_ialdV (n := 776) (v := v42) kX6_explore rfl rfl (by omega) (by omega) e43 ?_
                    have b44 : (-2147483648) ≤ v42 ∧ v42 ≤ 2147483647 := by rw [← e43]; exact hI11.1 34 _
                    refine fz_iadd kX6_explore rfl ?_
                    refine fz_nmw (fun z45 e46 => ?_)
                    refine fz_iload kX6_explore rfl rfl ?_
                    refine fz_bipush ⟨by decide, by decide⟩ kX6_explore rfl ?_
                    refine fz_imul kX6_explore rfl ?_
                    refine fz_nmw (fun z47 e48 => ?_)
                    refine fz_iload kX6_explore rfl rfl ?_
                    refine fz_iadd kX6_explore rfl ?_
                    refine fz_nmw (fun z49 e50 => ?_)
                    refine fz_callV (d' := 6) (M' := mX6_explore) (As := [fz_i y28, fz_i (hr + (h 3 (x9.toNat))), fz_i 2, fz_i z45, fz_i z49]) (st := []) kX6_explore rfl rfl vX6_explore rfl rfl rfl rfl (Nat.le_of_ble_eq_true rfl) (Nat.le_of_ble_eq_true rfl) (by decide) (sX6_explore_2 H10 hI11 y28 (hr + (h 3 (x9.toNat))) z45 z49 (by omega) (by omega)) (fun H51 r52 q53 o54 => ?_)
                    obtain ⟨hI55, hf56, rfl⟩ := q53
                    clear o54
                    have hf57 := fz_fr_tr hf12 hf56 (show fz_su [(18, 99999), (19, 99999), (29, 99999), (33, 5), (33, 6), (33, 7), (34, 99999)] [(18, 99999), (19, 99999), (29, 99999), (33, 5), (33, 6), (33, 7), (34, 99999)] = true from rfl)
                    refine fz_iincN (ls' := [(6, fz_i (x9 + 1)), (9, fz_i ((y28 * 97) + (hr + (h 3 (x9.toNat))))), (8, fz_i (hr + (h 3 (x9.toNat)))), (7, fz_i y28), (0, fz_r 33), (1, fz_i fr), (2, fz_i hr), (3, fz_i 1), (4, fz_i su), (5, fz_i rt)]) kX6_explore rfl (by decide) rfl (by omega) rfl ?_
                    refine fz_goto (tgt := 18) kX6_explore rfl (by decide) ?_
                    refine fz_sub (fz_pk_sub (ls' := [(6, fz_i (x9 + 1)), (0, fz_r 33), (1, fz_i fr), (2, fz_i hr), (3, fz_i 1), (4, fz_i su), (5, fz_i rt)]) [0, 4, 5, 6, 7, 8, 9] rfl) ?_
                    exact ih15 (x9 + 1) H51 hI55 hf57 (by omega) (by omega)
                · refine fz_aload_n kX6_explore rfl rfl ?_
                  refine fz_getR (t := 27) kX6_explore rfl rfl ?_
                  refine fz_aload_n kX6_explore rfl rfl ?_
                  refine fz_getV (v := h 33 3) kX6_explore rfl rfl (hf12 33 3 rfl) ?_
                  have b58 : 0 ≤ h 33 3 ∧ h 33 3 ≤ 3 := hI.1 33 _
                  refine fz_aload_n kX6_explore rfl rfl ?_
                  refine fz_getV (v := h 33 3) kX6_explore rfl rfl (hf12 33 3 rfl) ?_
                  refine fz_iload kX6_explore rfl rfl ?_
                  refine fz_aload_n kX6_explore rfl rfl ?_
                  refine fz_getV (v := h 33 4) kX6_explore rfl rfl (hf12 33 4 rfl) ?_
                  refine fz_iload kX6_explore rfl rfl ?_
                  refine fz_iaddN kX6_explore rfl (by omega) ?_
                  refine fz_callV (d' := 4) (M' := mX8_listen) (As := [fz_i (h 33 3), fz_i (h 33 3), fz_i y28, fz_i ((h 33 4) + (hr + (h 3 (x9.toNat))))]) (st := []) kX6_explore rfl rfl vX8_listen rfl rfl rfl rfl (Nat.le_of_ble_eq_true rfl) (Nat.le_of_ble_eq_true rfl) (by decide) (sX8_listen H10 hI11 (h 33 3) (h 33 3) y28 ((h 33 4) + (hr + (h 3 (x9.toNat)))) (by omega)) (fun H59 r60 q61 o62 => ?_)
                  obtain ⟨hI63, hf64, rfl⟩ := q61
                  clear o62
                  have hf65 := fz_fr_tr hf12 hf64 (show fz_su [(18, 99999), (19, 99999), (29, 99999)] [(18, 99999), (19, 99999), (29, 99999), (33, 5), (33, 6), (33, 7), (34, 99999)] = true from rfl)
                  refine fz_aload_n kX6_explore rfl rfl ?_
                  refine fz_getR (t := 34) kX6_explore rfl rfl ?_
                  refine fz_iload kX6_explore rfl rfl ?_
                  refine fz_aload_n kX6_explore rfl rfl ?_
                  refine fz_getR (t := 27) kX6_explore rfl rfl ?_
                  refine fz_callV (d' := 1) (M' := mX8_isArrested) (As := []) (st := [fz_i ((y28 * 97) + (hr + (h 3 (x9.toNat)))), fz_r 34]) kX6_explore rfl rfl vX8_isArrested rfl rfl rfl rfl (Nat.le_of_ble_eq_true rfl) (Nat.le_of_ble_eq_true rfl) (by decide) (sX8_isArrested H59 hI63  ) (fun H66 r67 q68 o69 => ?_)
                  obtain ⟨e70, y71, rfl, p72⟩ := q68
                  subst H66
                  clear o69
                  refine fz_if_eq (tgt := 151) kX6_explore rfl (by decide) (fun c73 => ?_) (fun c73 => ?_)
                  · refine fz_aload_n kX6_explore rfl rfl ?_
                    refine fz_getR (t := 27) kX6_explore rfl rfl ?_
                    refine fz_callV (d' := 0) (M' := mX8_reception) (As := []) (st := [fz_i ((y28 * 97) + (hr + (h 3 (x9.toNat)))), fz_r 34]) kX6_explore rfl rfl vX8_reception rfl rfl rfl rfl (Nat.le_of_ble_eq_true rfl) (Nat.le_of_ble_eq_true rfl) (by decide) (sX8_reception H59 hI63  ) (fun H74 r75 q76 o77 => ?_)
                    obtain ⟨e78, y80, rfl, f79⟩ := q76
                    subst H74
                    clear o77
                    refine fz_iast (n := 776) kX6_explore rfl rfl (by omega) (by omega) ?_
                    refine fz_nmu (S := [(18, 99999), (19, 99999), (29, 99999), (33, 5), (33, 6), (33, 7), (34, 99999)]) (h0 := h) (fz_Iv_up hI63 (by decide) (show ((-2147483648) : Int) ≤ y80 by omega) (show (y80 : Int) ≤ 2147483647 by omega)) (fz_fr_up hf65 rfl) (fun H81 hI82 hf83 e84 => ?_)
                    clear e84
                    refine fz_aload_n kX6_explore rfl rfl ?_
                    refine fz_getR (t := 34) kX6_explore rfl rfl ?_
                    refine fz_iload kX6_explore rfl rfl ?_
                    obtain ⟨v85, e86⟩ : ∃ z, H81 34 (((y28 * 97) + (hr + (h 3 (x9.toNat)))).toNat) = z := ⟨_, rfl⟩
                    refine fz_ialdV (n := 776) (v := v85) kX6_explore rfl rfl (by omega) (by omega) e86 ?_
                    have b87 : (-2147483648) ≤ v85 ∧ v85 ≤ 2147483647 := by rw [← e86]; exact hI82.1 34 _
                    refine fz_ldc (x := (-1999999999)) kX6_explore rfl rfl rfl ?_
                    refine fz_icmp_eq (tgt := 200) kX6_explore rfl (by decide) (fun c88 => ?_) (fun c88 => ?_)
                    · refine fz_iincN (ls' := [(6, fz_i (x9 + 1)), (9, fz_i ((y28 * 97) + (hr + (h 3 (x9.toNat))))), (8, fz_i (hr + (h 3 (x9.toNat)))), (7, fz_i y28), (0, fz_r 33), (1, fz_i fr), (2, fz_i hr), (3, fz_i 1), (4, fz_i su), (5, fz_i rt)]) kX6_explore rfl (by decide) rfl (by omega) rfl ?_
                      refine fz_goto (tgt := 18) kX6_explore rfl (by decide) ?_
                      refine fz_sub (fz_pk_sub (ls' := [(6, fz_i (x9 + 1)), (0, fz_r 33), (1, fz_i fr), (2, fz_i hr), (3, fz_i 1), (4, fz_i su), (5, fz_i rt)]) [0, 4, 5, 6, 7, 8, 9] rfl) ?_
                      exact ih15 (x9 + 1) H81 hI82 hf83 (by omega) (by omega)
                    · refine fz_aload_n kX6_explore rfl rfl ?_
                      refine fz_iload kX6_explore rfl rfl ?_
                      refine fz_iload kX6_explore rfl rfl ?_
                      refine fz_iload_n kX6_explore rfl rfl ?_
                      refine fz_iconst ⟨by decide, by decide⟩ kX6_explore rfl ?_
                      refine fz_iaddN kX6_explore rfl ⟨by decide, by decide⟩ ?_
                      refine fz_eqi (y := 2) rfl ?_
                      refine fz_iload kX6_explore rfl rfl ?_
                      refine fz_aload_n kX6_explore rfl rfl ?_
                      refine fz_getR (t := 34) kX6_explore rfl rfl ?_
                      refine fz_iload kX6_explore rfl rfl ?_
                      obtain ⟨v89, e90⟩ : ∃ z, H81 34 (((y28 * 97) + (hr + (h 3 (x9.toNat)))).toNat) = z := ⟨_, rfl⟩
                      refine fz_ialdV (n := 776) (v := v89) kX6_explore rfl rfl (by omega) (by omega) e90 ?_
                      have b91 : (-2147483648) ≤ v89 ∧ v89 ≤ 2147483647 := by rw [← e90]; exact hI82.1 34 _
                      refine fz_iadd kX6_explore rfl ?_
                      refine fz_nmw (fun z92 e93 => ?_)
                      refine fz_iload kX6_explore rfl rfl ?_
                      refine fz_bipush ⟨by decide, by decide⟩ kX6_explore rfl ?_
                      refine fz_imul kX6_explore rfl ?_
                      refine fz_nmw (fun z94 e95 => ?_)
                      refine fz_iload kX6_explore rfl rfl ?_
                      refine fz_iadd kX6_explore rfl ?_
                      refine fz_nmw (fun z96 e97 => ?_)
                      refine fz_callV (d' := 6) (M' := mX6_explore) (As := [fz_i y28, fz_i (hr + (h 3 (x9.toNat))), fz_i 2, fz_i z92, fz_i z96]) (st := []) kX6_explore rfl rfl vX6_explore rfl rfl rfl rfl (Nat.le_of_ble_eq_true rfl) (Nat.le_of_ble_eq_true rfl) (by decide) (sX6_explore_2 H81 hI82 y28 (hr + (h 3 (x9.toNat))) z92 z96 (by omega) (by omega)) (fun H98 r99 q100 o101 => ?_)
                      obtain ⟨hI102, hf103, rfl⟩ := q100
                      clear o101
                      have hf104 := fz_fr_tr hf83 hf103 (show fz_su [(18, 99999), (19, 99999), (29, 99999), (33, 5), (33, 6), (33, 7), (34, 99999)] [(18, 99999), (19, 99999), (29, 99999), (33, 5), (33, 6), (33, 7), (34, 99999)] = true from rfl)
                      refine fz_iincN (ls' := [(6, fz_i (x9 + 1)), (9, fz_i ((y28 * 97) + (hr + (h 3 (x9.toNat))))), (8, fz_i (hr + (h 3 (x9.toNat)))), (7, fz_i y28), (0, fz_r 33), (1, fz_i fr), (2, fz_i hr), (3, fz_i 1), (4, fz_i su), (5, fz_i rt)]) kX6_explore rfl (by decide) rfl (by omega) rfl ?_
                      refine fz_goto (tgt := 18) kX6_explore rfl (by decide) ?_
                      refine fz_sub (fz_pk_sub (ls' := [(6, fz_i (x9 + 1)), (0, fz_r 33), (1, fz_i fr), (2, fz_i hr), (3, fz_i 1), (4, fz_i su), (5, fz_i rt)]) [0, 4, 5, 6, 7, 8, 9] rfl) ?_
                      exact ih15 (x9 + 1) H98 hI102 hf104 (by omega) (by omega)
                  · refine fz_ldc (x := (-1999999999)) kX6_explore rfl rfl rfl ?_
                    refine fz_goto (tgt := 158) kX6_explore rfl (by decide) ?_
                    refine fz_iast (n := 776) kX6_explore rfl rfl (by omega) (by omega) ?_
                    refine fz_nmu (S := [(18, 99999), (19, 99999), (29, 99999), (33, 5), (33, 6), (33, 7), (34, 99999)]) (h0 := h) (fz_Iv_up hI63 (by decide) (show ((-2147483648) : Int) ≤ (-1999999999) by decide) (show ((-1999999999) : Int) ≤ 2147483647 by decide)) (fz_fr_up hf65 rfl) (fun H105 hI106 hf107 e108 => ?_)
                    clear e108
                    refine fz_aload_n kX6_explore rfl rfl ?_
                    refine fz_getR (t := 34) kX6_explore rfl rfl ?_
                    refine fz_iload kX6_explore rfl rfl ?_
                    obtain ⟨v109, e110⟩ : ∃ z, H105 34 (((y28 * 97) + (hr + (h 3 (x9.toNat)))).toNat) = z := ⟨_, rfl⟩
                    refine fz_ialdV (n := 776) (v := v109) kX6_explore rfl rfl (by omega) (by omega) e110 ?_
                    have b111 : (-2147483648) ≤ v109 ∧ v109 ≤ 2147483647 := by rw [← e110]; exact hI106.1 34 _
                    refine fz_ldc (x := (-1999999999)) kX6_explore rfl rfl rfl ?_
                    refine fz_icmp_eq (tgt := 200) kX6_explore rfl (by decide) (fun c112 => ?_) (fun c112 => ?_)
                    · refine fz_iincN (ls' := [(6, fz_i (x9 + 1)), (9, fz_i ((y28 * 97) + (hr + (h 3 (x9.toNat))))), (8, fz_i (hr + (h 3 (x9.toNat)))), (7, fz_i y28), (0, fz_r 33), (1, fz_i fr), (2, fz_i hr), (3, fz_i 1), (4, fz_i su), (5, fz_i rt)]) kX6_explore rfl (by decide) rfl (by omega) rfl ?_
                      refine fz_goto (tgt := 18) kX6_explore rfl (by decide) ?_
                      refine fz_sub (fz_pk_sub (ls' := [(6, fz_i (x9 + 1)), (0, fz_r 33), (1, fz_i fr), (2, fz_i hr), (3, fz_i 1), (4, fz_i su), (5, fz_i rt)]) [0, 4, 5, 6, 7, 8, 9] rfl) ?_
                      exact ih15 (x9 + 1) H105 hI106 hf107 (by omega) (by omega)
                    · refine fz_aload_n kX6_explore rfl rfl ?_
                      refine fz_iload kX6_explore rfl rfl ?_
                      refine fz_iload kX6_explore rfl rfl ?_
                      refine fz_iload_n kX6_explore rfl rfl ?_
                      refine fz_iconst ⟨by decide, by decide⟩ kX6_explore rfl ?_
                      refine fz_iaddN kX6_explore rfl ⟨by decide, by decide⟩ ?_
                      refine fz_eqi (y := 2) rfl ?_
                      refine fz_iload kX6_explore rfl rfl ?_
                      refine fz_aload_n kX6_explore rfl rfl ?_
                      refine fz_getR (t := 34) kX6_explore rfl rfl ?_
                      refine fz_iload kX6_explore rfl rfl ?_
                      obtain ⟨v113, e114⟩ : ∃ z, H105 34 (((y28 * 97) + (hr + (h 3 (x9.toNat)))).toNat) = z := ⟨_, rfl⟩
                      refine fz_ialdV (n := 776) (v := v113) kX6_explore rfl rfl (by omega) (by omega) e114 ?_
                      have b115 : (-2147483648) ≤ v113 ∧ v113 ≤ 2147483647 := by rw [← e114]; exact hI106.1 34 _
                      refine fz_iadd kX6_explore rfl ?_
                      refine fz_nmw (fun z116 e117 => ?_)
                      refine fz_iload kX6_explore rfl rfl ?_
                      refine fz_bipush ⟨by decide, by decide⟩ kX6_explore rfl ?_
                      refine fz_imul kX6_explore rfl ?_
                      refine fz_nmw (fun z118 e119 => ?_)
                      refine fz_iload kX6_explore rfl rfl ?_
                      refine fz_iadd kX6_explore rfl ?_
                      refine fz_nmw (fun z120 e121 => ?_)
                      refine fz_callV (d' := 6) (M' := mX6_explore) (As := [fz_i y28, fz_i (hr + (h 3 (x9.toNat))), fz_i 2, fz_i z116, fz_i z120]) (st := []) kX6_explore rfl rfl vX6_explore rfl rfl rfl rfl (Nat.le_of_ble_eq_true rfl) (Nat.le_of_ble_eq_true rfl) (by decide) (sX6_explore_2 H105 hI106 y28 (hr + (h 3 (x9.toNat))) z116 z120 (by omega) (by omega)) (fun H122 r123 q124 o125 => ?_)
                      obtain ⟨hI126, hf127, rfl⟩ := q124
                      clear o125
                      have hf128 := fz_fr_tr hf107 hf127 (show fz_su [(18, 99999), (19, 99999), (29, 99999), (33, 5), (33, 6), (33, 7), (34, 99999)] [(18, 99999), (19, 99999), (29, 99999), (33, 5), (33, 6), (33, 7), (34, 99999)] = true from rfl)
                      refine fz_iincN (ls' := [(6, fz_i (x9 + 1)), (9, fz_i ((y28 * 97) + (hr + (h 3 (x9.toNat))))), (8, fz_i (hr + (h 3 (x9.toNat)))), (7, fz_i y28), (0, fz_r 33), (1, fz_i fr), (2, fz_i hr), (3, fz_i 1), (4, fz_i su), (5, fz_i rt)]) kX6_explore rfl (by decide) rfl (by omega) rfl ?_
                      refine fz_goto (tgt := 18) kX6_explore rfl (by decide) ?_
                      refine fz_sub (fz_pk_sub (ls' := [(6, fz_i (x9 + 1)), (0, fz_r 33), (1, fz_i fr), (2, fz_i hr), (3, fz_i 1), (4, fz_i su), (5, fz_i rt)]) [0, 4, 5, 6, 7, 8, 9] rfl) ?_
                      exact ih15 (x9 + 1) H122 hI126 hf128 (by omega) (by omega)
              · refine fz_goto (tgt := 200) kX6_explore rfl (by decide) ?_
                refine fz_iincN (ls' := [(6, fz_i (x9 + 1)), (8, fz_i (hr + (h 3 (x9.toNat)))), (7, fz_i y28), (0, fz_r 33), (1, fz_i fr), (2, fz_i hr), (3, fz_i 1), (4, fz_i su), (5, fz_i rt)]) kX6_explore rfl (by decide) rfl (by omega) rfl ?_
                refine fz_goto (tgt := 18) kX6_explore rfl (by decide) ?_
                refine fz_sub (fz_pk_sub (ls' := [(6, fz_i (x9 + 1)), (0, fz_r 33), (1, fz_i fr), (2, fz_i hr), (3, fz_i 1), (4, fz_i su), (5, fz_i rt)]) [0, 3, 4, 5, 6, 7, 8] rfl) ?_
                exact ih15 (x9 + 1) H10 hI11 hf12 (by omega) (by omega)
    exact lp14 _ 0 H1 hI5 hf7 (by omega) (Nat.lt_succ_self _)
  · exfalso; omega

abbrev qX6_explore_0 (h : fz_H) (fr hr su rt : Int) : fz_H → Option fz_V → Prop := fun h' r0 => fz_Iv h' ∧ fz_fr [(18, 99999), (19, 99999), (29, 99999), (33, 5), (33, 6), (33, 7), (34, 99999)] h h' ∧ r0 = none
set_option maxHeartbeats 1000000 in
set_option maxRecDepth 100000 in
theorem sX6_explore_0 (h : fz_H) (hI : fz_Iv h) (fr hr su rt : Int) (hp0 : 0 ≤ fr ∧ fr < 8) (hp1 : 0 ≤ hr ∧ hr ≤ 96) : fz_R 8 mX6_explore 0 [(0, fz_r 33), (1, fz_i fr), (2, fz_i hr), (3, fz_i 0), (4, fz_i su), (5, fz_i rt)] [] h (qX6_explore_0 h fr hr su rt) := by
  refine fz_knowl (fun hk => ?_)
  have hr_fr : -2147483648 ≤ fr ∧ fr < 2147483648 := hk _ (List.Mem.tail _ (List.Mem.head _))
  have hr_hr : -2147483648 ≤ hr ∧ hr < 2147483648 := hk _ (List.Mem.tail _ (List.Mem.tail _ (List.Mem.head _)))
  have hr_su : -2147483648 ≤ su ∧ su < 2147483648 := hk _ (List.Mem.tail _ (List.Mem.tail _ (List.Mem.tail _ (List.Mem.tail _ (List.Mem.head _)))))
  have hr_rt : -2147483648 ≤ rt ∧ rt < 2147483648 := hk _ (List.Mem.tail _ (List.Mem.tail _ (List.Mem.tail _ (List.Mem.tail _ (List.Mem.tail _ (List.Mem.head _))))))
  clear hk
  have hf : fz_fr [(18, 99999), (19, 99999), (29, 99999), (33, 5), (33, 6), (33, 7), (34, 99999)] h h := fz_fr_rf
  refine fz_aload_n kX6_explore rfl rfl ?_
  refine fz_iload_n kX6_explore rfl rfl ?_
  refine fz_iload kX6_explore rfl rfl ?_
  refine fz_iload kX6_explore rfl rfl ?_
  refine fz_callV (d' := 0) (M' := mX6_compare) (As := [fz_i 0, fz_i su, fz_i rt]) (st := []) kX6_explore rfl rfl vX6_compare rfl rfl rfl rfl (Nat.le_of_ble_eq_true rfl) (Nat.le_of_ble_eq_true rfl) (by decide) (sX6_compare h hI 0 su rt (by omega)) (fun H1 r2 q3 o4 => ?_)
  obtain ⟨hI5, hf6, rfl⟩ := q3
  clear o4
  have hf7 := fz_fr_tr hf hf6 (show fz_su [(33, 5), (33, 6), (33, 7)] [(18, 99999), (19, 99999), (29, 99999), (33, 5), (33, 6), (33, 7), (34, 99999)] = true from rfl)
  refine fz_iload_n kX6_explore rfl rfl ?_
  refine fz_iconst ⟨by decide, by decide⟩ kX6_explore rfl ?_
  refine fz_icmp_lt (tgt := 15) kX6_explore rfl (by decide) (fun c8 => ?_) (fun c8 => ?_)
  · refine fz_iconst ⟨by decide, by decide⟩ kX6_explore rfl ?_
    refine fz_istore (ls' := [(6, fz_i 0), (0, fz_r 33), (1, fz_i fr), (2, fz_i hr), (3, fz_i 0), (4, fz_i su), (5, fz_i rt)]) kX6_explore rfl (by decide) rfl ?_
    have lp14 : ∀ (n13 : Nat) (x9 : Int) (H10 : fz_H), fz_Iv H10 → fz_fr [(18, 99999), (19, 99999), (29, 99999), (33, 5), (33, 6), (33, 7), (34, 99999)] h H10 → (0 ≤ x9 ∧ x9 ≤ 2147483647) → ((h 1 8) - x9).toNat < n13 → fz_R 8 mX6_explore 18 [(6, fz_i x9), (0, fz_r 33), (1, fz_i fr), (2, fz_i hr), (3, fz_i 0), (4, fz_i su), (5, fz_i rt)] [] H10 (qX6_explore_0 h fr hr su rt) := by
      intro n13
      induction n13 with
      | zero => intro x9 H10 hI11 hf12 hv17 hm16; exact absurd hm16 (by omega)
      | succ n13 ih15 =>
        intro x9 H10 hI11 hf12 hv17 hm16
        refine fz_iload kX6_explore rfl rfl ?_
        refine fz_aload_n kX6_explore rfl rfl ?_
        refine fz_getR (t := 1) kX6_explore rfl rfl ?_
        refine fz_getV (v := h 1 8) kX6_explore rfl rfl (hf12 1 8 rfl) ?_
        have b18 : 0 ≤ h 1 8 ∧ h 1 8 ≤ 12 := hI.1 1 _
        refine fz_icmp_ge (tgt := 206) kX6_explore rfl (by decide) (fun c19 => ?_) (fun c19 => ?_)
        · exact fz_vret kX6_explore rfl rfl ⟨hI11, hf12, rfl⟩
        · refine fz_aload_n kX6_explore rfl rfl ?_
          refine fz_getR (t := 1) kX6_explore rfl rfl ?_
          refine fz_iload kX6_explore rfl rfl ?_
          refine fz_iload_n kX6_explore rfl rfl ?_
          refine fz_callV (d' := 0) (M' := mX2_acrossFrom) (As := [fz_i x9, fz_i fr]) (st := []) kX6_explore rfl rfl vX2_acrossFrom rfl rfl rfl rfl (Nat.le_of_ble_eq_true rfl) (Nat.le_of_ble_eq_true rfl) (by decide) (sX2_acrossFrom H10 hI11 x9 fr (by omega)) (fun H20 r21 q22 o23 => ?_)
          obtain ⟨e24, y28, rfl, f25, f26, f27⟩ := q22
          subst H20
          clear o23
          refine fz_istore (ls' := [(7, fz_i y28), (6, fz_i x9), (0, fz_r 33), (1, fz_i fr), (2, fz_i hr), (3, fz_i 0), (4, fz_i su), (5, fz_i rt)]) kX6_explore rfl (by decide) rfl ?_
          refine fz_iload_n kX6_explore rfl rfl ?_
          refine fz_aload_n kX6_explore rfl rfl ?_
          refine fz_getR (t := 1) kX6_explore rfl rfl ?_
          refine fz_getR (t := 3) kX6_explore rfl rfl ?_
          refine fz_iload kX6_explore rfl rfl ?_
          refine fz_ialdV (n := 12) (v := h 3 (x9.toNat)) kX6_explore rfl rfl (by omega) (by omega) (hf12 3 _ rfl) ?_
          have b29 : 0 ≤ h 3 (x9.toNat) ∧ h 3 (x9.toNat) ≤ 24 := hI.1 3 _
          refine fz_iaddN kX6_explore rfl (by omega) ?_
          refine fz_istore (ls' := [(8, fz_i (hr + (h 3 (x9.toNat)))), (7, fz_i y28), (6, fz_i x9), (0, fz_r 33), (1, fz_i fr), (2, fz_i hr), (3, fz_i 0), (4, fz_i su), (5, fz_i rt)]) kX6_explore rfl (by decide) rfl ?_
          refine fz_iload kX6_explore rfl rfl ?_
          refine fz_if_lt (tgt := 200) kX6_explore rfl (by decide) (fun c30 => ?_) (fun c30 => ?_)
          · refine fz_iincN (ls' := [(6, fz_i (x9 + 1)), (8, fz_i (hr + (h 3 (x9.toNat)))), (7, fz_i y28), (0, fz_r 33), (1, fz_i fr), (2, fz_i hr), (3, fz_i 0), (4, fz_i su), (5, fz_i rt)]) kX6_explore rfl (by decide) rfl (by omega) rfl ?_
            refine fz_goto (tgt := 18) kX6_explore rfl (by decide) ?_
            refine fz_sub (fz_pk_sub (ls' := [(6, fz_i (x9 + 1)), (0, fz_r 33), (1, fz_i fr), (2, fz_i hr), (3, fz_i 0), (4, fz_i su), (5, fz_i rt)]) [0, 3, 4, 5, 6, 7, 8] rfl) ?_
            exact ih15 (x9 + 1) H10 hI11 hf12 (by omega) (by omega)
          · refine fz_iload kX6_explore rfl rfl ?_
            refine fz_bipush ⟨by decide, by decide⟩ kX6_explore rfl ?_
            refine fz_icmp_ge (tgt := 200) kX6_explore rfl (by decide) (fun c31 => ?_) (fun c31 => ?_)
            · refine fz_iincN (ls' := [(6, fz_i (x9 + 1)), (8, fz_i (hr + (h 3 (x9.toNat)))), (7, fz_i y28), (0, fz_r 33), (1, fz_i fr), (2, fz_i hr), (3, fz_i 0), (4, fz_i su), (5, fz_i rt)]) kX6_explore rfl (by decide) rfl (by omega) rfl ?_
              refine fz_goto (tgt := 18) kX6_explore rfl (by decide) ?_
              refine fz_sub (fz_pk_sub (ls' := [(6, fz_i (x9 + 1)), (0, fz_r 33), (1, fz_i fr), (2, fz_i hr), (3, fz_i 0), (4, fz_i su), (5, fz_i rt)]) [0, 3, 4, 5, 6, 7, 8] rfl) ?_
              exact ih15 (x9 + 1) H10 hI11 hf12 (by omega) (by omega)
            · refine fz_aload_n kX6_explore rfl rfl ?_
              refine fz_getV (v := h 33 4) kX6_explore rfl rfl (hf12 33 4 rfl) ?_
              have b32 : 0 ≤ h 33 4 ∧ h 33 4 ≤ 999 := hI.1 33 _
              refine fz_iload kX6_explore rfl rfl ?_
              refine fz_iaddN kX6_explore rfl (by omega) ?_
              refine fz_sipush ⟨by decide, by decide⟩ kX6_explore rfl ?_
              refine fz_icmp_le (tgt := 84) kX6_explore rfl (by decide) (fun c33 => ?_) (fun c33 => ?_)
              · refine fz_iload kX6_explore rfl rfl ?_
                refine fz_bipush ⟨by decide, by decide⟩ kX6_explore rfl ?_
                refine fz_imulN kX6_explore rfl (by omega) ?_
                refine fz_iload kX6_explore rfl rfl ?_
                refine fz_iaddN kX6_explore rfl (by omega) ?_
                refine fz_istore (ls' := [(9, fz_i ((y28 * 97) + (hr + (h 3 (x9.toNat))))), (8, fz_i (hr + (h 3 (x9.toNat)))), (7, fz_i y28), (6, fz_i x9), (0, fz_r 33), (1, fz_i fr), (2, fz_i hr), (3, fz_i 0), (4, fz_i su), (5, fz_i rt)]) kX6_explore rfl (by decide) rfl ?_
                refine fz_aload_n kX6_explore rfl rfl ?_
                refine fz_getR (t := 34) kX6_explore rfl rfl ?_
                refine fz_iload kX6_explore rfl rfl ?_
                obtain ⟨v34, e35⟩ : ∃ z, H10 34 (((y28 * 97) + (hr + (h 3 (x9.toNat)))).toNat) = z := ⟨_, rfl⟩
                refine fz_ialdV (n := 776) (v := v34) kX6_explore rfl rfl (by omega) (by omega) e35 ?_
                have b36 : (-2147483648) ≤ v34 ∧ v34 ≤ 2147483647 := by rw [← e35]; exact hI11.1 34 _
                refine fz_ldc (x := (-2000000000)) kX6_explore rfl rfl rfl ?_
                refine fz_icmp_ne (tgt := 159) kX6_explore rfl (by decide) (fun c37 => ?_) (fun c37 => ?_)
                · refine fz_aload_n kX6_explore rfl rfl ?_
                  refine fz_getR (t := 34) kX6_explore rfl rfl ?_
                  refine fz_iload kX6_explore rfl rfl ?_
                  obtain ⟨v38, e39⟩ : ∃ z, H10 34 (((y28 * 97) + (hr + (h 3 (x9.toNat)))).toNat) = z := ⟨_, rfl⟩
                  refine fz_ialdV (n := 776) (v := v38) kX6_explore rfl rfl (by omega) (by omega) e39 ?_
                  have b40 : (-2147483648) ≤ v38 ∧ v38 ≤ 2147483647 := by rw [← e39]; exact hI11.1 34 _
                  refine fz_ldc (x := (-1999999999)) kX6_explore rfl rfl rfl ?_
                  refine fz_icmp_eq (tgt := 200) kX6_explore rfl (by decide) (fun c41 => ?_) (fun c41 => ?_)
                  · refine fz_iincN (ls' := [(6, fz_i (x9 + 1)), (9, fz_i ((y28 * 97) + (hr + (h 3 (x9.toNat))))), (8, fz_i (hr + (h 3 (x9.toNat)))), (7, fz_i y28), (0, fz_r 33), (1, fz_i fr), (2, fz_i hr), (3, fz_i 0), (4, fz_i su), (5, fz_i rt)]) kX6_explore rfl (by decide) rfl (by omega) rfl ?_
                    refine fz_goto (tgt := 18) kX6_explore rfl (by decide) ?_
                    refine fz_sub (fz_pk_sub (ls' := [(6, fz_i (x9 + 1)), (0, fz_r 33), (1, fz_i fr), (2, fz_i hr), (3, fz_i 0), (4, fz_i su), (5, fz_i rt)]) [0, 4, 5, 6, 7, 8, 9] rfl) ?_
                    exact ih15 (x9 + 1) H10 hI11 hf12 (by omega) (by omega)
                  · refine fz_aload_n kX6_explore rfl rfl ?_
                    refine fz_iload kX6_explore rfl rfl ?_
                    refine fz_iload kX6_explore rfl rfl ?_
                    refine fz_iload_n kX6_explore rfl rfl ?_
                    refine fz_iconst ⟨by decide, by decide⟩ kX6_explore rfl ?_
                    refine fz_iaddN kX6_explore rfl ⟨by decide, by decide⟩ ?_
                    refine fz_eqi (y := 1) rfl ?_
                    refine fz_iload kX6_explore rfl rfl ?_
                    refine fz_aload_n kX6_explore rfl rfl ?_
                    refine fz_getR (t := 34) kX6_explore rfl rfl ?_
                    refine fz_iload kX6_explore rfl rfl ?_
                    obtain ⟨v42, e43⟩ : ∃ z, H10 34 (((y28 * 97) + (hr + (h 3 (x9.toNat)))).toNat) = z := ⟨_, rfl⟩
                    refine fz_ialdV (n := 776) (v := v42) kX6_explore rfl rfl (by omega) (by omega) e43 ?_
                    have b44 : (-2147483648) ≤ v42 ∧ v42 ≤ 2147483647 := by rw [← e43]; exact hI11.1 34 _
                    refine fz_iadd kX6_explore rfl ?_
                    refine fz_nmw (fun z45 e46 => ?_)
                    refine fz_iload kX6_explore rfl rfl ?_
                    refine fz_bipush ⟨by decide, by decide⟩ kX6_explore rfl ?_
                    refine fz_imul kX6_explore rfl ?_
                    refine fz_nmw (fun z47 e48 => ?_)
                    refine fz_iload kX6_explore rfl rfl ?_
                    refine fz_iadd kX6_explore rfl ?_
                    refine fz_nmw (fun z49 e50 => ?_)
                    refine fz_callV (d' := 7) (M' := mX6_explore) (As := [fz_i y28, fz_i (hr + (h 3 (x9.toNat))), fz_i 1, fz_i z45, fz_i z49]) (st := []) kX6_explore rfl rfl vX6_explore rfl rfl rfl rfl (Nat.le_of_ble_eq_true rfl) (Nat.le_of_ble_eq_true rfl) (by decide) (sX6_explore_1 H10 hI11 y28 (hr + (h 3 (x9.toNat))) z45 z49 (by omega) (by omega)) (fun H51 r52 q53 o54 => ?_)
                    obtain ⟨hI55, hf56, rfl⟩ := q53
                    clear o54
                    have hf57 := fz_fr_tr hf12 hf56 (show fz_su [(18, 99999), (19, 99999), (29, 99999), (33, 5), (33, 6), (33, 7), (34, 99999)] [(18, 99999), (19, 99999), (29, 99999), (33, 5), (33, 6), (33, 7), (34, 99999)] = true from rfl)
                    refine fz_iincN (ls' := [(6, fz_i (x9 + 1)), (9, fz_i ((y28 * 97) + (hr + (h 3 (x9.toNat))))), (8, fz_i (hr + (h 3 (x9.toNat)))), (7, fz_i y28), (0, fz_r 33), (1, fz_i fr), (2, fz_i hr), (3, fz_i 0), (4, fz_i su), (5, fz_i rt)]) kX6_explore rfl (by decide) rfl (by omega) rfl ?_
                    refine fz_goto (tgt := 18) kX6_explore rfl (by decide) ?_
                    refine fz_sub (fz_pk_sub (ls' := [(6, fz_i (x9 + 1)), (0, fz_r 33), (1, fz_i fr), (2, fz_i hr), (3, fz_i 0), (4, fz_i su), (5, fz_i rt)]) [0, 4, 5, 6, 7, 8, 9] rfl) ?_
                    exact ih15 (x9 + 1) H51 hI55 hf57 (by omega) (by omega)
                · refine fz_aload_n kX6_explore rfl rfl ?_
                  refine fz_getR (t := 27) kX6_explore rfl rfl ?_
                  refine fz_aload_n kX6_explore rfl rfl ?_
                  refine fz_getV (v := h 33 3) kX6_explore rfl rfl (hf12 33 3 rfl) ?_
                  have b58 : 0 ≤ h 33 3 ∧ h 33 3 ≤ 3 := hI.1 33 _
                  refine fz_aload_n kX6_explore rfl rfl ?_
                  refine fz_getV (v := h 33 3) kX6_explore rfl rfl (hf12 33 3 rfl) ?_
                  refine fz_iload kX6_explore rfl rfl ?_
                  refine fz_aload_n kX6_explore rfl rfl ?_
                  refine fz_getV (v := h 33 4) kX6_explore rfl rfl (hf12 33 4 rfl) ?_
                  refine fz_iload kX6_explore rfl rfl ?_
                  refine fz_iaddN kX6_explore rfl (by omega) ?_
                  refine fz_callV (d' := 4) (M' := mX8_listen) (As := [fz_i (h 33 3), fz_i (h 33 3), fz_i y28, fz_i ((h 33 4) + (hr + (h 3 (x9.toNat))))]) (st := []) kX6_explore rfl rfl vX8_listen rfl rfl rfl rfl (Nat.le_of_ble_eq_true rfl) (Nat.le_of_ble_eq_true rfl) (by decide) (sX8_listen H10 hI11 (h 33 3) (h 33 3) y28 ((h 33 4) + (hr + (h 3 (x9.toNat)))) (by omega)) (fun H59 r60 q61 o62 => ?_)
                  obtain ⟨hI63, hf64, rfl⟩ := q61
                  clear o62
                  have hf65 := fz_fr_tr hf12 hf64 (show fz_su [(18, 99999), (19, 99999), (29, 99999)] [(18, 99999), (19, 99999), (29, 99999), (33, 5), (33, 6), (33, 7), (34, 99999)] = true from rfl)
                  refine fz_aload_n kX6_explore rfl rfl ?_
                  refine fz_getR (t := 34) kX6_explore rfl rfl ?_
                  refine fz_iload kX6_explore rfl rfl ?_
                  refine fz_aload_n kX6_explore rfl rfl ?_
                  refine fz_getR (t := 27) kX6_explore rfl rfl ?_
                  refine fz_callV (d' := 1) (M' := mX8_isArrested) (As := []) (st := [fz_i ((y28 * 97) + (hr + (h 3 (x9.toNat)))), fz_r 34]) kX6_explore rfl rfl vX8_isArrested rfl rfl rfl rfl (Nat.le_of_ble_eq_true rfl) (Nat.le_of_ble_eq_true rfl) (by decide) (sX8_isArrested H59 hI63  ) (fun H66 r67 q68 o69 => ?_)
                  obtain ⟨e70, y71, rfl, p72⟩ := q68
                  subst H66
                  clear o69
                  refine fz_if_eq (tgt := 151) kX6_explore rfl (by decide) (fun c73 => ?_) (fun c73 => ?_)
                  · refine fz_aload_n kX6_explore rfl rfl ?_
                    refine fz_getR (t := 27) kX6_explore rfl rfl ?_
                    refine fz_callV (d' := 0) (M' := mX8_reception) (As := []) (st := [fz_i ((y28 * 97) + (hr + (h 3 (x9.toNat)))), fz_r 34]) kX6_explore rfl rfl vX8_reception rfl rfl rfl rfl (Nat.le_of_ble_eq_true rfl) (Nat.le_of_ble_eq_true rfl) (by decide) (sX8_reception H59 hI63  ) (fun H74 r75 q76 o77 => ?_)
                    obtain ⟨e78, y80, rfl, f79⟩ := q76
                    subst H74
                    clear o77
                    refine fz_iast (n := 776) kX6_explore rfl rfl (by omega) (by omega) ?_
                    refine fz_nmu (S := [(18, 99999), (19, 99999), (29, 99999), (33, 5), (33, 6), (33, 7), (34, 99999)]) (h0 := h) (fz_Iv_up hI63 (by decide) (show ((-2147483648) : Int) ≤ y80 by omega) (show (y80 : Int) ≤ 2147483647 by omega)) (fz_fr_up hf65 rfl) (fun H81 hI82 hf83 e84 => ?_)
                    clear e84
                    refine fz_aload_n kX6_explore rfl rfl ?_
                    refine fz_getR (t := 34) kX6_explore rfl rfl ?_
                    refine fz_iload kX6_explore rfl rfl ?_
                    obtain ⟨v85, e86⟩ : ∃ z, H81 34 (((y28 * 97) + (hr + (h 3 (x9.toNat)))).toNat) = z := ⟨_, rfl⟩
                    refine fz_ialdV (n := 776) (v := v85) kX6_explore rfl rfl (by omega) (by omega) e86 ?_
                    have b87 : (-2147483648) ≤ v85 ∧ v85 ≤ 2147483647 := by rw [← e86]; exact hI82.1 34 _
                    refine fz_ldc (x := (-1999999999)) kX6_explore rfl rfl rfl ?_
                    refine fz_icmp_eq (tgt := 200) kX6_explore rfl (by decide) (fun c88 => ?_) (fun c88 => ?_)
                    · refine fz_iincN (ls' := [(6, fz_i (x9 + 1)), (9, fz_i ((y28 * 97) + (hr + (h 3 (x9.toNat))))), (8, fz_i (hr + (h 3 (x9.toNat)))), (7, fz_i y28), (0, fz_r 33), (1, fz_i fr), (2, fz_i hr), (3, fz_i 0), (4, fz_i su), (5, fz_i rt)]) kX6_explore rfl (by decide) rfl (by omega) rfl ?_
                      refine fz_goto (tgt := 18) kX6_explore rfl (by decide) ?_
                      refine fz_sub (fz_pk_sub (ls' := [(6, fz_i (x9 + 1)), (0, fz_r 33), (1, fz_i fr), (2, fz_i hr), (3, fz_i 0), (4, fz_i su), (5, fz_i rt)]) [0, 4, 5, 6, 7, 8, 9] rfl) ?_
                      exact ih15 (x9 + 1) H81 hI82 hf83 (by omega) (by omega)
                    · refine fz_aload_n kX6_explore rfl rfl ?_
                      refine fz_iload kX6_explore rfl rfl ?_
                      refine fz_iload kX6_explore rfl rfl ?_
                      refine fz_iload_n kX6_explore rfl rfl ?_
                      refine fz_iconst ⟨by decide, by decide⟩ kX6_explore rfl ?_
                      refine fz_iaddN kX6_explore rfl ⟨by decide, by decide⟩ ?_
                      refine fz_eqi (y := 1) rfl ?_
                      refine fz_iload kX6_explore rfl rfl ?_
                      refine fz_aload_n kX6_explore rfl rfl ?_
                      refine fz_getR (t := 34) kX6_explore rfl rfl ?_
                      refine fz_iload kX6_explore rfl rfl ?_
                      obtain ⟨v89, e90⟩ : ∃ z, H81 34 (((y28 * 97) + (hr + (h 3 (x9.toNat)))).toNat) = z := ⟨_, rfl⟩
                      refine fz_ialdV (n := 776) (v := v89) kX6_explore rfl rfl (by omega) (by omega) e90 ?_
                      have b91 : (-2147483648) ≤ v89 ∧ v89 ≤ 2147483647 := by rw [← e90]; exact hI82.1 34 _
                      refine fz_iadd kX6_explore rfl ?_
                      refine fz_nmw (fun z92 e93 => ?_)
                      refine fz_iload kX6_explore rfl rfl ?_
                      refine fz_bipush ⟨by decide, by decide⟩ kX6_explore rfl ?_
                      refine fz_imul kX6_explore rfl ?_
                      refine fz_nmw (fun z94 e95 => ?_)
                      refine fz_iload kX6_explore rfl rfl ?_
                      refine fz_iadd kX6_explore rfl ?_
                      refine fz_nmw (fun z96 e97 => ?_)
                      refine fz_callV (d' := 7) (M' := mX6_explore) (As := [fz_i y28, fz_i (hr + (h 3 (x9.toNat))), fz_i 1, fz_i z92, fz_i z96]) (st := []) kX6_explore rfl rfl vX6_explore rfl rfl rfl rfl (Nat.le_of_ble_eq_true rfl) (Nat.le_of_ble_eq_true rfl) (by decide) (sX6_explore_1 H81 hI82 y28 (hr + (h 3 (x9.toNat))) z92 z96 (by omega) (by omega)) (fun H98 r99 q100 o101 => ?_)
                      obtain ⟨hI102, hf103, rfl⟩ := q100
                      clear o101
                      have hf104 := fz_fr_tr hf83 hf103 (show fz_su [(18, 99999), (19, 99999), (29, 99999), (33, 5), (33, 6), (33, 7), (34, 99999)] [(18, 99999), (19, 99999), (29, 99999), (33, 5), (33, 6), (33, 7), (34, 99999)] = true from rfl)
                      refine fz_iincN (ls' := [(6, fz_i (x9 + 1)), (9, fz_i ((y28 * 97) + (hr + (h 3 (x9.toNat))))), (8, fz_i (hr + (h 3 (x9.toNat)))), (7, fz_i y28), (0, fz_r 33), (1, fz_i fr), (2, fz_i hr), (3, fz_i 0), (4, fz_i su), (5, fz_i rt)]) kX6_explore rfl (by decide) rfl (by omega) rfl ?_
                      refine fz_goto (tgt := 18) kX6_explore rfl (by decide) ?_
                      refine fz_sub (fz_pk_sub (ls' := [(6, fz_i (x9 + 1)), (0, fz_r 33), (1, fz_i fr), (2, fz_i hr), (3, fz_i 0), (4, fz_i su), (5, fz_i rt)]) [0, 4, 5, 6, 7, 8, 9] rfl) ?_
                      exact ih15 (x9 + 1) H98 hI102 hf104 (by omega) (by omega)
                  · refine fz_ldc (x := (-1999999999)) kX6_explore rfl rfl rfl ?_
                    refine fz_goto (tgt := 158) kX6_explore rfl (by decide) ?_
                    refine fz_iast (n := 776) kX6_explore rfl rfl (by omega) (by omega) ?_
                    refine fz_nmu (S := [(18, 99999), (19, 99999), (29, 99999), (33, 5), (33, 6), (33, 7), (34, 99999)]) (h0 := h) (fz_Iv_up hI63 (by decide) (show ((-2147483648) : Int) ≤ (-1999999999) by decide) (show ((-1999999999) : Int) ≤ 2147483647 by decide)) (fz_fr_up hf65 rfl) (fun H105 hI106 hf107 e108 => ?_)
                    clear e108
                    refine fz_aload_n kX6_explore rfl rfl ?_
                    refine fz_getR (t := 34) kX6_explore rfl rfl ?_
                    refine fz_iload kX6_explore rfl rfl ?_
                    obtain ⟨v109, e110⟩ : ∃ z, H105 34 (((y28 * 97) + (hr + (h 3 (x9.toNat)))).toNat) = z := ⟨_, rfl⟩
                    refine fz_ialdV (n := 776) (v := v109) kX6_explore rfl rfl (by omega) (by omega) e110 ?_
                    have b111 : (-2147483648) ≤ v109 ∧ v109 ≤ 2147483647 := by rw [← e110]; exact hI106.1 34 _
                    refine fz_ldc (x := (-1999999999)) kX6_explore rfl rfl rfl ?_
                    refine fz_icmp_eq (tgt := 200) kX6_explore rfl (by decide) (fun c112 => ?_) (fun c112 => ?_)
                    · refine fz_iincN (ls' := [(6, fz_i (x9 + 1)), (9, fz_i ((y28 * 97) + (hr + (h 3 (x9.toNat))))), (8, fz_i (hr + (h 3 (x9.toNat)))), (7, fz_i y28), (0, fz_r 33), (1, fz_i fr), (2, fz_i hr), (3, fz_i 0), (4, fz_i su), (5, fz_i rt)]) kX6_explore rfl (by decide) rfl (by omega) rfl ?_
                      refine fz_goto (tgt := 18) kX6_explore rfl (by decide) ?_
                      refine fz_sub (fz_pk_sub (ls' := [(6, fz_i (x9 + 1)), (0, fz_r 33), (1, fz_i fr), (2, fz_i hr), (3, fz_i 0), (4, fz_i su), (5, fz_i rt)]) [0, 4, 5, 6, 7, 8, 9] rfl) ?_
                      exact ih15 (x9 + 1) H105 hI106 hf107 (by omega) (by omega)
                    · refine fz_aload_n kX6_explore rfl rfl ?_
                      refine fz_iload kX6_explore rfl rfl ?_
                      refine fz_iload kX6_explore rfl rfl ?_
                      refine fz_iload_n kX6_explore rfl rfl ?_
                      refine fz_iconst ⟨by decide, by decide⟩ kX6_explore rfl ?_
                      refine fz_iaddN kX6_explore rfl ⟨by decide, by decide⟩ ?_
                      refine fz_eqi (y := 1) rfl ?_
                      refine fz_iload kX6_explore rfl rfl ?_
                      refine fz_aload_n kX6_explore rfl rfl ?_
                      refine fz_getR (t := 34) kX6_explore rfl rfl ?_
                      refine fz_iload kX6_explore rfl rfl ?_
                      obtain ⟨v113, e114⟩ : ∃ z, H105 34 (((y28 * 97) + (hr + (h 3 (x9.toNat)))).toNat) = z := ⟨_, rfl⟩
                      refine fz_ialdV (n := 776) (v := v113) kX6_explore rfl rfl (by omega) (by omega) e114 ?_
                      have b115 : (-2147483648) ≤ v113 ∧ v113 ≤ 2147483647 := by rw [← e114]; exact hI106.1 34 _
                      refine fz_iadd kX6_explore rfl ?_
                      refine fz_nmw (fun z116 e117 => ?_)
                      refine fz_iload kX6_explore rfl rfl ?_
                      refine fz_bipush ⟨by decide, by decide⟩ kX6_explore rfl ?_
                      refine fz_imul kX6_explore rfl ?_
                      refine fz_nmw (fun z118 e119 => ?_)
                      refine fz_iload kX6_explore rfl rfl ?_
                      refine fz_iadd kX6_explore rfl ?_
                      refine fz_nmw (fun z120 e121 => ?_)
                      refine fz_callV (d' := 7) (M' := mX6_explore) (As := [fz_i y28, fz_i (hr + (h 3 (x9.toNat))), fz_i 1, fz_i z116, fz_i z120]) (st := []) kX6_explore rfl rfl vX6_explore rfl rfl rfl rfl (Nat.le_of_ble_eq_true rfl) (Nat.le_of_ble_eq_true rfl) (by decide) (sX6_explore_1 H105 hI106 y28 (hr + (h 3 (x9.toNat))) z116 z120 (by omega) (by omega)) (fun H122 r123 q124 o125 => ?_)
                      obtain ⟨hI126, hf127, rfl⟩ := q124
                      clear o125
                      have hf128 := fz_fr_tr hf107 hf127 (show fz_su [(18, 99999), (19, 99999), (29, 99999), (33, 5), (33, 6), (33, 7), (34, 99999)] [(18, 99999), (19, 99999), (29, 99999), (33, 5), (33, 6), (33, 7), (34, 99999)] = true from rfl)
                      refine fz_iincN (ls' := [(6, fz_i (x9 + 1)), (9, fz_i ((y28 * 97) + (hr + (h 3 (x9.toNat))))), (8, fz_i (hr + (h 3 (x9.toNat)))), (7, fz_i y28), (0, fz_r 33), (1, fz_i fr), (2, fz_i hr), (3, fz_i 0), (4, fz_i su), (5, fz_i rt)]) kX6_explore rfl (by decide) rfl (by omega) rfl ?_
                      refine fz_goto (tgt := 18) kX6_explore rfl (by decide) ?_
                      refine fz_sub (fz_pk_sub (ls' := [(6, fz_i (x9 + 1)), (0, fz_r 33), (1, fz_i fr), (2, fz_i hr), (3, fz_i 0), (4, fz_i su), (5, fz_i rt)]) [0, 4, 5, 6, 7, 8, 9] rfl) ?_
                      exact ih15 (x9 + 1) H122 hI126 hf128 (by omega) (by omega)
              · refine fz_goto (tgt := 200) kX6_explore rfl (by decide) ?_
                refine fz_iincN (ls' := [(6, fz_i (x9 + 1)), (8, fz_i (hr + (h 3 (x9.toNat)))), (7, fz_i y28), (0, fz_r 33), (1, fz_i fr), (2, fz_i hr), (3, fz_i 0), (4, fz_i su), (5, fz_i rt)]) kX6_explore rfl (by decide) rfl (by omega) rfl ?_
                refine fz_goto (tgt := 18) kX6_explore rfl (by decide) ?_
                refine fz_sub (fz_pk_sub (ls' := [(6, fz_i (x9 + 1)), (0, fz_r 33), (1, fz_i fr), (2, fz_i hr), (3, fz_i 0), (4, fz_i su), (5, fz_i rt)]) [0, 3, 4, 5, 6, 7, 8] rfl) ?_
                exact ih15 (x9 + 1) H10 hI11 hf12 (by omega) (by omega)
    exact lp14 _ 0 H1 hI5 hf7 (by omega) (Nat.lt_succ_self _)
  · exfalso; omega

abbrev qX6_seek (h : fz_H) (on fr hr : Int) : fz_H → Option fz_V → Prop := fun h' r0 => fz_Iv h' ∧ fz_fr [(18, 99999), (19, 99999), (29, 99999), (33, 3), (33, 4), (33, 5), (33, 6), (33, 7), (34, 99999)] h h' ∧ r0 = none
set_option maxHeartbeats 1000000 in
set_option maxRecDepth 100000 in
theorem sX6_seek (h : fz_H) (hI : fz_Iv h) (on fr hr : Int) (hp0 : 0 ≤ on ∧ on < 4) (hp1 : 0 ≤ fr ∧ fr < 8) (hp2 : 0 ≤ hr ∧ hr ≤ 999) : fz_R 9 mX6_seek 0 [(0, fz_r 33), (1, fz_i on), (2, fz_i fr), (3, fz_i hr)] [] h (qX6_seek h on fr hr) := by
  refine fz_knowl (fun hk => ?_)
  have hr_on : -2147483648 ≤ on ∧ on < 2147483648 := hk _ (List.Mem.tail _ (List.Mem.head _))
  have hr_fr : -2147483648 ≤ fr ∧ fr < 2147483648 := hk _ (List.Mem.tail _ (List.Mem.tail _ (List.Mem.head _)))
  have hr_hr : -2147483648 ≤ hr ∧ hr < 2147483648 := hk _ (List.Mem.tail _ (List.Mem.tail _ (List.Mem.tail _ (List.Mem.head _))))
  clear hk
  have hf : fz_fr [(18, 99999), (19, 99999), (29, 99999), (33, 3), (33, 4), (33, 5), (33, 6), (33, 7), (34, 99999)] h h := fz_fr_rf
  refine fz_aload_n kX6_seek rfl rfl ?_
  refine fz_getR (t := 34) kX6_seek rfl rfl ?_
  refine fz_ldc (x := (-2000000000)) kX6_seek rfl rfl rfl ?_
  refine fz_callS (d' := 0) (M' := mJ7_fill_53178) (As := [fz_r 34, fz_i (-2000000000)]) (st := []) kX6_seek rfl rfl vJ7_fill_53178 rfl rfl (Nat.le_of_ble_eq_true rfl) (Nat.le_of_ble_eq_true rfl) (by decide) (sJ7_fill_53178_34 h hI (-2000000000) ) (fun H1 r2 q3 o4 => ?_)
  obtain ⟨hI5, hf6, rfl⟩ := q3
  clear o4
  have hf7 := fz_fr_tr hf hf6 (show fz_su [(34, 99999)] [(18, 99999), (19, 99999), (29, 99999), (33, 3), (33, 4), (33, 5), (33, 6), (33, 7), (34, 99999)] = true from rfl)
  refine fz_aload_n kX6_seek rfl rfl ?_
  refine fz_iload_n kX6_seek rfl rfl ?_
  refine fz_putI kX6_seek rfl rfl rfl ?_
  refine fz_nmu (S := [(18, 99999), (19, 99999), (29, 99999), (33, 3), (33, 4), (33, 5), (33, 6), (33, 7), (34, 99999)]) (h0 := h) (fz_Iv_up hI5 (by decide) (show (0 : Int) ≤ on by omega) (show (on : Int) ≤ 3 by omega)) (fz_fr_up hf7 rfl) (fun H8 hI9 hf10 e11 => ?_)
  have k12 : H8 33 3 = on := by rw [e11]; exact fz_up_e
  clear e11
  refine fz_aload_n kX6_seek rfl rfl ?_
  refine fz_iload_n kX6_seek rfl rfl ?_
  refine fz_putI kX6_seek rfl rfl rfl ?_
  refine fz_nmu (S := [(18, 99999), (19, 99999), (29, 99999), (33, 3), (33, 4), (33, 5), (33, 6), (33, 7), (34, 99999)]) (h0 := h) (fz_Iv_up hI9 (by decide) (show (0 : Int) ≤ hr by omega) (show (hr : Int) ≤ 999 by omega)) (fz_fr_up hf10 rfl) (fun H13 hI14 hf15 e16 => ?_)
  have k17 : H13 33 3 = on := by rw [e16]; exact (fz_up_s (by decide)).trans k12
  have k18 : H13 33 4 = hr := by rw [e16]; exact fz_up_e
  clear e16
  refine fz_aload_n kX6_seek rfl rfl ?_
  refine fz_iconst ⟨by decide, by decide⟩ kX6_seek rfl ?_
  refine fz_putI kX6_seek rfl rfl rfl ?_
  refine fz_nmu (S := [(18, 99999), (19, 99999), (29, 99999), (33, 3), (33, 4), (33, 5), (33, 6), (33, 7), (34, 99999)]) (h0 := h) (fz_Iv_up hI14 (by decide) (show ((-2147483648) : Int) ≤ 0 by decide) (show (0 : Int) ≤ 2147483647 by decide)) (fz_fr_up hf15 rfl) (fun H19 hI20 hf21 e22 => ?_)
  have k23 : H19 33 3 = on := by rw [e22]; exact (fz_up_s (by decide)).trans k17
  have k24 : H19 33 4 = hr := by rw [e22]; exact (fz_up_s (by decide)).trans k18
  have k25 : H19 33 5 = 0 := by rw [e22]; exact fz_up_e
  clear e22
  refine fz_aload_n kX6_seek rfl rfl ?_
  refine fz_iconst ⟨by decide, by decide⟩ kX6_seek rfl ?_
  refine fz_putI kX6_seek rfl rfl rfl ?_
  refine fz_nmu (S := [(18, 99999), (19, 99999), (29, 99999), (33, 3), (33, 4), (33, 5), (33, 6), (33, 7), (34, 99999)]) (h0 := h) (fz_Iv_up hI20 (by decide) (show (0 : Int) ≤ 0 by decide) (show (0 : Int) ≤ 4 by decide)) (fz_fr_up hf21 rfl) (fun H26 hI27 hf28 e29 => ?_)
  have k30 : H26 33 3 = on := by rw [e29]; exact (fz_up_s (by decide)).trans k23
  have k31 : H26 33 4 = hr := by rw [e29]; exact (fz_up_s (by decide)).trans k24
  have k32 : H26 33 5 = 0 := by rw [e29]; exact (fz_up_s (by decide)).trans k25
  have k33 : H26 33 6 = 0 := by rw [e29]; exact fz_up_e
  clear e29
  refine fz_aload_n kX6_seek rfl rfl ?_
  refine fz_iconst ⟨by decide, by decide⟩ kX6_seek rfl ?_
  refine fz_putI kX6_seek rfl rfl rfl ?_
  refine fz_nmu (S := [(18, 99999), (19, 99999), (29, 99999), (33, 3), (33, 4), (33, 5), (33, 6), (33, 7), (34, 99999)]) (h0 := h) (fz_Iv_up hI27 (by decide) (show ((-2147483648) : Int) ≤ 0 by decide) (show (0 : Int) ≤ 2147483647 by decide)) (fz_fr_up hf28 rfl) (fun H34 hI35 hf36 e37 => ?_)
  have k38 : H34 33 3 = on := by rw [e37]; exact (fz_up_s (by decide)).trans k30
  have k39 : H34 33 4 = hr := by rw [e37]; exact (fz_up_s (by decide)).trans k31
  have k40 : H34 33 5 = 0 := by rw [e37]; exact (fz_up_s (by decide)).trans k32
  have k41 : H34 33 6 = 0 := by rw [e37]; exact (fz_up_s (by decide)).trans k33
  have k42 : H34 33 7 = 0 := by rw [e37]; exact fz_up_e
  clear e37
  refine fz_aload_n kX6_seek rfl rfl ?_
  refine fz_iload_n kX6_seek rfl rfl ?_
  refine fz_iconst ⟨by decide, by decide⟩ kX6_seek rfl ?_
  refine fz_iconst ⟨by decide, by decide⟩ kX6_seek rfl ?_
  refine fz_iconst ⟨by decide, by decide⟩ kX6_seek rfl ?_
  refine fz_iconst ⟨by decide, by decide⟩ kX6_seek rfl ?_
  refine fz_callV (d' := 8) (M' := mX6_explore) (As := [fz_i fr, fz_i 0, fz_i 0, fz_i 0, fz_i 0]) (st := []) kX6_seek rfl rfl vX6_explore rfl rfl rfl rfl (Nat.le_of_ble_eq_true rfl) (Nat.le_of_ble_eq_true rfl) (by decide) (sX6_explore_0 H34 hI35 fr 0 0 0 (by omega) (by omega)) (fun H43 r44 q45 o46 => ?_)
  obtain ⟨hI47, hf48, rfl⟩ := q45
  clear o46
  have hf49 := fz_fr_tr hf36 hf48 (show fz_su [(18, 99999), (19, 99999), (29, 99999), (33, 5), (33, 6), (33, 7), (34, 99999)] [(18, 99999), (19, 99999), (29, 99999), (33, 3), (33, 4), (33, 5), (33, 6), (33, 7), (34, 99999)] = true from rfl)
  have k50 : H43 33 3 = on := (hf48 33 3 rfl).trans k38
  have k51 : H43 33 4 = hr := (hf48 33 4 rfl).trans k39
  exact fz_vret kX6_seek rfl rfl ⟨hI47, hf49, rfl⟩
