/-! ===== what the methods keep ===== -/
abbrev qX9_isKind (h : fz_H) (k : Int) : fz_H → Option fz_V → Prop := fun h' r0 => h' = h ∧ ∃ r : Int, r0 = some (fz_i r) ∧ ((r = 1 ∧ (0 ≤ k ∧ k < 8)) ∨ (r = 0 ∧ ¬ (0 ≤ k ∧ k < 8)))
set_option maxHeartbeats 1000000 in
set_option maxRecDepth 100000 in
theorem sX9_isKind (h : fz_H) (hI : fz_Iv h) (k : Int) : fz_R 0 mX9_isKind 0 [(0, fz_r 44), (1, fz_i k)] [] h (qX9_isKind h k) := by
  refine fz_knowl (fun hk => ?_)
  have hr_k : -2147483648 ≤ k ∧ k < 2147483648 := hk _ (List.Mem.tail _ (List.Mem.head _))
  clear hk
  refine fz_iload_n kX9_isKind rfl rfl ?_
  refine fz_if_lt (tgt := 14) kX9_isKind rfl (by decide) (fun c1 => ?_) (fun c1 => ?_)
  · refine fz_iconst ⟨by decide, by decide⟩ kX9_isKind rfl ?_
    exact fz_zret kX9_isKind rfl rfl (by omega) ⟨rfl, _, rfl, Or.inr ⟨rfl, by omega⟩⟩
  · refine fz_iload_n kX9_isKind rfl rfl ?_
    refine fz_bipush ⟨by decide, by decide⟩ kX9_isKind rfl ?_
    refine fz_icmp_ge (tgt := 14) kX9_isKind rfl (by decide) (fun c2 => ?_) (fun c2 => ?_)
    · refine fz_iconst ⟨by decide, by decide⟩ kX9_isKind rfl ?_
      exact fz_zret kX9_isKind rfl rfl (by omega) ⟨rfl, _, rfl, Or.inr ⟨rfl, by omega⟩⟩
    · refine fz_iconst ⟨by decide, by decide⟩ kX9_isKind rfl ?_
      refine fz_goto (tgt := 15) kX9_isKind rfl (by decide) ?_
      exact fz_zret kX9_isKind rfl rfl (by omega) ⟨rfl, _, rfl, Or.inl ⟨rfl, by omega⟩⟩

abbrev qX9_isBody (h : fz_H) (b : Int) : fz_H → Option fz_V → Prop := fun h' r0 => h' = h ∧ ∃ r : Int, r0 = some (fz_i r) ∧ ((r = 1 ∧ (0 ≤ b ∧ b ≤ 49 ∧ b < h 44 2)) ∨ (r = 0 ∧ ¬ (0 ≤ b ∧ b ≤ 49 ∧ b < h 44 2)))
set_option maxHeartbeats 1000000 in
set_option maxRecDepth 100000 in
theorem sX9_isBody (h : fz_H) (hI : fz_Iv h) (b : Int) : fz_R 0 mX9_isBody 0 [(0, fz_r 44), (1, fz_i b)] [] h (qX9_isBody h b) := by
  refine fz_knowl (fun hk => ?_)
  have hr_b : -2147483648 ≤ b ∧ b < 2147483648 := hk _ (List.Mem.tail _ (List.Mem.head _))
  clear hk
  have b1 : 0 ≤ h 44 2 ∧ h 44 2 ≤ 50 := hI.1 44 _
  refine fz_iload_n kX9_isBody rfl rfl ?_
  refine fz_if_lt (tgt := 16) kX9_isBody rfl (by decide) (fun c2 => ?_) (fun c2 => ?_)
  · refine fz_iconst ⟨by decide, by decide⟩ kX9_isBody rfl ?_
    exact fz_zret kX9_isBody rfl rfl (by omega) ⟨rfl, _, rfl, Or.inr ⟨rfl, by omega⟩⟩
  · refine fz_iload_n kX9_isBody rfl rfl ?_
    refine fz_aload_n kX9_isBody rfl rfl ?_
    refine fz_getV (v := h 44 2) kX9_isBody rfl rfl rfl ?_
    have b3 : 0 ≤ h 44 2 ∧ h 44 2 ≤ 50 := hI.1 44 _
    refine fz_icmp_ge (tgt := 16) kX9_isBody rfl (by decide) (fun c4 => ?_) (fun c4 => ?_)
    · refine fz_iconst ⟨by decide, by decide⟩ kX9_isBody rfl ?_
      exact fz_zret kX9_isBody rfl rfl (by omega) ⟨rfl, _, rfl, Or.inr ⟨rfl, by omega⟩⟩
    · refine fz_iconst ⟨by decide, by decide⟩ kX9_isBody rfl ?_
      refine fz_goto (tgt := 17) kX9_isBody rfl (by decide) ?_
      exact fz_zret kX9_isBody rfl rfl (by omega) ⟨rfl, _, rfl, Or.inl ⟨rfl, by omega⟩⟩

abbrev qX9_add (h : fz_H) (k : Int) : fz_H → Option fz_V → Prop := fun h' r0 => fz_Iv h' ∧ fz_fr [(44, 2), (45, 99999)] h h' ∧ ∃ r : Int, r0 = some (fz_i r) ∧ ((-3) ≤ r ∧ r ≤ 49) ∧ ((h 44 2 < 50 ∧ r = h 44 2 ∧ h' 44 2 = h 44 2 + 1) ∨ (50 ≤ h 44 2 ∧ r = -3 ∧ h' 44 2 = h 44 2)) ∧ (fz_bC h h' k)
set_option maxHeartbeats 1000000 in
set_option maxRecDepth 100000 in
theorem sX9_add (h : fz_H) (hI : fz_Iv h) (k : Int) (hp0 : 0 ≤ k ∧ k < 8) : fz_R 0 mX9_add 0 [(0, fz_r 44), (1, fz_i k)] [] h (qX9_add h k) := by
  refine fz_knowl (fun hk => ?_)
  have hr_k : -2147483648 ≤ k ∧ k < 2147483648 := hk _ (List.Mem.tail _ (List.Mem.head _))
  clear hk
  have hf : fz_fr [(44, 2), (45, 99999)] h h := fz_fr_rf
  have b1 : 0 ≤ h 44 2 ∧ h 44 2 ≤ 50 := hI.1 44 _
  refine fz_aload_n kX9_add rfl rfl ?_
  refine fz_getV (v := h 44 2) kX9_add rfl rfl rfl ?_
  have b2 : 0 ≤ h 44 2 ∧ h 44 2 ≤ 50 := hI.1 44 _
  refine fz_bipush ⟨by decide, by decide⟩ kX9_add rfl ?_
  refine fz_icmp_lt (tgt := 12) kX9_add rfl (by decide) (fun c3 => ?_) (fun c3 => ?_)
  · refine fz_aload_n kX9_add rfl rfl ?_
    refine fz_getR (t := 45) kX9_add rfl rfl ?_
    refine fz_aload_n kX9_add rfl rfl ?_
    refine fz_getV (v := h 44 2) kX9_add rfl rfl rfl ?_
    refine fz_iload_n kX9_add rfl rfl ?_
    refine fz_iast (n := 50) kX9_add rfl rfl (by omega) (by omega) ?_
    refine fz_nmu (S := [(44, 2), (45, 99999)]) (h0 := h) (fz_Iv_up hI (by decide) (show (0 : Int) ≤ k by omega) (show (k : Int) ≤ 7 by omega)) (fz_fr_up hf rfl) (fun H4 hI5 hf6 e7 => ?_)
    have k8 : H4 44 2 = (h 44 2) := by rw [e7]; exact (fz_up_o (by decide)).trans rfl
    have t9 : H4 44 2 = h 44 2 := by rw [e7]; exact fz_up_o (by decide)
    refine fz_aload_n kX9_add rfl rfl ?_
    refine fz_dup rfl kX9_add rfl ?_
    refine fz_getV (v := (h 44 2)) kX9_add rfl rfl k8 ?_
    refine fz_iconst ⟨by decide, by decide⟩ kX9_add rfl ?_
    refine fz_iaddN kX9_add rfl (by omega) ?_
    refine fz_putI kX9_add rfl rfl rfl ?_
    refine fz_nmu (S := [(44, 2), (45, 99999)]) (h0 := h) (fz_Iv_up hI5 (by decide) (show (0 : Int) ≤ ((h 44 2) + 1) by omega) (show (((h 44 2) + 1) : Int) ≤ 50 by omega)) (fz_fr_up hf6 rfl) (fun H10 hI11 hf12 e13 => ?_)
    have k14 : H10 44 2 = ((h 44 2) + 1) := by rw [e13]; exact fz_up_e
    refine fz_aload_n kX9_add rfl rfl ?_
    refine fz_getV (v := ((h 44 2) + 1)) kX9_add rfl rfl k14 ?_
    refine fz_iconst ⟨by decide, by decide⟩ kX9_add rfl ?_
    refine fz_isubN kX9_add rfl (by omega) ?_
    exact fz_iret kX9_add rfl rfl (fun _ => ⟨hI11, hf12, _, rfl, (by omega), (by omega), (by first | exact Or.inl ⟨by omega, fz_bu_in e7 e13 (by decide) rfl⟩ | exact Or.inr ⟨by omega, rfl⟩)⟩)
  · refine fz_bipush ⟨by decide, by decide⟩ kX9_add rfl ?_
    exact fz_iret kX9_add rfl rfl (fun _ => ⟨hI, hf, _, rfl, (by omega), (by omega), (by first | exact Or.inl ⟨by omega, fz_bu_in lost lost (by decide) rfl⟩ | exact Or.inr ⟨by omega, rfl⟩)⟩)

abbrev qX9_kindOf (h : fz_H) (b : Int) : fz_H → Option fz_V → Prop := fun h' r0 => h' = h ∧ ∃ r : Int, r0 = some (fz_i r) ∧ ((-2) ≤ r ∧ r ≤ 7) ∧ ((0 ≤ b ∧ b < h 44 2 ∧ r = h 45 b.toNat) ∨ (¬ (0 ≤ b ∧ b < h 44 2) ∧ r = -2))
set_option maxHeartbeats 1000000 in
set_option maxRecDepth 100000 in
theorem sX9_kindOf (h : fz_H) (hI : fz_Iv h) (b : Int) : fz_R 1 mX9_kindOf 0 [(0, fz_r 44), (1, fz_i b)] [] h (qX9_kindOf h b) := by
  refine fz_knowl (fun hk => ?_)
  have hr_b : -2147483648 ≤ b ∧ b < 2147483648 := hk _ (List.Mem.tail _ (List.Mem.head _))
  clear hk
  have b1 : 0 ≤ h 44 2 ∧ h 44 2 ≤ 50 := hI.1 44 _
  refine fz_aload_n kX9_kindOf rfl rfl ?_
  refine fz_iload_n kX9_kindOf rfl rfl ?_
  refine fz_callV (d' := 0) (M' := mX9_isBody) (As := [fz_i b]) (st := []) kX9_kindOf rfl rfl vX9_isBody rfl rfl rfl rfl (Nat.le_of_ble_eq_true rfl) (Nat.le_of_ble_eq_true rfl) (by decide) (sX9_isBody h hI b ) (fun H2 r3 q4 o5 => ?_)
  obtain ⟨e6, y7, rfl, p8⟩ := q4
  subst H2
  clear o5
  rcases p8 with ⟨rfl, c9⟩ | ⟨rfl, c9⟩
  · refine fz_if_eq (tgt := 17) kX9_kindOf rfl (by decide) (fun c10 => ?_) (fun c10 => ?_)
    · exfalso; omega
    · refine fz_aload_n kX9_kindOf rfl rfl ?_
      refine fz_getR (t := 45) kX9_kindOf rfl rfl ?_
      refine fz_iload_n kX9_kindOf rfl rfl ?_
      refine fz_ialdV (n := 50) (v := h 45 (b.toNat)) kX9_kindOf rfl rfl (by omega) (by omega) rfl ?_
      have b11 : 0 ≤ h 45 (b.toNat) ∧ h 45 (b.toNat) ≤ 7 := hI.1 45 _
      refine fz_goto (tgt := 19) kX9_kindOf rfl (by decide) ?_
      exact fz_iret kX9_kindOf rfl rfl (fun _ => ⟨rfl, _, rfl, (by omega), (by omega)⟩)
  · refine fz_if_eq (tgt := 17) kX9_kindOf rfl (by decide) (fun c12 => ?_) (fun c12 => ?_)
    · refine fz_bipush ⟨by decide, by decide⟩ kX9_kindOf rfl ?_
      exact fz_iret kX9_kindOf rfl rfl (fun _ => ⟨rfl, _, rfl, (by omega), (by omega)⟩)
    · exfalso; omega

abbrev qX9_isUnder_n (h : fz_H) (tp : Int) : fz_H → Option fz_V → Prop := fun h' r0 => h' = h ∧ ∃ r : Int, r0 = some (fz_i r) ∧ ((r = 1 ∧ (tp = -7 ∧ tp = -8)) ∨ (r = 0 ∧ ¬ (tp = -7 ∧ tp = -8)))
set_option maxHeartbeats 1000000 in
set_option maxRecDepth 100000 in
theorem sX9_isUnder_n (h : fz_H) (hI : fz_Iv h) (tp : Int) : fz_R 1 mX9_isUnder 0 [(0, fz_r 44), (1, fz_i (-2)), (2, fz_i tp)] [] h (qX9_isUnder_n h tp) := by
  refine fz_knowl (fun hk => ?_)
  have hr_tp : -2147483648 ≤ tp ∧ tp < 2147483648 := hk _ (List.Mem.tail _ (List.Mem.tail _ (List.Mem.head _)))
  clear hk
  refine fz_iload_n kX9_isUnder rfl rfl ?_
  refine fz_istore_n (ls' := [(3, fz_i (-2)), (0, fz_r 44), (1, fz_i (-2)), (2, fz_i tp)]) kX9_isUnder rfl (by decide) rfl ?_
  refine fz_iconst ⟨by decide, by decide⟩ kX9_isUnder rfl ?_
  refine fz_istore (ls' := [(4, fz_i 0), (3, fz_i (-2)), (0, fz_r 44), (1, fz_i (-2)), (2, fz_i tp)]) kX9_isUnder rfl (by decide) rfl ?_
  refine fz_iload kX9_isUnder rfl rfl ?_
  refine fz_bipush ⟨by decide, by decide⟩ kX9_isUnder rfl ?_
  refine fz_icmp_ge (tgt := 39) kX9_isUnder rfl (by decide) (fun c1 => ?_) (fun c1 => ?_)
  · exfalso; omega
  · refine fz_aload_n kX9_isUnder rfl rfl ?_
    refine fz_iload_n kX9_isUnder rfl rfl ?_
    refine fz_callV (d' := 0) (M' := mX9_isKind) (As := [fz_i (-2)]) (st := []) kX9_isUnder rfl rfl vX9_isKind rfl rfl rfl rfl (Nat.le_of_ble_eq_true rfl) (Nat.le_of_ble_eq_true rfl) (by decide) (sX9_isKind h hI (-2) ) (fun H2 r3 q4 o5 => ?_)
    obtain ⟨e6, y7, rfl, p8⟩ := q4
    subst H2
    clear o5
    rcases p8 with ⟨rfl, c9⟩ | ⟨rfl, c9⟩
    · refine fz_if_eq (tgt := 39) kX9_isUnder rfl (by decide) (fun c10 => ?_) (fun c10 => ?_)
      · exfalso; omega
      · refine fz_iload_n kX9_isUnder rfl rfl ?_
        refine fz_iload_n kX9_isUnder rfl rfl ?_
        refine fz_icmp_ne (tgt := 27) kX9_isUnder rfl (by decide) (fun c11 => ?_) (fun c11 => ?_)
        · refine fz_gets kX9_isUnder rfl ?_
          refine fz_iload_n kX9_isUnder rfl rfl ?_
          obtain ⟨z12, e13⟩ : ∃ z, h 204 ((-2)).toNat = z := ⟨_, rfl⟩
          refine fz_taldV (v := z12) kX9_isUnder rfl ⟨by decide, by decide⟩ (by omega) (by rw [show h 204 100000 = 8 by rw [hI.2.2.2.2]; rfl]; omega) e13 ?_
          have t14 := fz_tb204 (h := h) hI.2.2.2.2 (show 0 ≤ (-2) ∧ (-2) < 8 by omega)
          rw [e13] at t14
          refine fz_istore_n (ls' := [(3, fz_i z12), (4, fz_i 0), (0, fz_r 44), (1, fz_i (-2)), (2, fz_i tp)]) kX9_isUnder rfl (by decide) rfl ?_
          refine fz_iincN (ls' := [(4, fz_i (0 + 1)), (3, fz_i z12), (0, fz_r 44), (1, fz_i (-2)), (2, fz_i tp)]) kX9_isUnder rfl (by decide) rfl (by omega) rfl ?_
          refine fz_goto (tgt := 5) kX9_isUnder rfl (by decide) ?_
          refine fz_iload kX9_isUnder rfl rfl ?_
          refine fz_bipush ⟨by decide, by decide⟩ kX9_isUnder rfl ?_
          refine fz_icmp_ge (tgt := 39) kX9_isUnder rfl (by decide) (fun c15 => ?_) (fun c15 => ?_)
          · exfalso; omega
          · refine fz_aload_n kX9_isUnder rfl rfl ?_
            refine fz_iload_n kX9_isUnder rfl rfl ?_
            refine fz_callV (d' := 0) (M' := mX9_isKind) (As := [fz_i z12]) (st := []) kX9_isUnder rfl rfl vX9_isKind rfl rfl rfl rfl (Nat.le_of_ble_eq_true rfl) (Nat.le_of_ble_eq_true rfl) (by decide) (sX9_isKind h hI z12 ) (fun H16 r17 q18 o19 => ?_)
            obtain ⟨e20, y21, rfl, p22⟩ := q18
            subst H16
            clear o19
            rcases p22 with ⟨rfl, c23⟩ | ⟨rfl, c23⟩
            · refine fz_if_eq (tgt := 39) kX9_isUnder rfl (by decide) (fun c24 => ?_) (fun c24 => ?_)
              · exfalso; omega
              · refine fz_iload_n kX9_isUnder rfl rfl ?_
                refine fz_iload_n kX9_isUnder rfl rfl ?_
                refine fz_icmp_ne (tgt := 27) kX9_isUnder rfl (by decide) (fun c25 => ?_) (fun c25 => ?_)
                · refine fz_gets kX9_isUnder rfl ?_
                  refine fz_iload_n kX9_isUnder rfl rfl ?_
                  obtain ⟨z26, e27⟩ : ∃ z, h 204 (z12).toNat = z := ⟨_, rfl⟩
                  refine fz_taldV (v := z26) kX9_isUnder rfl ⟨by decide, by decide⟩ (by omega) (by rw [show h 204 100000 = 8 by rw [hI.2.2.2.2]; rfl]; omega) e27 ?_
                  have t28 := fz_tb204 (h := h) hI.2.2.2.2 (show 0 ≤ z12 ∧ z12 < 8 by omega)
                  rw [e27] at t28
                  refine fz_istore_n (ls' := [(3, fz_i z26), (4, fz_i (0 + 1)), (0, fz_r 44), (1, fz_i (-2)), (2, fz_i tp)]) kX9_isUnder rfl (by decide) rfl ?_
                  refine fz_iincN (ls' := [(4, fz_i ((0 + 1) + 1)), (3, fz_i z26), (0, fz_r 44), (1, fz_i (-2)), (2, fz_i tp)]) kX9_isUnder rfl (by decide) rfl (by omega) rfl ?_
                  refine fz_goto (tgt := 5) kX9_isUnder rfl (by decide) ?_
                  refine fz_iload kX9_isUnder rfl rfl ?_
                  refine fz_bipush ⟨by decide, by decide⟩ kX9_isUnder rfl ?_
                  refine fz_icmp_ge (tgt := 39) kX9_isUnder rfl (by decide) (fun c29 => ?_) (fun c29 => ?_)
                  · exfalso; omega
                  · refine fz_aload_n kX9_isUnder rfl rfl ?_
                    refine fz_iload_n kX9_isUnder rfl rfl ?_
                    refine fz_callV (d' := 0) (M' := mX9_isKind) (As := [fz_i z26]) (st := []) kX9_isUnder rfl rfl vX9_isKind rfl rfl rfl rfl (Nat.le_of_ble_eq_true rfl) (Nat.le_of_ble_eq_true rfl) (by decide) (sX9_isKind h hI z26 ) (fun H30 r31 q32 o33 => ?_)
                    obtain ⟨e34, y35, rfl, p36⟩ := q32
                    subst H30
                    clear o33
                    rcases p36 with ⟨rfl, c37⟩ | ⟨rfl, c37⟩
                    · refine fz_if_eq (tgt := 39) kX9_isUnder rfl (by decide) (fun c38 => ?_) (fun c38 => ?_)
                      · exfalso; omega
                      · refine fz_iload_n kX9_isUnder rfl rfl ?_
                        refine fz_iload_n kX9_isUnder rfl rfl ?_
                        refine fz_icmp_ne (tgt := 27) kX9_isUnder rfl (by decide) (fun c39 => ?_) (fun c39 => ?_)
                        · refine fz_gets kX9_isUnder rfl ?_
                          refine fz_iload_n kX9_isUnder rfl rfl ?_
                          obtain ⟨z40, e41⟩ : ∃ z, h 204 (z26).toNat = z := ⟨_, rfl⟩
                          refine fz_taldV (v := z40) kX9_isUnder rfl ⟨by decide, by decide⟩ (by omega) (by rw [show h 204 100000 = 8 by rw [hI.2.2.2.2]; rfl]; omega) e41 ?_
                          have t42 := fz_tb204 (h := h) hI.2.2.2.2 (show 0 ≤ z26 ∧ z26 < 8 by omega)
                          rw [e41] at t42
                          refine fz_istore_n (ls' := [(3, fz_i z40), (4, fz_i ((0 + 1) + 1)), (0, fz_r 44), (1, fz_i (-2)), (2, fz_i tp)]) kX9_isUnder rfl (by decide) rfl ?_
                          refine fz_iincN (ls' := [(4, fz_i (((0 + 1) + 1) + 1)), (3, fz_i z40), (0, fz_r 44), (1, fz_i (-2)), (2, fz_i tp)]) kX9_isUnder rfl (by decide) rfl (by omega) rfl ?_
                          refine fz_goto (tgt := 5) kX9_isUnder rfl (by decide) ?_
                          refine fz_iload kX9_isUnder rfl rfl ?_
                          refine fz_bipush ⟨by decide, by decide⟩ kX9_isUnder rfl ?_
                          refine fz_icmp_ge (tgt := 39) kX9_isUnder rfl (by decide) (fun c43 => ?_) (fun c43 => ?_)
                          · exfalso; omega
                          · refine fz_aload_n kX9_isUnder rfl rfl ?_
                            refine fz_iload_n kX9_isUnder rfl rfl ?_
                            refine fz_callV (d' := 0) (M' := mX9_isKind) (As := [fz_i z40]) (st := []) kX9_isUnder rfl rfl vX9_isKind rfl rfl rfl rfl (Nat.le_of_ble_eq_true rfl) (Nat.le_of_ble_eq_true rfl) (by decide) (sX9_isKind h hI z40 ) (fun H44 r45 q46 o47 => ?_)
                            obtain ⟨e48, y49, rfl, p50⟩ := q46
                            subst H44
                            clear o47
                            rcases p50 with ⟨rfl, c51⟩ | ⟨rfl, c51⟩
                            · refine fz_if_eq (tgt := 39) kX9_isUnder rfl (by decide) (fun c52 => ?_) (fun c52 => ?_)
                              · exfalso; omega
                              · refine fz_iload_n kX9_isUnder rfl rfl ?_
                                refine fz_iload_n kX9_isUnder rfl rfl ?_
                                refine fz_icmp_ne (tgt := 27) kX9_isUnder rfl (by decide) (fun c53 => ?_) (fun c53 => ?_)
                                · refine fz_gets kX9_isUnder rfl ?_
                                  refine fz_iload_n kX9_isUnder rfl rfl ?_
                                  obtain ⟨z54, e55⟩ : ∃ z, h 204 (z40).toNat = z := ⟨_, rfl⟩
                                  refine fz_taldV (v := z54) kX9_isUnder rfl ⟨by decide, by decide⟩ (by omega) (by rw [show h 204 100000 = 8 by rw [hI.2.2.2.2]; rfl]; omega) e55 ?_
                                  have t56 := fz_tb204 (h := h) hI.2.2.2.2 (show 0 ≤ z40 ∧ z40 < 8 by omega)
                                  rw [e55] at t56
                                  refine fz_istore_n (ls' := [(3, fz_i z54), (4, fz_i (((0 + 1) + 1) + 1)), (0, fz_r 44), (1, fz_i (-2)), (2, fz_i tp)]) kX9_isUnder rfl (by decide) rfl ?_
                                  refine fz_iincN (ls' := [(4, fz_i ((((0 + 1) + 1) + 1) + 1)), (3, fz_i z54), (0, fz_r 44), (1, fz_i (-2)), (2, fz_i tp)]) kX9_isUnder rfl (by decide) rfl (by omega) rfl ?_
                                  refine fz_goto (tgt := 5) kX9_isUnder rfl (by decide) ?_
                                  refine fz_iload kX9_isUnder rfl rfl ?_
                                  refine fz_bipush ⟨by decide, by decide⟩ kX9_isUnder rfl ?_
                                  refine fz_icmp_ge (tgt := 39) kX9_isUnder rfl (by decide) (fun c57 => ?_) (fun c57 => ?_)
                                  · exfalso; omega
                                  · refine fz_aload_n kX9_isUnder rfl rfl ?_
                                    refine fz_iload_n kX9_isUnder rfl rfl ?_
                                    refine fz_callV (d' := 0) (M' := mX9_isKind) (As := [fz_i z54]) (st := []) kX9_isUnder rfl rfl vX9_isKind rfl rfl rfl rfl (Nat.le_of_ble_eq_true rfl) (Nat.le_of_ble_eq_true rfl) (by decide) (sX9_isKind h hI z54 ) (fun H58 r59 q60 o61 => ?_)
                                    obtain ⟨e62, y63, rfl, p64⟩ := q60
                                    subst H58
                                    clear o61
                                    rcases p64 with ⟨rfl, c65⟩ | ⟨rfl, c65⟩
                                    · refine fz_if_eq (tgt := 39) kX9_isUnder rfl (by decide) (fun c66 => ?_) (fun c66 => ?_)
                                      · exfalso; omega
                                      · refine fz_iload_n kX9_isUnder rfl rfl ?_
                                        refine fz_iload_n kX9_isUnder rfl rfl ?_
                                        refine fz_icmp_ne (tgt := 27) kX9_isUnder rfl (by decide) (fun c67 => ?_) (fun c67 => ?_)
                                        · refine fz_gets kX9_isUnder rfl ?_
                                          refine fz_iload_n kX9_isUnder rfl rfl ?_
                                          obtain ⟨z68, e69⟩ : ∃ z, h 204 (z54).toNat = z := ⟨_, rfl⟩
                                          refine fz_taldV (v := z68) kX9_isUnder rfl ⟨by decide, by decide⟩ (by omega) (by rw [show h 204 100000 = 8 by rw [hI.2.2.2.2]; rfl]; omega) e69 ?_
                                          have t70 := fz_tb204 (h := h) hI.2.2.2.2 (show 0 ≤ z54 ∧ z54 < 8 by omega)
                                          rw [e69] at t70
                                          refine fz_istore_n (ls' := [(3, fz_i z68), (4, fz_i ((((0 + 1) + 1) + 1) + 1)), (0, fz_r 44), (1, fz_i (-2)), (2, fz_i tp)]) kX9_isUnder rfl (by decide) rfl ?_
                                          refine fz_iincN (ls' := [(4, fz_i (((((0 + 1) + 1) + 1) + 1) + 1)), (3, fz_i z68), (0, fz_r 44), (1, fz_i (-2)), (2, fz_i tp)]) kX9_isUnder rfl (by decide) rfl (by omega) rfl ?_
                                          refine fz_goto (tgt := 5) kX9_isUnder rfl (by decide) ?_
                                          refine fz_iload kX9_isUnder rfl rfl ?_
                                          refine fz_bipush ⟨by decide, by decide⟩ kX9_isUnder rfl ?_
                                          refine fz_icmp_ge (tgt := 39) kX9_isUnder rfl (by decide) (fun c71 => ?_) (fun c71 => ?_)
                                          · exfalso; omega
                                          · refine fz_aload_n kX9_isUnder rfl rfl ?_
                                            refine fz_iload_n kX9_isUnder rfl rfl ?_
                                            refine fz_callV (d' := 0) (M' := mX9_isKind) (As := [fz_i z68]) (st := []) kX9_isUnder rfl rfl vX9_isKind rfl rfl rfl rfl (Nat.le_of_ble_eq_true rfl) (Nat.le_of_ble_eq_true rfl) (by decide) (sX9_isKind h hI z68 ) (fun H72 r73 q74 o75 => ?_)
                                            obtain ⟨e76, y77, rfl, p78⟩ := q74
                                            subst H72
                                            clear o75
                                            rcases p78 with ⟨rfl, c79⟩ | ⟨rfl, c79⟩
                                            · refine fz_if_eq (tgt := 39) kX9_isUnder rfl (by decide) (fun c80 => ?_) (fun c80 => ?_)
                                              · exfalso; omega
                                              · refine fz_iload_n kX9_isUnder rfl rfl ?_
                                                refine fz_iload_n kX9_isUnder rfl rfl ?_
                                                refine fz_icmp_ne (tgt := 27) kX9_isUnder rfl (by decide) (fun c81 => ?_) (fun c81 => ?_)
                                                · refine fz_gets kX9_isUnder rfl ?_
                                                  refine fz_iload_n kX9_isUnder rfl rfl ?_
                                                  obtain ⟨z82, e83⟩ : ∃ z, h 204 (z68).toNat = z := ⟨_, rfl⟩
                                                  refine fz_taldV (v := z82) kX9_isUnder rfl ⟨by decide, by decide⟩ (by omega) (by rw [show h 204 100000 = 8 by rw [hI.2.2.2.2]; rfl]; omega) e83 ?_
                                                  have t84 := fz_tb204 (h := h) hI.2.2.2.2 (show 0 ≤ z68 ∧ z68 < 8 by omega)
                                                  rw [e83] at t84
                                                  refine fz_istore_n (ls' := [(3, fz_i z82), (4, fz_i (((((0 + 1) + 1) + 1) + 1) + 1)), (0, fz_r 44), (1, fz_i (-2)), (2, fz_i tp)]) kX9_isUnder rfl (by decide) rfl ?_
                                                  refine fz_iincN (ls' := [(4, fz_i ((((((0 + 1) + 1) + 1) + 1) + 1) + 1)), (3, fz_i z82), (0, fz_r 44), (1, fz_i (-2)), (2, fz_i tp)]) kX9_isUnder rfl (by decide) rfl (by omega) rfl ?_
                                                  refine fz_goto (tgt := 5) kX9_isUnder rfl (by decide) ?_
                                                  refine fz_iload kX9_isUnder rfl rfl ?_
                                                  refine fz_bipush ⟨by decide, by decide⟩ kX9_isUnder rfl ?_
                                                  refine fz_icmp_ge (tgt := 39) kX9_isUnder rfl (by decide) (fun c85 => ?_) (fun c85 => ?_)
                                                  · exfalso; omega
                                                  · refine fz_aload_n kX9_isUnder rfl rfl ?_
                                                    refine fz_iload_n kX9_isUnder rfl rfl ?_
                                                    refine fz_callV (d' := 0) (M' := mX9_isKind) (As := [fz_i z82]) (st := []) kX9_isUnder rfl rfl vX9_isKind rfl rfl rfl rfl (Nat.le_of_ble_eq_true rfl) (Nat.le_of_ble_eq_true rfl) (by decide) (sX9_isKind h hI z82 ) (fun H86 r87 q88 o89 => ?_)
                                                    obtain ⟨e90, y91, rfl, p92⟩ := q88
                                                    subst H86
                                                    clear o89
                                                    rcases p92 with ⟨rfl, c93⟩ | ⟨rfl, c93⟩
                                                    · refine fz_if_eq (tgt := 39) kX9_isUnder rfl (by decide) (fun c94 => ?_) (fun c94 => ?_)
                                                      · exfalso; omega
                                                      · refine fz_iload_n kX9_isUnder rfl rfl ?_
                                                        refine fz_iload_n kX9_isUnder rfl rfl ?_
                                                        refine fz_icmp_ne (tgt := 27) kX9_isUnder rfl (by decide) (fun c95 => ?_) (fun c95 => ?_)
                                                        · refine fz_gets kX9_isUnder rfl ?_
                                                          refine fz_iload_n kX9_isUnder rfl rfl ?_
                                                          obtain ⟨z96, e97⟩ : ∃ z, h 204 (z82).toNat = z := ⟨_, rfl⟩
                                                          refine fz_taldV (v := z96) kX9_isUnder rfl ⟨by decide, by decide⟩ (by omega) (by rw [show h 204 100000 = 8 by rw [hI.2.2.2.2]; rfl]; omega) e97 ?_
                                                          have t98 := fz_tb204 (h := h) hI.2.2.2.2 (show 0 ≤ z82 ∧ z82 < 8 by omega)
                                                          rw [e97] at t98
                                                          refine fz_istore_n (ls' := [(3, fz_i z96), (4, fz_i ((((((0 + 1) + 1) + 1) + 1) + 1) + 1)), (0, fz_r 44), (1, fz_i (-2)), (2, fz_i tp)]) kX9_isUnder rfl (by decide) rfl ?_
                                                          refine fz_iincN (ls' := [(4, fz_i (((((((0 + 1) + 1) + 1) + 1) + 1) + 1) + 1)), (3, fz_i z96), (0, fz_r 44), (1, fz_i (-2)), (2, fz_i tp)]) kX9_isUnder rfl (by decide) rfl (by omega) rfl ?_
                                                          refine fz_goto (tgt := 5) kX9_isUnder rfl (by decide) ?_
                                                          refine fz_iload kX9_isUnder rfl rfl ?_
                                                          refine fz_bipush ⟨by decide, by decide⟩ kX9_isUnder rfl ?_
                                                          refine fz_icmp_ge (tgt := 39) kX9_isUnder rfl (by decide) (fun c99 => ?_) (fun c99 => ?_)
                                                          · exfalso; omega
                                                          · refine fz_aload_n kX9_isUnder rfl rfl ?_
                                                            refine fz_iload_n kX9_isUnder rfl rfl ?_
                                                            refine fz_callV (d' := 0) (M' := mX9_isKind) (As := [fz_i z96]) (st := []) kX9_isUnder rfl rfl vX9_isKind rfl rfl rfl rfl (Nat.le_of_ble_eq_true rfl) (Nat.le_of_ble_eq_true rfl) (by decide) (sX9_isKind h hI z96 ) (fun H100 r101 q102 o103 => ?_)
                                                            obtain ⟨e104, y105, rfl, p106⟩ := q102
                                                            subst H100
                                                            clear o103
                                                            rcases p106 with ⟨rfl, c107⟩ | ⟨rfl, c107⟩
                                                            · refine fz_if_eq (tgt := 39) kX9_isUnder rfl (by decide) (fun c108 => ?_) (fun c108 => ?_)
                                                              · exfalso; omega
                                                              · refine fz_iload_n kX9_isUnder rfl rfl ?_
                                                                refine fz_iload_n kX9_isUnder rfl rfl ?_
                                                                refine fz_icmp_ne (tgt := 27) kX9_isUnder rfl (by decide) (fun c109 => ?_) (fun c109 => ?_)
                                                                · refine fz_gets kX9_isUnder rfl ?_
                                                                  refine fz_iload_n kX9_isUnder rfl rfl ?_
                                                                  obtain ⟨z110, e111⟩ : ∃ z, h 204 (z96).toNat = z := ⟨_, rfl⟩
                                                                  refine fz_taldV (v := z110) kX9_isUnder rfl ⟨by decide, by decide⟩ (by omega) (by rw [show h 204 100000 = 8 by rw [hI.2.2.2.2]; rfl]; omega) e111 ?_
                                                                  have t112 := fz_tb204 (h := h) hI.2.2.2.2 (show 0 ≤ z96 ∧ z96 < 8 by omega)
                                                                  rw [e111] at t112
                                                                  refine fz_istore_n (ls' := [(3, fz_i z110), (4, fz_i (((((((0 + 1) + 1) + 1) + 1) + 1) + 1) + 1)), (0, fz_r 44), (1, fz_i (-2)), (2, fz_i tp)]) kX9_isUnder rfl (by decide) rfl ?_
                                                                  refine fz_iincN (ls' := [(4, fz_i ((((((((0 + 1) + 1) + 1) + 1) + 1) + 1) + 1) + 1)), (3, fz_i z110), (0, fz_r 44), (1, fz_i (-2)), (2, fz_i tp)]) kX9_isUnder rfl (by decide) rfl (by omega) rfl ?_
                                                                  refine fz_goto (tgt := 5) kX9_isUnder rfl (by decide) ?_
                                                                  refine fz_iload kX9_isUnder rfl rfl ?_
                                                                  refine fz_bipush ⟨by decide, by decide⟩ kX9_isUnder rfl ?_
                                                                  refine fz_icmp_ge (tgt := 39) kX9_isUnder rfl (by decide) (fun c113 => ?_) (fun c113 => ?_)
                                                                  · exfalso; omega
                                                                  · exfalso; omega
                                                                · refine fz_iconst ⟨by decide, by decide⟩ kX9_isUnder rfl ?_
                                                                  exact fz_zret kX9_isUnder rfl rfl (by omega) ⟨rfl, _, rfl, Or.inl ⟨rfl, by omega⟩⟩
                                                            · refine fz_if_eq (tgt := 39) kX9_isUnder rfl (by decide) (fun c114 => ?_) (fun c114 => ?_)
                                                              · refine fz_iconst ⟨by decide, by decide⟩ kX9_isUnder rfl ?_
                                                                exact fz_zret kX9_isUnder rfl rfl (by omega) ⟨rfl, _, rfl, Or.inr ⟨rfl, by omega⟩⟩
                                                              · exfalso; omega
                                                        · refine fz_iconst ⟨by decide, by decide⟩ kX9_isUnder rfl ?_
                                                          exact fz_zret kX9_isUnder rfl rfl (by omega) ⟨rfl, _, rfl, Or.inl ⟨rfl, by omega⟩⟩
                                                    · refine fz_if_eq (tgt := 39) kX9_isUnder rfl (by decide) (fun c115 => ?_) (fun c115 => ?_)
                                                      · refine fz_iconst ⟨by decide, by decide⟩ kX9_isUnder rfl ?_
                                                        exact fz_zret kX9_isUnder rfl rfl (by omega) ⟨rfl, _, rfl, Or.inr ⟨rfl, by omega⟩⟩
                                                      · exfalso; omega
                                                · refine fz_iconst ⟨by decide, by decide⟩ kX9_isUnder rfl ?_
                                                  exact fz_zret kX9_isUnder rfl rfl (by omega) ⟨rfl, _, rfl, Or.inl ⟨rfl, by omega⟩⟩
                                            · refine fz_if_eq (tgt := 39) kX9_isUnder rfl (by decide) (fun c116 => ?_) (fun c116 => ?_)
                                              · refine fz_iconst ⟨by decide, by decide⟩ kX9_isUnder rfl ?_
                                                exact fz_zret kX9_isUnder rfl rfl (by omega) ⟨rfl, _, rfl, Or.inr ⟨rfl, by omega⟩⟩
                                              · exfalso; omega
                                        · refine fz_iconst ⟨by decide, by decide⟩ kX9_isUnder rfl ?_
                                          exact fz_zret kX9_isUnder rfl rfl (by omega) ⟨rfl, _, rfl, Or.inl ⟨rfl, by omega⟩⟩
                                    · refine fz_if_eq (tgt := 39) kX9_isUnder rfl (by decide) (fun c117 => ?_) (fun c117 => ?_)
                                      · refine fz_iconst ⟨by decide, by decide⟩ kX9_isUnder rfl ?_
                                        exact fz_zret kX9_isUnder rfl rfl (by omega) ⟨rfl, _, rfl, Or.inr ⟨rfl, by omega⟩⟩
                                      · exfalso; omega
                                · refine fz_iconst ⟨by decide, by decide⟩ kX9_isUnder rfl ?_
                                  exact fz_zret kX9_isUnder rfl rfl (by omega) ⟨rfl, _, rfl, Or.inl ⟨rfl, by omega⟩⟩
                            · refine fz_if_eq (tgt := 39) kX9_isUnder rfl (by decide) (fun c118 => ?_) (fun c118 => ?_)
                              · refine fz_iconst ⟨by decide, by decide⟩ kX9_isUnder rfl ?_
                                exact fz_zret kX9_isUnder rfl rfl (by omega) ⟨rfl, _, rfl, Or.inr ⟨rfl, by omega⟩⟩
                              · exfalso; omega
                        · refine fz_iconst ⟨by decide, by decide⟩ kX9_isUnder rfl ?_
                          exact fz_zret kX9_isUnder rfl rfl (by omega) ⟨rfl, _, rfl, Or.inl ⟨rfl, by omega⟩⟩
                    · refine fz_if_eq (tgt := 39) kX9_isUnder rfl (by decide) (fun c119 => ?_) (fun c119 => ?_)
                      · refine fz_iconst ⟨by decide, by decide⟩ kX9_isUnder rfl ?_
                        exact fz_zret kX9_isUnder rfl rfl (by omega) ⟨rfl, _, rfl, Or.inr ⟨rfl, by omega⟩⟩
                      · exfalso; omega
                · refine fz_iconst ⟨by decide, by decide⟩ kX9_isUnder rfl ?_
                  exact fz_zret kX9_isUnder rfl rfl (by omega) ⟨rfl, _, rfl, Or.inl ⟨rfl, by omega⟩⟩
            · refine fz_if_eq (tgt := 39) kX9_isUnder rfl (by decide) (fun c120 => ?_) (fun c120 => ?_)
              · refine fz_iconst ⟨by decide, by decide⟩ kX9_isUnder rfl ?_
                exact fz_zret kX9_isUnder rfl rfl (by omega) ⟨rfl, _, rfl, Or.inr ⟨rfl, by omega⟩⟩
              · exfalso; omega
        · refine fz_iconst ⟨by decide, by decide⟩ kX9_isUnder rfl ?_
          exact fz_zret kX9_isUnder rfl rfl (by omega) ⟨rfl, _, rfl, Or.inl ⟨rfl, by omega⟩⟩
    · refine fz_if_eq (tgt := 39) kX9_isUnder rfl (by decide) (fun c121 => ?_) (fun c121 => ?_)
      · refine fz_iconst ⟨by decide, by decide⟩ kX9_isUnder rfl ?_
        exact fz_zret kX9_isUnder rfl rfl (by omega) ⟨rfl, _, rfl, Or.inr ⟨rfl, by omega⟩⟩
      · exfalso; omega

abbrev qX9_isUnder_0 (h : fz_H) (tp : Int) : fz_H → Option fz_V → Prop := fun h' r0 => h' = h ∧ ∃ r : Int, r0 = some (fz_i r) ∧ ((r = 1 ∧ (tp = 0)) ∨ (r = 0 ∧ ¬ (tp = 0)))
set_option maxHeartbeats 1000000 in
set_option maxRecDepth 100000 in
theorem sX9_isUnder_0 (h : fz_H) (hI : fz_Iv h) (tp : Int) : fz_R 1 mX9_isUnder 0 [(0, fz_r 44), (1, fz_i 0), (2, fz_i tp)] [] h (qX9_isUnder_0 h tp) := by
  refine fz_knowl (fun hk => ?_)
  have hr_tp : -2147483648 ≤ tp ∧ tp < 2147483648 := hk _ (List.Mem.tail _ (List.Mem.tail _ (List.Mem.head _)))
  clear hk
  refine fz_iload_n kX9_isUnder rfl rfl ?_
  refine fz_istore_n (ls' := [(3, fz_i 0), (0, fz_r 44), (1, fz_i 0), (2, fz_i tp)]) kX9_isUnder rfl (by decide) rfl ?_
  refine fz_iconst ⟨by decide, by decide⟩ kX9_isUnder rfl ?_
  refine fz_istore (ls' := [(4, fz_i 0), (3, fz_i 0), (0, fz_r 44), (1, fz_i 0), (2, fz_i tp)]) kX9_isUnder rfl (by decide) rfl ?_
  refine fz_iload kX9_isUnder rfl rfl ?_
  refine fz_bipush ⟨by decide, by decide⟩ kX9_isUnder rfl ?_
  refine fz_icmp_ge (tgt := 39) kX9_isUnder rfl (by decide) (fun c1 => ?_) (fun c1 => ?_)
  · exfalso; omega
  · refine fz_aload_n kX9_isUnder rfl rfl ?_
    refine fz_iload_n kX9_isUnder rfl rfl ?_
    refine fz_callV (d' := 0) (M' := mX9_isKind) (As := [fz_i 0]) (st := []) kX9_isUnder rfl rfl vX9_isKind rfl rfl rfl rfl (Nat.le_of_ble_eq_true rfl) (Nat.le_of_ble_eq_true rfl) (by decide) (sX9_isKind h hI 0 ) (fun H2 r3 q4 o5 => ?_)
    obtain ⟨e6, y7, rfl, p8⟩ := q4
    subst H2
    clear o5
    rcases p8 with ⟨rfl, c9⟩ | ⟨rfl, c9⟩
    · refine fz_if_eq (tgt := 39) kX9_isUnder rfl (by decide) (fun c10 => ?_) (fun c10 => ?_)
      · exfalso; omega
      · refine fz_iload_n kX9_isUnder rfl rfl ?_
        refine fz_iload_n kX9_isUnder rfl rfl ?_
        refine fz_icmp_ne (tgt := 27) kX9_isUnder rfl (by decide) (fun c11 => ?_) (fun c11 => ?_)
        · refine fz_gets kX9_isUnder rfl ?_
          refine fz_iload_n kX9_isUnder rfl rfl ?_
          refine fz_taldV (v := (-1)) kX9_isUnder rfl ⟨by decide, by decide⟩ (by omega) (by rw [hI.2.2.2.2]; decide) (by rw [hI.2.2.2.2]; rfl) ?_
          refine fz_istore_n (ls' := [(3, fz_i (-1)), (4, fz_i 0), (0, fz_r 44), (1, fz_i 0), (2, fz_i tp)]) kX9_isUnder rfl (by decide) rfl ?_
          refine fz_iincN (ls' := [(4, fz_i (0 + 1)), (3, fz_i (-1)), (0, fz_r 44), (1, fz_i 0), (2, fz_i tp)]) kX9_isUnder rfl (by decide) rfl (by omega) rfl ?_
          refine fz_goto (tgt := 5) kX9_isUnder rfl (by decide) ?_
          refine fz_iload kX9_isUnder rfl rfl ?_
          refine fz_bipush ⟨by decide, by decide⟩ kX9_isUnder rfl ?_
          refine fz_icmp_ge (tgt := 39) kX9_isUnder rfl (by decide) (fun c14 => ?_) (fun c14 => ?_)
          · exfalso; omega
          · refine fz_aload_n kX9_isUnder rfl rfl ?_
            refine fz_iload_n kX9_isUnder rfl rfl ?_
            refine fz_callV (d' := 0) (M' := mX9_isKind) (As := [fz_i (-1)]) (st := []) kX9_isUnder rfl rfl vX9_isKind rfl rfl rfl rfl (Nat.le_of_ble_eq_true rfl) (Nat.le_of_ble_eq_true rfl) (by decide) (sX9_isKind h hI (-1) ) (fun H15 r16 q17 o18 => ?_)
            obtain ⟨e19, y20, rfl, p21⟩ := q17
            subst H15
            clear o18
            rcases p21 with ⟨rfl, c22⟩ | ⟨rfl, c22⟩
            · refine fz_if_eq (tgt := 39) kX9_isUnder rfl (by decide) (fun c23 => ?_) (fun c23 => ?_)
              · exfalso; omega
              · refine fz_iload_n kX9_isUnder rfl rfl ?_
                refine fz_iload_n kX9_isUnder rfl rfl ?_
                refine fz_icmp_ne (tgt := 27) kX9_isUnder rfl (by decide) (fun c24 => ?_) (fun c24 => ?_)
                · refine fz_gets kX9_isUnder rfl ?_
                  refine fz_iload_n kX9_isUnder rfl rfl ?_
                  obtain ⟨z25, e26⟩ : ∃ z, h 204 ((-1)).toNat = z := ⟨_, rfl⟩
                  refine fz_taldV (v := z25) kX9_isUnder rfl ⟨by decide, by decide⟩ (by omega) (by rw [show h 204 100000 = 8 by rw [hI.2.2.2.2]; rfl]; omega) e26 ?_
                  have t27 := fz_tb204 (h := h) hI.2.2.2.2 (show 0 ≤ (-1) ∧ (-1) < 8 by omega)
                  rw [e26] at t27
                  refine fz_istore_n (ls' := [(3, fz_i z25), (4, fz_i (0 + 1)), (0, fz_r 44), (1, fz_i 0), (2, fz_i tp)]) kX9_isUnder rfl (by decide) rfl ?_
                  refine fz_iincN (ls' := [(4, fz_i ((0 + 1) + 1)), (3, fz_i z25), (0, fz_r 44), (1, fz_i 0), (2, fz_i tp)]) kX9_isUnder rfl (by decide) rfl (by omega) rfl ?_
                  refine fz_goto (tgt := 5) kX9_isUnder rfl (by decide) ?_
                  refine fz_iload kX9_isUnder rfl rfl ?_
                  refine fz_bipush ⟨by decide, by decide⟩ kX9_isUnder rfl ?_
                  refine fz_icmp_ge (tgt := 39) kX9_isUnder rfl (by decide) (fun c28 => ?_) (fun c28 => ?_)
                  · exfalso; omega
                  · refine fz_aload_n kX9_isUnder rfl rfl ?_
                    refine fz_iload_n kX9_isUnder rfl rfl ?_
                    refine fz_callV (d' := 0) (M' := mX9_isKind) (As := [fz_i z25]) (st := []) kX9_isUnder rfl rfl vX9_isKind rfl rfl rfl rfl (Nat.le_of_ble_eq_true rfl) (Nat.le_of_ble_eq_true rfl) (by decide) (sX9_isKind h hI z25 ) (fun H29 r30 q31 o32 => ?_)
                    obtain ⟨e33, y34, rfl, p35⟩ := q31
                    subst H29
                    clear o32
                    rcases p35 with ⟨rfl, c36⟩ | ⟨rfl, c36⟩
                    · refine fz_if_eq (tgt := 39) kX9_isUnder rfl (by decide) (fun c37 => ?_) (fun c37 => ?_)
                      · exfalso; omega
                      · refine fz_iload_n kX9_isUnder rfl rfl ?_
                        refine fz_iload_n kX9_isUnder rfl rfl ?_
                        refine fz_icmp_ne (tgt := 27) kX9_isUnder rfl (by decide) (fun c38 => ?_) (fun c38 => ?_)
                        · refine fz_gets kX9_isUnder rfl ?_
                          refine fz_iload_n kX9_isUnder rfl rfl ?_
                          obtain ⟨z39, e40⟩ : ∃ z, h 204 (z25).toNat = z := ⟨_, rfl⟩
                          refine fz_taldV (v := z39) kX9_isUnder rfl ⟨by decide, by decide⟩ (by omega) (by rw [show h 204 100000 = 8 by rw [hI.2.2.2.2]; rfl]; omega) e40 ?_
                          have t41 := fz_tb204 (h := h) hI.2.2.2.2 (show 0 ≤ z25 ∧ z25 < 8 by omega)
                          rw [e40] at t41
                          refine fz_istore_n (ls' := [(3, fz_i z39), (4, fz_i ((0 + 1) + 1)), (0, fz_r 44), (1, fz_i 0), (2, fz_i tp)]) kX9_isUnder rfl (by decide) rfl ?_
                          refine fz_iincN (ls' := [(4, fz_i (((0 + 1) + 1) + 1)), (3, fz_i z39), (0, fz_r 44), (1, fz_i 0), (2, fz_i tp)]) kX9_isUnder rfl (by decide) rfl (by omega) rfl ?_
                          refine fz_goto (tgt := 5) kX9_isUnder rfl (by decide) ?_
                          refine fz_iload kX9_isUnder rfl rfl ?_
                          refine fz_bipush ⟨by decide, by decide⟩ kX9_isUnder rfl ?_
                          refine fz_icmp_ge (tgt := 39) kX9_isUnder rfl (by decide) (fun c42 => ?_) (fun c42 => ?_)
                          · exfalso; omega
                          · refine fz_aload_n kX9_isUnder rfl rfl ?_
                            refine fz_iload_n kX9_isUnder rfl rfl ?_
                            refine fz_callV (d' := 0) (M' := mX9_isKind) (As := [fz_i z39]) (st := []) kX9_isUnder rfl rfl vX9_isKind rfl rfl rfl rfl (Nat.le_of_ble_eq_true rfl) (Nat.le_of_ble_eq_true rfl) (by decide) (sX9_isKind h hI z39 ) (fun H43 r44 q45 o46 => ?_)
                            obtain ⟨e47, y48, rfl, p49⟩ := q45
                            subst H43
                            clear o46
                            rcases p49 with ⟨rfl, c50⟩ | ⟨rfl, c50⟩
                            · refine fz_if_eq (tgt := 39) kX9_isUnder rfl (by decide) (fun c51 => ?_) (fun c51 => ?_)
                              · exfalso; omega
                              · refine fz_iload_n kX9_isUnder rfl rfl ?_
                                refine fz_iload_n kX9_isUnder rfl rfl ?_
                                refine fz_icmp_ne (tgt := 27) kX9_isUnder rfl (by decide) (fun c52 => ?_) (fun c52 => ?_)
                                · refine fz_gets kX9_isUnder rfl ?_
                                  refine fz_iload_n kX9_isUnder rfl rfl ?_
                                  obtain ⟨z53, e54⟩ : ∃ z, h 204 (z39).toNat = z := ⟨_, rfl⟩
                                  refine fz_taldV (v := z53) kX9_isUnder rfl ⟨by decide, by decide⟩ (by omega) (by rw [show h 204 100000 = 8 by rw [hI.2.2.2.2]; rfl]; omega) e54 ?_
                                  have t55 := fz_tb204 (h := h) hI.2.2.2.2 (show 0 ≤ z39 ∧ z39 < 8 by omega)
                                  rw [e54] at t55
                                  refine fz_istore_n (ls' := [(3, fz_i z53), (4, fz_i (((0 + 1) + 1) + 1)), (0, fz_r 44), (1, fz_i 0), (2, fz_i tp)]) kX9_isUnder rfl (by decide) rfl ?_
                                  refine fz_iincN (ls' := [(4, fz_i ((((0 + 1) + 1) + 1) + 1)), (3, fz_i z53), (0, fz_r 44), (1, fz_i 0), (2, fz_i tp)]) kX9_isUnder rfl (by decide) rfl (by omega) rfl ?_
                                  refine fz_goto (tgt := 5) kX9_isUnder rfl (by decide) ?_
                                  refine fz_iload kX9_isUnder rfl rfl ?_
                                  refine fz_bipush ⟨by decide, by decide⟩ kX9_isUnder rfl ?_
                                  refine fz_icmp_ge (tgt := 39) kX9_isUnder rfl (by decide) (fun c56 => ?_) (fun c56 => ?_)
                                  · exfalso; omega
                                  · refine fz_aload_n kX9_isUnder rfl rfl ?_
                                    refine fz_iload_n kX9_isUnder rfl rfl ?_
                                    refine fz_callV (d' := 0) (M' := mX9_isKind) (As := [fz_i z53]) (st := []) kX9_isUnder rfl rfl vX9_isKind rfl rfl rfl rfl (Nat.le_of_ble_eq_true rfl) (Nat.le_of_ble_eq_true rfl) (by decide) (sX9_isKind h hI z53 ) (fun H57 r58 q59 o60 => ?_)
                                    obtain ⟨e61, y62, rfl, p63⟩ := q59
                                    subst H57
                                    clear o60
                                    rcases p63 with ⟨rfl, c64⟩ | ⟨rfl, c64⟩
                                    · refine fz_if_eq (tgt := 39) kX9_isUnder rfl (by decide) (fun c65 => ?_) (fun c65 => ?_)
                                      · exfalso; omega
                                      · refine fz_iload_n kX9_isUnder rfl rfl ?_
                                        refine fz_iload_n kX9_isUnder rfl rfl ?_
                                        refine fz_icmp_ne (tgt := 27) kX9_isUnder rfl (by decide) (fun c66 => ?_) (fun c66 => ?_)
                                        · refine fz_gets kX9_isUnder rfl ?_
                                          refine fz_iload_n kX9_isUnder rfl rfl ?_
                                          obtain ⟨z67, e68⟩ : ∃ z, h 204 (z53).toNat = z := ⟨_, rfl⟩
                                          refine fz_taldV (v := z67) kX9_isUnder rfl ⟨by decide, by decide⟩ (by omega) (by rw [show h 204 100000 = 8 by rw [hI.2.2.2.2]; rfl]; omega) e68 ?_
                                          have t69 := fz_tb204 (h := h) hI.2.2.2.2 (show 0 ≤ z53 ∧ z53 < 8 by omega)
                                          rw [e68] at t69
                                          refine fz_istore_n (ls' := [(3, fz_i z67), (4, fz_i ((((0 + 1) + 1) + 1) + 1)), (0, fz_r 44), (1, fz_i 0), (2, fz_i tp)]) kX9_isUnder rfl (by decide) rfl ?_
                                          refine fz_iincN (ls' := [(4, fz_i (((((0 + 1) + 1) + 1) + 1) + 1)), (3, fz_i z67), (0, fz_r 44), (1, fz_i 0), (2, fz_i tp)]) kX9_isUnder rfl (by decide) rfl (by omega) rfl ?_
                                          refine fz_goto (tgt := 5) kX9_isUnder rfl (by decide) ?_
                                          refine fz_iload kX9_isUnder rfl rfl ?_
                                          refine fz_bipush ⟨by decide, by decide⟩ kX9_isUnder rfl ?_
                                          refine fz_icmp_ge (tgt := 39) kX9_isUnder rfl (by decide) (fun c70 => ?_) (fun c70 => ?_)
                                          · exfalso; omega
                                          · refine fz_aload_n kX9_isUnder rfl rfl ?_
                                            refine fz_iload_n kX9_isUnder rfl rfl ?_
                                            refine fz_callV (d' := 0) (M' := mX9_isKind) (As := [fz_i z67]) (st := []) kX9_isUnder rfl rfl vX9_isKind rfl rfl rfl rfl (Nat.le_of_ble_eq_true rfl) (Nat.le_of_ble_eq_true rfl) (by decide) (sX9_isKind h hI z67 ) (fun H71 r72 q73 o74 => ?_)
                                            obtain ⟨e75, y76, rfl, p77⟩ := q73
                                            subst H71
                                            clear o74
                                            rcases p77 with ⟨rfl, c78⟩ | ⟨rfl, c78⟩
                                            · refine fz_if_eq (tgt := 39) kX9_isUnder rfl (by decide) (fun c79 => ?_) (fun c79 => ?_)
                                              · exfalso; omega
                                              · refine fz_iload_n kX9_isUnder rfl rfl ?_
                                                refine fz_iload_n kX9_isUnder rfl rfl ?_
                                                refine fz_icmp_ne (tgt := 27) kX9_isUnder rfl (by decide) (fun c80 => ?_) (fun c80 => ?_)
                                                · refine fz_gets kX9_isUnder rfl ?_
                                                  refine fz_iload_n kX9_isUnder rfl rfl ?_
                                                  obtain ⟨z81, e82⟩ : ∃ z, h 204 (z67).toNat = z := ⟨_, rfl⟩
                                                  refine fz_taldV (v := z81) kX9_isUnder rfl ⟨by decide, by decide⟩ (by omega) (by rw [show h 204 100000 = 8 by rw [hI.2.2.2.2]; rfl]; omega) e82 ?_
                                                  have t83 := fz_tb204 (h := h) hI.2.2.2.2 (show 0 ≤ z67 ∧ z67 < 8 by omega)
                                                  rw [e82] at t83
                                                  refine fz_istore_n (ls' := [(3, fz_i z81), (4, fz_i (((((0 + 1) + 1) + 1) + 1) + 1)), (0, fz_r 44), (1, fz_i 0), (2, fz_i tp)]) kX9_isUnder rfl (by decide) rfl ?_
                                                  refine fz_iincN (ls' := [(4, fz_i ((((((0 + 1) + 1) + 1) + 1) + 1) + 1)), (3, fz_i z81), (0, fz_r 44), (1, fz_i 0), (2, fz_i tp)]) kX9_isUnder rfl (by decide) rfl (by omega) rfl ?_
                                                  refine fz_goto (tgt := 5) kX9_isUnder rfl (by decide) ?_
                                                  refine fz_iload kX9_isUnder rfl rfl ?_
                                                  refine fz_bipush ⟨by decide, by decide⟩ kX9_isUnder rfl ?_
                                                  refine fz_icmp_ge (tgt := 39) kX9_isUnder rfl (by decide) (fun c84 => ?_) (fun c84 => ?_)
                                                  · exfalso; omega
                                                  · refine fz_aload_n kX9_isUnder rfl rfl ?_
                                                    refine fz_iload_n kX9_isUnder rfl rfl ?_
                                                    refine fz_callV (d' := 0) (M' := mX9_isKind) (As := [fz_i z81]) (st := []) kX9_isUnder rfl rfl vX9_isKind rfl rfl rfl rfl (Nat.le_of_ble_eq_true rfl) (Nat.le_of_ble_eq_true rfl) (by decide) (sX9_isKind h hI z81 ) (fun H85 r86 q87 o88 => ?_)
                                                    obtain ⟨e89, y90, rfl, p91⟩ := q87
                                                    subst H85
                                                    clear o88
                                                    rcases p91 with ⟨rfl, c92⟩ | ⟨rfl, c92⟩
                                                    · refine fz_if_eq (tgt := 39) kX9_isUnder rfl (by decide) (fun c93 => ?_) (fun c93 => ?_)
                                                      · exfalso; omega
                                                      · refine fz_iload_n kX9_isUnder rfl rfl ?_
                                                        refine fz_iload_n kX9_isUnder rfl rfl ?_
                                                        refine fz_icmp_ne (tgt := 27) kX9_isUnder rfl (by decide) (fun c94 => ?_) (fun c94 => ?_)
                                                        · refine fz_gets kX9_isUnder rfl ?_
                                                          refine fz_iload_n kX9_isUnder rfl rfl ?_
                                                          obtain ⟨z95, e96⟩ : ∃ z, h 204 (z81).toNat = z := ⟨_, rfl⟩
                                                          refine fz_taldV (v := z95) kX9_isUnder rfl ⟨by decide, by decide⟩ (by omega) (by rw [show h 204 100000 = 8 by rw [hI.2.2.2.2]; rfl]; omega) e96 ?_
                                                          have t97 := fz_tb204 (h := h) hI.2.2.2.2 (show 0 ≤ z81 ∧ z81 < 8 by omega)
                                                          rw [e96] at t97
                                                          refine fz_istore_n (ls' := [(3, fz_i z95), (4, fz_i ((((((0 + 1) + 1) + 1) + 1) + 1) + 1)), (0, fz_r 44), (1, fz_i 0), (2, fz_i tp)]) kX9_isUnder rfl (by decide) rfl ?_
                                                          refine fz_iincN (ls' := [(4, fz_i (((((((0 + 1) + 1) + 1) + 1) + 1) + 1) + 1)), (3, fz_i z95), (0, fz_r 44), (1, fz_i 0), (2, fz_i tp)]) kX9_isUnder rfl (by decide) rfl (by omega) rfl ?_
                                                          refine fz_goto (tgt := 5) kX9_isUnder rfl (by decide) ?_
                                                          refine fz_iload kX9_isUnder rfl rfl ?_
                                                          refine fz_bipush ⟨by decide, by decide⟩ kX9_isUnder rfl ?_
                                                          refine fz_icmp_ge (tgt := 39) kX9_isUnder rfl (by decide) (fun c98 => ?_) (fun c98 => ?_)
                                                          · exfalso; omega
                                                          · refine fz_aload_n kX9_isUnder rfl rfl ?_
                                                            refine fz_iload_n kX9_isUnder rfl rfl ?_
                                                            refine fz_callV (d' := 0) (M' := mX9_isKind) (As := [fz_i z95]) (st := []) kX9_isUnder rfl rfl vX9_isKind rfl rfl rfl rfl (Nat.le_of_ble_eq_true rfl) (Nat.le_of_ble_eq_true rfl) (by decide) (sX9_isKind h hI z95 ) (fun H99 r100 q101 o102 => ?_)
                                                            obtain ⟨e103, y104, rfl, p105⟩ := q101
                                                            subst H99
                                                            clear o102
                                                            rcases p105 with ⟨rfl, c106⟩ | ⟨rfl, c106⟩
                                                            · refine fz_if_eq (tgt := 39) kX9_isUnder rfl (by decide) (fun c107 => ?_) (fun c107 => ?_)
                                                              · exfalso; omega
                                                              · refine fz_iload_n kX9_isUnder rfl rfl ?_
                                                                refine fz_iload_n kX9_isUnder rfl rfl ?_
                                                                refine fz_icmp_ne (tgt := 27) kX9_isUnder rfl (by decide) (fun c108 => ?_) (fun c108 => ?_)
                                                                · refine fz_gets kX9_isUnder rfl ?_
                                                                  refine fz_iload_n kX9_isUnder rfl rfl ?_
                                                                  obtain ⟨z109, e110⟩ : ∃ z, h 204 (z95).toNat = z := ⟨_, rfl⟩
                                                                  refine fz_taldV (v := z109) kX9_isUnder rfl ⟨by decide, by decide⟩ (by omega) (by rw [show h 204 100000 = 8 by rw [hI.2.2.2.2]; rfl]; omega) e110 ?_
                                                                  have t111 := fz_tb204 (h := h) hI.2.2.2.2 (show 0 ≤ z95 ∧ z95 < 8 by omega)
                                                                  rw [e110] at t111
                                                                  refine fz_istore_n (ls' := [(3, fz_i z109), (4, fz_i (((((((0 + 1) + 1) + 1) + 1) + 1) + 1) + 1)), (0, fz_r 44), (1, fz_i 0), (2, fz_i tp)]) kX9_isUnder rfl (by decide) rfl ?_
                                                                  refine fz_iincN (ls' := [(4, fz_i ((((((((0 + 1) + 1) + 1) + 1) + 1) + 1) + 1) + 1)), (3, fz_i z109), (0, fz_r 44), (1, fz_i 0), (2, fz_i tp)]) kX9_isUnder rfl (by decide) rfl (by omega) rfl ?_
                                                                  refine fz_goto (tgt := 5) kX9_isUnder rfl (by decide) ?_
                                                                  refine fz_iload kX9_isUnder rfl rfl ?_
                                                                  refine fz_bipush ⟨by decide, by decide⟩ kX9_isUnder rfl ?_
                                                                  refine fz_icmp_ge (tgt := 39) kX9_isUnder rfl (by decide) (fun c112 => ?_) (fun c112 => ?_)
                                                                  · refine fz_iconst ⟨by decide, by decide⟩ kX9_isUnder rfl ?_
                                                                    exact fz_zret kX9_isUnder rfl rfl (by omega) ⟨rfl, _, rfl, Or.inr ⟨rfl, by omega⟩⟩
                                                                  · exfalso; omega
                                                                · refine fz_iconst ⟨by decide, by decide⟩ kX9_isUnder rfl ?_
                                                                  exact fz_zret kX9_isUnder rfl rfl (by omega) ⟨rfl, _, rfl, Or.inl ⟨rfl, by omega⟩⟩
                                                            · refine fz_if_eq (tgt := 39) kX9_isUnder rfl (by decide) (fun c113 => ?_) (fun c113 => ?_)
                                                              · refine fz_iconst ⟨by decide, by decide⟩ kX9_isUnder rfl ?_
                                                                exact fz_zret kX9_isUnder rfl rfl (by omega) ⟨rfl, _, rfl, Or.inr ⟨rfl, by omega⟩⟩
                                                              · exfalso; omega
                                                        · refine fz_iconst ⟨by decide, by decide⟩ kX9_isUnder rfl ?_
                                                          exact fz_zret kX9_isUnder rfl rfl (by omega) ⟨rfl, _, rfl, Or.inl ⟨rfl, by omega⟩⟩
                                                    · refine fz_if_eq (tgt := 39) kX9_isUnder rfl (by decide) (fun c114 => ?_) (fun c114 => ?_)
                                                      · refine fz_iconst ⟨by decide, by decide⟩ kX9_isUnder rfl ?_
                                                        exact fz_zret kX9_isUnder rfl rfl (by omega) ⟨rfl, _, rfl, Or.inr ⟨rfl, by omega⟩⟩
                                                      · exfalso; omega
                                                · refine fz_iconst ⟨by decide, by decide⟩ kX9_isUnder rfl ?_
                                                  exact fz_zret kX9_isUnder rfl rfl (by omega) ⟨rfl, _, rfl, Or.inl ⟨rfl, by omega⟩⟩
                                            · refine fz_if_eq (tgt := 39) kX9_isUnder rfl (by decide) (fun c115 => ?_) (fun c115 => ?_)
                                              · refine fz_iconst ⟨by decide, by decide⟩ kX9_isUnder rfl ?_
                                                exact fz_zret kX9_isUnder rfl rfl (by omega) ⟨rfl, _, rfl, Or.inr ⟨rfl, by omega⟩⟩
                                              · exfalso; omega
                                        · refine fz_iconst ⟨by decide, by decide⟩ kX9_isUnder rfl ?_
                                          exact fz_zret kX9_isUnder rfl rfl (by omega) ⟨rfl, _, rfl, Or.inl ⟨rfl, by omega⟩⟩
                                    · refine fz_if_eq (tgt := 39) kX9_isUnder rfl (by decide) (fun c116 => ?_) (fun c116 => ?_)
                                      · refine fz_iconst ⟨by decide, by decide⟩ kX9_isUnder rfl ?_
                                        exact fz_zret kX9_isUnder rfl rfl (by omega) ⟨rfl, _, rfl, Or.inr ⟨rfl, by omega⟩⟩
                                      · exfalso; omega
                                · refine fz_iconst ⟨by decide, by decide⟩ kX9_isUnder rfl ?_
                                  exact fz_zret kX9_isUnder rfl rfl (by omega) ⟨rfl, _, rfl, Or.inl ⟨rfl, by omega⟩⟩
                            · refine fz_if_eq (tgt := 39) kX9_isUnder rfl (by decide) (fun c117 => ?_) (fun c117 => ?_)
                              · refine fz_iconst ⟨by decide, by decide⟩ kX9_isUnder rfl ?_
                                exact fz_zret kX9_isUnder rfl rfl (by omega) ⟨rfl, _, rfl, Or.inr ⟨rfl, by omega⟩⟩
                              · exfalso; omega
                        · refine fz_iconst ⟨by decide, by decide⟩ kX9_isUnder rfl ?_
                          exact fz_zret kX9_isUnder rfl rfl (by omega) ⟨rfl, _, rfl, Or.inl ⟨rfl, by omega⟩⟩
                    · refine fz_if_eq (tgt := 39) kX9_isUnder rfl (by decide) (fun c118 => ?_) (fun c118 => ?_)
                      · refine fz_iconst ⟨by decide, by decide⟩ kX9_isUnder rfl ?_
                        exact fz_zret kX9_isUnder rfl rfl (by omega) ⟨rfl, _, rfl, Or.inr ⟨rfl, by omega⟩⟩
                      · exfalso; omega
                · refine fz_iconst ⟨by decide, by decide⟩ kX9_isUnder rfl ?_
                  exact fz_zret kX9_isUnder rfl rfl (by omega) ⟨rfl, _, rfl, Or.inl ⟨rfl, by omega⟩⟩
            · refine fz_if_eq (tgt := 39) kX9_isUnder rfl (by decide) (fun c119 => ?_) (fun c119 => ?_)
              · refine fz_iconst ⟨by decide, by decide⟩ kX9_isUnder rfl ?_
                exact fz_zret kX9_isUnder rfl rfl (by omega) ⟨rfl, _, rfl, Or.inr ⟨rfl, by omega⟩⟩
              · exfalso; omega
        · refine fz_iconst ⟨by decide, by decide⟩ kX9_isUnder rfl ?_
          exact fz_zret kX9_isUnder rfl rfl (by omega) ⟨rfl, _, rfl, Or.inl ⟨rfl, by omega⟩⟩
    · refine fz_if_eq (tgt := 39) kX9_isUnder rfl (by decide) (fun c120 => ?_) (fun c120 => ?_)
      · refine fz_iconst ⟨by decide, by decide⟩ kX9_isUnder rfl ?_
        exact fz_zret kX9_isUnder rfl rfl (by omega) ⟨rfl, _, rfl, Or.inr ⟨rfl, by omega⟩⟩
      · exfalso; omega

abbrev qX9_isUnder_1 (h : fz_H) (tp : Int) : fz_H → Option fz_V → Prop := fun h' r0 => h' = h ∧ ∃ r : Int, r0 = some (fz_i r) ∧ ((r = 1 ∧ (tp = 1 ∨ tp = 0)) ∨ (r = 0 ∧ ¬ (tp = 1 ∨ tp = 0)))
set_option maxHeartbeats 1000000 in
set_option maxRecDepth 100000 in
theorem sX9_isUnder_1 (h : fz_H) (hI : fz_Iv h) (tp : Int) : fz_R 1 mX9_isUnder 0 [(0, fz_r 44), (1, fz_i 1), (2, fz_i tp)] [] h (qX9_isUnder_1 h tp) := by
  refine fz_knowl (fun hk => ?_)
  have hr_tp : -2147483648 ≤ tp ∧ tp < 2147483648 := hk _ (List.Mem.tail _ (List.Mem.tail _ (List.Mem.head _)))
  clear hk
  refine fz_iload_n kX9_isUnder rfl rfl ?_
  refine fz_istore_n (ls' := [(3, fz_i 1), (0, fz_r 44), (1, fz_i 1), (2, fz_i tp)]) kX9_isUnder rfl (by decide) rfl ?_
  refine fz_iconst ⟨by decide, by decide⟩ kX9_isUnder rfl ?_
  refine fz_istore (ls' := [(4, fz_i 0), (3, fz_i 1), (0, fz_r 44), (1, fz_i 1), (2, fz_i tp)]) kX9_isUnder rfl (by decide) rfl ?_
  refine fz_iload kX9_isUnder rfl rfl ?_
  refine fz_bipush ⟨by decide, by decide⟩ kX9_isUnder rfl ?_
  refine fz_icmp_ge (tgt := 39) kX9_isUnder rfl (by decide) (fun c1 => ?_) (fun c1 => ?_)
  · exfalso; omega
  · refine fz_aload_n kX9_isUnder rfl rfl ?_
    refine fz_iload_n kX9_isUnder rfl rfl ?_
    refine fz_callV (d' := 0) (M' := mX9_isKind) (As := [fz_i 1]) (st := []) kX9_isUnder rfl rfl vX9_isKind rfl rfl rfl rfl (Nat.le_of_ble_eq_true rfl) (Nat.le_of_ble_eq_true rfl) (by decide) (sX9_isKind h hI 1 ) (fun H2 r3 q4 o5 => ?_)
    obtain ⟨e6, y7, rfl, p8⟩ := q4
    subst H2
    clear o5
    rcases p8 with ⟨rfl, c9⟩ | ⟨rfl, c9⟩
    · refine fz_if_eq (tgt := 39) kX9_isUnder rfl (by decide) (fun c10 => ?_) (fun c10 => ?_)
      · exfalso; omega
      · refine fz_iload_n kX9_isUnder rfl rfl ?_
        refine fz_iload_n kX9_isUnder rfl rfl ?_
        refine fz_icmp_ne (tgt := 27) kX9_isUnder rfl (by decide) (fun c11 => ?_) (fun c11 => ?_)
        · refine fz_gets kX9_isUnder rfl ?_
          refine fz_iload_n kX9_isUnder rfl rfl ?_
          refine fz_taldV (v := 0) kX9_isUnder rfl ⟨by decide, by decide⟩ (by omega) (by rw [hI.2.2.2.2]; decide) (by rw [hI.2.2.2.2]; rfl) ?_
          refine fz_istore_n (ls' := [(3, fz_i 0), (4, fz_i 0), (0, fz_r 44), (1, fz_i 1), (2, fz_i tp)]) kX9_isUnder rfl (by decide) rfl ?_
          refine fz_iincN (ls' := [(4, fz_i (0 + 1)), (3, fz_i 0), (0, fz_r 44), (1, fz_i 1), (2, fz_i tp)]) kX9_isUnder rfl (by decide) rfl (by omega) rfl ?_
          refine fz_goto (tgt := 5) kX9_isUnder rfl (by decide) ?_
          refine fz_iload kX9_isUnder rfl rfl ?_
          refine fz_bipush ⟨by decide, by decide⟩ kX9_isUnder rfl ?_
          refine fz_icmp_ge (tgt := 39) kX9_isUnder rfl (by decide) (fun c14 => ?_) (fun c14 => ?_)
          · exfalso; omega
          · refine fz_aload_n kX9_isUnder rfl rfl ?_
            refine fz_iload_n kX9_isUnder rfl rfl ?_
            refine fz_callV (d' := 0) (M' := mX9_isKind) (As := [fz_i 0]) (st := []) kX9_isUnder rfl rfl vX9_isKind rfl rfl rfl rfl (Nat.le_of_ble_eq_true rfl) (Nat.le_of_ble_eq_true rfl) (by decide) (sX9_isKind h hI 0 ) (fun H15 r16 q17 o18 => ?_)
            obtain ⟨e19, y20, rfl, p21⟩ := q17
            subst H15
            clear o18
            rcases p21 with ⟨rfl, c22⟩ | ⟨rfl, c22⟩
            · refine fz_if_eq (tgt := 39) kX9_isUnder rfl (by decide) (fun c23 => ?_) (fun c23 => ?_)
              · exfalso; omega
              · refine fz_iload_n kX9_isUnder rfl rfl ?_
                refine fz_iload_n kX9_isUnder rfl rfl ?_
                refine fz_icmp_ne (tgt := 27) kX9_isUnder rfl (by decide) (fun c24 => ?_) (fun c24 => ?_)
                · refine fz_gets kX9_isUnder rfl ?_
                  refine fz_iload_n kX9_isUnder rfl rfl ?_
                  refine fz_taldV (v := (-1)) kX9_isUnder rfl ⟨by decide, by decide⟩ (by omega) (by rw [hI.2.2.2.2]; decide) (by rw [hI.2.2.2.2]; rfl) ?_
                  refine fz_istore_n (ls' := [(3, fz_i (-1)), (4, fz_i (0 + 1)), (0, fz_r 44), (1, fz_i 1), (2, fz_i tp)]) kX9_isUnder rfl (by decide) rfl ?_
                  refine fz_iincN (ls' := [(4, fz_i ((0 + 1) + 1)), (3, fz_i (-1)), (0, fz_r 44), (1, fz_i 1), (2, fz_i tp)]) kX9_isUnder rfl (by decide) rfl (by omega) rfl ?_
                  refine fz_goto (tgt := 5) kX9_isUnder rfl (by decide) ?_
                  refine fz_iload kX9_isUnder rfl rfl ?_
                  refine fz_bipush ⟨by decide, by decide⟩ kX9_isUnder rfl ?_
                  refine fz_icmp_ge (tgt := 39) kX9_isUnder rfl (by decide) (fun c27 => ?_) (fun c27 => ?_)
                  · exfalso; omega
                  · refine fz_aload_n kX9_isUnder rfl rfl ?_
                    refine fz_iload_n kX9_isUnder rfl rfl ?_
                    refine fz_callV (d' := 0) (M' := mX9_isKind) (As := [fz_i (-1)]) (st := []) kX9_isUnder rfl rfl vX9_isKind rfl rfl rfl rfl (Nat.le_of_ble_eq_true rfl) (Nat.le_of_ble_eq_true rfl) (by decide) (sX9_isKind h hI (-1) ) (fun H28 r29 q30 o31 => ?_)
                    obtain ⟨e32, y33, rfl, p34⟩ := q30
                    subst H28
                    clear o31
                    rcases p34 with ⟨rfl, c35⟩ | ⟨rfl, c35⟩
                    · refine fz_if_eq (tgt := 39) kX9_isUnder rfl (by decide) (fun c36 => ?_) (fun c36 => ?_)
                      · exfalso; omega
                      · refine fz_iload_n kX9_isUnder rfl rfl ?_
                        refine fz_iload_n kX9_isUnder rfl rfl ?_
                        refine fz_icmp_ne (tgt := 27) kX9_isUnder rfl (by decide) (fun c37 => ?_) (fun c37 => ?_)
                        · refine fz_gets kX9_isUnder rfl ?_
                          refine fz_iload_n kX9_isUnder rfl rfl ?_
                          obtain ⟨z38, e39⟩ : ∃ z, h 204 ((-1)).toNat = z := ⟨_, rfl⟩
                          refine fz_taldV (v := z38) kX9_isUnder rfl ⟨by decide, by decide⟩ (by omega) (by rw [show h 204 100000 = 8 by rw [hI.2.2.2.2]; rfl]; omega) e39 ?_
                          have t40 := fz_tb204 (h := h) hI.2.2.2.2 (show 0 ≤ (-1) ∧ (-1) < 8 by omega)
                          rw [e39] at t40
                          refine fz_istore_n (ls' := [(3, fz_i z38), (4, fz_i ((0 + 1) + 1)), (0, fz_r 44), (1, fz_i 1), (2, fz_i tp)]) kX9_isUnder rfl (by decide) rfl ?_
                          refine fz_iincN (ls' := [(4, fz_i (((0 + 1) + 1) + 1)), (3, fz_i z38), (0, fz_r 44), (1, fz_i 1), (2, fz_i tp)]) kX9_isUnder rfl (by decide) rfl (by omega) rfl ?_
                          refine fz_goto (tgt := 5) kX9_isUnder rfl (by decide) ?_
                          refine fz_iload kX9_isUnder rfl rfl ?_
                          refine fz_bipush ⟨by decide, by decide⟩ kX9_isUnder rfl ?_
                          refine fz_icmp_ge (tgt := 39) kX9_isUnder rfl (by decide) (fun c41 => ?_) (fun c41 => ?_)
                          · exfalso; omega
                          · refine fz_aload_n kX9_isUnder rfl rfl ?_
                            refine fz_iload_n kX9_isUnder rfl rfl ?_
                            refine fz_callV (d' := 0) (M' := mX9_isKind) (As := [fz_i z38]) (st := []) kX9_isUnder rfl rfl vX9_isKind rfl rfl rfl rfl (Nat.le_of_ble_eq_true rfl) (Nat.le_of_ble_eq_true rfl) (by decide) (sX9_isKind h hI z38 ) (fun H42 r43 q44 o45 => ?_)
                            obtain ⟨e46, y47, rfl, p48⟩ := q44
                            subst H42
                            clear o45
                            rcases p48 with ⟨rfl, c49⟩ | ⟨rfl, c49⟩
                            · refine fz_if_eq (tgt := 39) kX9_isUnder rfl (by decide) (fun c50 => ?_) (fun c50 => ?_)
                              · exfalso; omega
                              · refine fz_iload_n kX9_isUnder rfl rfl ?_
                                refine fz_iload_n kX9_isUnder rfl rfl ?_
                                refine fz_icmp_ne (tgt := 27) kX9_isUnder rfl (by decide) (fun c51 => ?_) (fun c51 => ?_)
                                · refine fz_gets kX9_isUnder rfl ?_
                                  refine fz_iload_n kX9_isUnder rfl rfl ?_
                                  obtain ⟨z52, e53⟩ : ∃ z, h 204 (z38).toNat = z := ⟨_, rfl⟩
                                  refine fz_taldV (v := z52) kX9_isUnder rfl ⟨by decide, by decide⟩ (by omega) (by rw [show h 204 100000 = 8 by rw [hI.2.2.2.2]; rfl]; omega) e53 ?_
                                  have t54 := fz_tb204 (h := h) hI.2.2.2.2 (show 0 ≤ z38 ∧ z38 < 8 by omega)
                                  rw [e53] at t54
                                  refine fz_istore_n (ls' := [(3, fz_i z52), (4, fz_i (((0 + 1) + 1) + 1)), (0, fz_r 44), (1, fz_i 1), (2, fz_i tp)]) kX9_isUnder rfl (by decide) rfl ?_
                                  refine fz_iincN (ls' := [(4, fz_i ((((0 + 1) + 1) + 1) + 1)), (3, fz_i z52), (0, fz_r 44), (1, fz_i 1), (2, fz_i tp)]) kX9_isUnder rfl (by decide) rfl (by omega) rfl ?_
                                  refine fz_goto (tgt := 5) kX9_isUnder rfl (by decide) ?_
                                  refine fz_iload kX9_isUnder rfl rfl ?_
                                  refine fz_bipush ⟨by decide, by decide⟩ kX9_isUnder rfl ?_
                                  refine fz_icmp_ge (tgt := 39) kX9_isUnder rfl (by decide) (fun c55 => ?_) (fun c55 => ?_)
                                  · exfalso; omega
                                  · refine fz_aload_n kX9_isUnder rfl rfl ?_
                                    refine fz_iload_n kX9_isUnder rfl rfl ?_
                                    refine fz_callV (d' := 0) (M' := mX9_isKind) (As := [fz_i z52]) (st := []) kX9_isUnder rfl rfl vX9_isKind rfl rfl rfl rfl (Nat.le_of_ble_eq_true rfl) (Nat.le_of_ble_eq_true rfl) (by decide) (sX9_isKind h hI z52 ) (fun H56 r57 q58 o59 => ?_)
                                    obtain ⟨e60, y61, rfl, p62⟩ := q58
                                    subst H56
                                    clear o59
                                    rcases p62 with ⟨rfl, c63⟩ | ⟨rfl, c63⟩
                                    · refine fz_if_eq (tgt := 39) kX9_isUnder rfl (by decide) (fun c64 => ?_) (fun c64 => ?_)
                                      · exfalso; omega
                                      · refine fz_iload_n kX9_isUnder rfl rfl ?_
                                        refine fz_iload_n kX9_isUnder rfl rfl ?_
                                        refine fz_icmp_ne (tgt := 27) kX9_isUnder rfl (by decide) (fun c65 => ?_) (fun c65 => ?_)
                                        · refine fz_gets kX9_isUnder rfl ?_
                                          refine fz_iload_n kX9_isUnder rfl rfl ?_
                                          obtain ⟨z66, e67⟩ : ∃ z, h 204 (z52).toNat = z := ⟨_, rfl⟩
                                          refine fz_taldV (v := z66) kX9_isUnder rfl ⟨by decide, by decide⟩ (by omega) (by rw [show h 204 100000 = 8 by rw [hI.2.2.2.2]; rfl]; omega) e67 ?_
                                          have t68 := fz_tb204 (h := h) hI.2.2.2.2 (show 0 ≤ z52 ∧ z52 < 8 by omega)
                                          rw [e67] at t68
                                          refine fz_istore_n (ls' := [(3, fz_i z66), (4, fz_i ((((0 + 1) + 1) + 1) + 1)), (0, fz_r 44), (1, fz_i 1), (2, fz_i tp)]) kX9_isUnder rfl (by decide) rfl ?_
                                          refine fz_iincN (ls' := [(4, fz_i (((((0 + 1) + 1) + 1) + 1) + 1)), (3, fz_i z66), (0, fz_r 44), (1, fz_i 1), (2, fz_i tp)]) kX9_isUnder rfl (by decide) rfl (by omega) rfl ?_
                                          refine fz_goto (tgt := 5) kX9_isUnder rfl (by decide) ?_
                                          refine fz_iload kX9_isUnder rfl rfl ?_
                                          refine fz_bipush ⟨by decide, by decide⟩ kX9_isUnder rfl ?_
                                          refine fz_icmp_ge (tgt := 39) kX9_isUnder rfl (by decide) (fun c69 => ?_) (fun c69 => ?_)
                                          · exfalso; omega
                                          · refine fz_aload_n kX9_isUnder rfl rfl ?_
                                            refine fz_iload_n kX9_isUnder rfl rfl ?_
                                            refine fz_callV (d' := 0) (M' := mX9_isKind) (As := [fz_i z66]) (st := []) kX9_isUnder rfl rfl vX9_isKind rfl rfl rfl rfl (Nat.le_of_ble_eq_true rfl) (Nat.le_of_ble_eq_true rfl) (by decide) (sX9_isKind h hI z66 ) (fun H70 r71 q72 o73 => ?_)
                                            obtain ⟨e74, y75, rfl, p76⟩ := q72
                                            subst H70
                                            clear o73
                                            rcases p76 with ⟨rfl, c77⟩ | ⟨rfl, c77⟩
                                            · refine fz_if_eq (tgt := 39) kX9_isUnder rfl (by decide) (fun c78 => ?_) (fun c78 => ?_)
                                              · exfalso; omega
                                              · refine fz_iload_n kX9_isUnder rfl rfl ?_
                                                refine fz_iload_n kX9_isUnder rfl rfl ?_
                                                refine fz_icmp_ne (tgt := 27) kX9_isUnder rfl (by decide) (fun c79 => ?_) (fun c79 => ?_)
                                                · refine fz_gets kX9_isUnder rfl ?_
                                                  refine fz_iload_n kX9_isUnder rfl rfl ?_
                                                  obtain ⟨z80, e81⟩ : ∃ z, h 204 (z66).toNat = z := ⟨_, rfl⟩
                                                  refine fz_taldV (v := z80) kX9_isUnder rfl ⟨by decide, by decide⟩ (by omega) (by rw [show h 204 100000 = 8 by rw [hI.2.2.2.2]; rfl]; omega) e81 ?_
                                                  have t82 := fz_tb204 (h := h) hI.2.2.2.2 (show 0 ≤ z66 ∧ z66 < 8 by omega)
                                                  rw [e81] at t82
                                                  refine fz_istore_n (ls' := [(3, fz_i z80), (4, fz_i (((((0 + 1) + 1) + 1) + 1) + 1)), (0, fz_r 44), (1, fz_i 1), (2, fz_i tp)]) kX9_isUnder rfl (by decide) rfl ?_
                                                  refine fz_iincN (ls' := [(4, fz_i ((((((0 + 1) + 1) + 1) + 1) + 1) + 1)), (3, fz_i z80), (0, fz_r 44), (1, fz_i 1), (2, fz_i tp)]) kX9_isUnder rfl (by decide) rfl (by omega) rfl ?_
                                                  refine fz_goto (tgt := 5) kX9_isUnder rfl (by decide) ?_
                                                  refine fz_iload kX9_isUnder rfl rfl ?_
                                                  refine fz_bipush ⟨by decide, by decide⟩ kX9_isUnder rfl ?_
                                                  refine fz_icmp_ge (tgt := 39) kX9_isUnder rfl (by decide) (fun c83 => ?_) (fun c83 => ?_)
                                                  · exfalso; omega
                                                  · refine fz_aload_n kX9_isUnder rfl rfl ?_
                                                    refine fz_iload_n kX9_isUnder rfl rfl ?_
                                                    refine fz_callV (d' := 0) (M' := mX9_isKind) (As := [fz_i z80]) (st := []) kX9_isUnder rfl rfl vX9_isKind rfl rfl rfl rfl (Nat.le_of_ble_eq_true rfl) (Nat.le_of_ble_eq_true rfl) (by decide) (sX9_isKind h hI z80 ) (fun H84 r85 q86 o87 => ?_)
                                                    obtain ⟨e88, y89, rfl, p90⟩ := q86
                                                    subst H84
                                                    clear o87
                                                    rcases p90 with ⟨rfl, c91⟩ | ⟨rfl, c91⟩
                                                    · refine fz_if_eq (tgt := 39) kX9_isUnder rfl (by decide) (fun c92 => ?_) (fun c92 => ?_)
                                                      · exfalso; omega
                                                      · refine fz_iload_n kX9_isUnder rfl rfl ?_
                                                        refine fz_iload_n kX9_isUnder rfl rfl ?_
                                                        refine fz_icmp_ne (tgt := 27) kX9_isUnder rfl (by decide) (fun c93 => ?_) (fun c93 => ?_)
                                                        · refine fz_gets kX9_isUnder rfl ?_
                                                          refine fz_iload_n kX9_isUnder rfl rfl ?_
                                                          obtain ⟨z94, e95⟩ : ∃ z, h 204 (z80).toNat = z := ⟨_, rfl⟩
                                                          refine fz_taldV (v := z94) kX9_isUnder rfl ⟨by decide, by decide⟩ (by omega) (by rw [show h 204 100000 = 8 by rw [hI.2.2.2.2]; rfl]; omega) e95 ?_
                                                          have t96 := fz_tb204 (h := h) hI.2.2.2.2 (show 0 ≤ z80 ∧ z80 < 8 by omega)
                                                          rw [e95] at t96
                                                          refine fz_istore_n (ls' := [(3, fz_i z94), (4, fz_i ((((((0 + 1) + 1) + 1) + 1) + 1) + 1)), (0, fz_r 44), (1, fz_i 1), (2, fz_i tp)]) kX9_isUnder rfl (by decide) rfl ?_
                                                          refine fz_iincN (ls' := [(4, fz_i (((((((0 + 1) + 1) + 1) + 1) + 1) + 1) + 1)), (3, fz_i z94), (0, fz_r 44), (1, fz_i 1), (2, fz_i tp)]) kX9_isUnder rfl (by decide) rfl (by omega) rfl ?_
                                                          refine fz_goto (tgt := 5) kX9_isUnder rfl (by decide) ?_
                                                          refine fz_iload kX9_isUnder rfl rfl ?_
                                                          refine fz_bipush ⟨by decide, by decide⟩ kX9_isUnder rfl ?_
                                                          refine fz_icmp_ge (tgt := 39) kX9_isUnder rfl (by decide) (fun c97 => ?_) (fun c97 => ?_)
                                                          · exfalso; omega
                                                          · refine fz_aload_n kX9_isUnder rfl rfl ?_
                                                            refine fz_iload_n kX9_isUnder rfl rfl ?_
                                                            refine fz_callV (d' := 0) (M' := mX9_isKind) (As := [fz_i z94]) (st := []) kX9_isUnder rfl rfl vX9_isKind rfl rfl rfl rfl (Nat.le_of_ble_eq_true rfl) (Nat.le_of_ble_eq_true rfl) (by decide) (sX9_isKind h hI z94 ) (fun H98 r99 q100 o101 => ?_)
                                                            obtain ⟨e102, y103, rfl, p104⟩ := q100
                                                            subst H98
                                                            clear o101
                                                            rcases p104 with ⟨rfl, c105⟩ | ⟨rfl, c105⟩
                                                            · refine fz_if_eq (tgt := 39) kX9_isUnder rfl (by decide) (fun c106 => ?_) (fun c106 => ?_)
                                                              · exfalso; omega
                                                              · refine fz_iload_n kX9_isUnder rfl rfl ?_
                                                                refine fz_iload_n kX9_isUnder rfl rfl ?_
                                                                refine fz_icmp_ne (tgt := 27) kX9_isUnder rfl (by decide) (fun c107 => ?_) (fun c107 => ?_)
                                                                · refine fz_gets kX9_isUnder rfl ?_
                                                                  refine fz_iload_n kX9_isUnder rfl rfl ?_
                                                                  obtain ⟨z108, e109⟩ : ∃ z, h 204 (z94).toNat = z := ⟨_, rfl⟩
                                                                  refine fz_taldV (v := z108) kX9_isUnder rfl ⟨by decide, by decide⟩ (by omega) (by rw [show h 204 100000 = 8 by rw [hI.2.2.2.2]; rfl]; omega) e109 ?_
                                                                  have t110 := fz_tb204 (h := h) hI.2.2.2.2 (show 0 ≤ z94 ∧ z94 < 8 by omega)
                                                                  rw [e109] at t110
                                                                  refine fz_istore_n (ls' := [(3, fz_i z108), (4, fz_i (((((((0 + 1) + 1) + 1) + 1) + 1) + 1) + 1)), (0, fz_r 44), (1, fz_i 1), (2, fz_i tp)]) kX9_isUnder rfl (by decide) rfl ?_
                                                                  refine fz_iincN (ls' := [(4, fz_i ((((((((0 + 1) + 1) + 1) + 1) + 1) + 1) + 1) + 1)), (3, fz_i z108), (0, fz_r 44), (1, fz_i 1), (2, fz_i tp)]) kX9_isUnder rfl (by decide) rfl (by omega) rfl ?_
                                                                  refine fz_goto (tgt := 5) kX9_isUnder rfl (by decide) ?_
                                                                  refine fz_iload kX9_isUnder rfl rfl ?_
                                                                  refine fz_bipush ⟨by decide, by decide⟩ kX9_isUnder rfl ?_
                                                                  refine fz_icmp_ge (tgt := 39) kX9_isUnder rfl (by decide) (fun c111 => ?_) (fun c111 => ?_)
                                                                  · refine fz_iconst ⟨by decide, by decide⟩ kX9_isUnder rfl ?_
                                                                    exact fz_zret kX9_isUnder rfl rfl (by omega) ⟨rfl, _, rfl, Or.inr ⟨rfl, by omega⟩⟩
                                                                  · exfalso; omega
                                                                · refine fz_iconst ⟨by decide, by decide⟩ kX9_isUnder rfl ?_
                                                                  exact fz_zret kX9_isUnder rfl rfl (by omega) ⟨rfl, _, rfl, Or.inl ⟨rfl, by omega⟩⟩
                                                            · refine fz_if_eq (tgt := 39) kX9_isUnder rfl (by decide) (fun c112 => ?_) (fun c112 => ?_)
                                                              · refine fz_iconst ⟨by decide, by decide⟩ kX9_isUnder rfl ?_
                                                                exact fz_zret kX9_isUnder rfl rfl (by omega) ⟨rfl, _, rfl, Or.inr ⟨rfl, by omega⟩⟩
                                                              · exfalso; omega
                                                        · refine fz_iconst ⟨by decide, by decide⟩ kX9_isUnder rfl ?_
                                                          exact fz_zret kX9_isUnder rfl rfl (by omega) ⟨rfl, _, rfl, Or.inl ⟨rfl, by omega⟩⟩
                                                    · refine fz_if_eq (tgt := 39) kX9_isUnder rfl (by decide) (fun c113 => ?_) (fun c113 => ?_)
                                                      · refine fz_iconst ⟨by decide, by decide⟩ kX9_isUnder rfl ?_
                                                        exact fz_zret kX9_isUnder rfl rfl (by omega) ⟨rfl, _, rfl, Or.inr ⟨rfl, by omega⟩⟩
                                                      · exfalso; omega
                                                · refine fz_iconst ⟨by decide, by decide⟩ kX9_isUnder rfl ?_
                                                  exact fz_zret kX9_isUnder rfl rfl (by omega) ⟨rfl, _, rfl, Or.inl ⟨rfl, by omega⟩⟩
                                            · refine fz_if_eq (tgt := 39) kX9_isUnder rfl (by decide) (fun c114 => ?_) (fun c114 => ?_)
                                              · refine fz_iconst ⟨by decide, by decide⟩ kX9_isUnder rfl ?_
                                                exact fz_zret kX9_isUnder rfl rfl (by omega) ⟨rfl, _, rfl, Or.inr ⟨rfl, by omega⟩⟩
                                              · exfalso; omega
                                        · refine fz_iconst ⟨by decide, by decide⟩ kX9_isUnder rfl ?_
                                          exact fz_zret kX9_isUnder rfl rfl (by omega) ⟨rfl, _, rfl, Or.inl ⟨rfl, by omega⟩⟩
                                    · refine fz_if_eq (tgt := 39) kX9_isUnder rfl (by decide) (fun c115 => ?_) (fun c115 => ?_)
                                      · refine fz_iconst ⟨by decide, by decide⟩ kX9_isUnder rfl ?_
                                        exact fz_zret kX9_isUnder rfl rfl (by omega) ⟨rfl, _, rfl, Or.inr ⟨rfl, by omega⟩⟩
                                      · exfalso; omega
                                · refine fz_iconst ⟨by decide, by decide⟩ kX9_isUnder rfl ?_
                                  exact fz_zret kX9_isUnder rfl rfl (by omega) ⟨rfl, _, rfl, Or.inl ⟨rfl, by omega⟩⟩
                            · refine fz_if_eq (tgt := 39) kX9_isUnder rfl (by decide) (fun c116 => ?_) (fun c116 => ?_)
                              · refine fz_iconst ⟨by decide, by decide⟩ kX9_isUnder rfl ?_
                                exact fz_zret kX9_isUnder rfl rfl (by omega) ⟨rfl, _, rfl, Or.inr ⟨rfl, by omega⟩⟩
                              · exfalso; omega
                        · refine fz_iconst ⟨by decide, by decide⟩ kX9_isUnder rfl ?_
                          exact fz_zret kX9_isUnder rfl rfl (by omega) ⟨rfl, _, rfl, Or.inl ⟨rfl, by omega⟩⟩
                    · refine fz_if_eq (tgt := 39) kX9_isUnder rfl (by decide) (fun c117 => ?_) (fun c117 => ?_)
                      · refine fz_iconst ⟨by decide, by decide⟩ kX9_isUnder rfl ?_
                        exact fz_zret kX9_isUnder rfl rfl (by omega) ⟨rfl, _, rfl, Or.inr ⟨rfl, by omega⟩⟩
                      · exfalso; omega
                · refine fz_iconst ⟨by decide, by decide⟩ kX9_isUnder rfl ?_
                  exact fz_zret kX9_isUnder rfl rfl (by omega) ⟨rfl, _, rfl, Or.inl ⟨rfl, by omega⟩⟩
            · refine fz_if_eq (tgt := 39) kX9_isUnder rfl (by decide) (fun c118 => ?_) (fun c118 => ?_)
              · refine fz_iconst ⟨by decide, by decide⟩ kX9_isUnder rfl ?_
                exact fz_zret kX9_isUnder rfl rfl (by omega) ⟨rfl, _, rfl, Or.inr ⟨rfl, by omega⟩⟩
              · exfalso; omega
        · refine fz_iconst ⟨by decide, by decide⟩ kX9_isUnder rfl ?_
          exact fz_zret kX9_isUnder rfl rfl (by omega) ⟨rfl, _, rfl, Or.inl ⟨rfl, by omega⟩⟩
    · refine fz_if_eq (tgt := 39) kX9_isUnder rfl (by decide) (fun c119 => ?_) (fun c119 => ?_)
      · refine fz_iconst ⟨by decide, by decide⟩ kX9_isUnder rfl ?_
        exact fz_zret kX9_isUnder rfl rfl (by omega) ⟨rfl, _, rfl, Or.inr ⟨rfl, by omega⟩⟩
      · exfalso; omega

abbrev qX9_isUnder_2 (h : fz_H) (tp : Int) : fz_H → Option fz_V → Prop := fun h' r0 => h' = h ∧ ∃ r : Int, r0 = some (fz_i r) ∧ ((r = 1 ∧ (tp = 2 ∨ tp = 0)) ∨ (r = 0 ∧ ¬ (tp = 2 ∨ tp = 0)))
set_option maxHeartbeats 1000000 in
set_option maxRecDepth 100000 in
theorem sX9_isUnder_2 (h : fz_H) (hI : fz_Iv h) (tp : Int) : fz_R 1 mX9_isUnder 0 [(0, fz_r 44), (1, fz_i 2), (2, fz_i tp)] [] h (qX9_isUnder_2 h tp) := by
  refine fz_knowl (fun hk => ?_)
  have hr_tp : -2147483648 ≤ tp ∧ tp < 2147483648 := hk _ (List.Mem.tail _ (List.Mem.tail _ (List.Mem.head _)))
  clear hk
  refine fz_iload_n kX9_isUnder rfl rfl ?_
  refine fz_istore_n (ls' := [(3, fz_i 2), (0, fz_r 44), (1, fz_i 2), (2, fz_i tp)]) kX9_isUnder rfl (by decide) rfl ?_
  refine fz_iconst ⟨by decide, by decide⟩ kX9_isUnder rfl ?_
  refine fz_istore (ls' := [(4, fz_i 0), (3, fz_i 2), (0, fz_r 44), (1, fz_i 2), (2, fz_i tp)]) kX9_isUnder rfl (by decide) rfl ?_
  refine fz_iload kX9_isUnder rfl rfl ?_
  refine fz_bipush ⟨by decide, by decide⟩ kX9_isUnder rfl ?_
  refine fz_icmp_ge (tgt := 39) kX9_isUnder rfl (by decide) (fun c1 => ?_) (fun c1 => ?_)
  · exfalso; omega
  · refine fz_aload_n kX9_isUnder rfl rfl ?_
    refine fz_iload_n kX9_isUnder rfl rfl ?_
    refine fz_callV (d' := 0) (M' := mX9_isKind) (As := [fz_i 2]) (st := []) kX9_isUnder rfl rfl vX9_isKind rfl rfl rfl rfl (Nat.le_of_ble_eq_true rfl) (Nat.le_of_ble_eq_true rfl) (by decide) (sX9_isKind h hI 2 ) (fun H2 r3 q4 o5 => ?_)
    obtain ⟨e6, y7, rfl, p8⟩ := q4
    subst H2
    clear o5
    rcases p8 with ⟨rfl, c9⟩ | ⟨rfl, c9⟩
    · refine fz_if_eq (tgt := 39) kX9_isUnder rfl (by decide) (fun c10 => ?_) (fun c10 => ?_)
      · exfalso; omega
      · refine fz_iload_n kX9_isUnder rfl rfl ?_
        refine fz_iload_n kX9_isUnder rfl rfl ?_
        refine fz_icmp_ne (tgt := 27) kX9_isUnder rfl (by decide) (fun c11 => ?_) (fun c11 => ?_)
        · refine fz_gets kX9_isUnder rfl ?_
          refine fz_iload_n kX9_isUnder rfl rfl ?_
          refine fz_taldV (v := 0) kX9_isUnder rfl ⟨by decide, by decide⟩ (by omega) (by rw [hI.2.2.2.2]; decide) (by rw [hI.2.2.2.2]; rfl) ?_
          refine fz_istore_n (ls' := [(3, fz_i 0), (4, fz_i 0), (0, fz_r 44), (1, fz_i 2), (2, fz_i tp)]) kX9_isUnder rfl (by decide) rfl ?_
          refine fz_iincN (ls' := [(4, fz_i (0 + 1)), (3, fz_i 0), (0, fz_r 44), (1, fz_i 2), (2, fz_i tp)]) kX9_isUnder rfl (by decide) rfl (by omega) rfl ?_
          refine fz_goto (tgt := 5) kX9_isUnder rfl (by decide) ?_
          refine fz_iload kX9_isUnder rfl rfl ?_
          refine fz_bipush ⟨by decide, by decide⟩ kX9_isUnder rfl ?_
          refine fz_icmp_ge (tgt := 39) kX9_isUnder rfl (by decide) (fun c14 => ?_) (fun c14 => ?_)
          · exfalso; omega
          · refine fz_aload_n kX9_isUnder rfl rfl ?_
            refine fz_iload_n kX9_isUnder rfl rfl ?_
            refine fz_callV (d' := 0) (M' := mX9_isKind) (As := [fz_i 0]) (st := []) kX9_isUnder rfl rfl vX9_isKind rfl rfl rfl rfl (Nat.le_of_ble_eq_true rfl) (Nat.le_of_ble_eq_true rfl) (by decide) (sX9_isKind h hI 0 ) (fun H15 r16 q17 o18 => ?_)
            obtain ⟨e19, y20, rfl, p21⟩ := q17
            subst H15
            clear o18
            rcases p21 with ⟨rfl, c22⟩ | ⟨rfl, c22⟩
            · refine fz_if_eq (tgt := 39) kX9_isUnder rfl (by decide) (fun c23 => ?_) (fun c23 => ?_)
              · exfalso; omega
              · refine fz_iload_n kX9_isUnder rfl rfl ?_
                refine fz_iload_n kX9_isUnder rfl rfl ?_
                refine fz_icmp_ne (tgt := 27) kX9_isUnder rfl (by decide) (fun c24 => ?_) (fun c24 => ?_)
                · refine fz_gets kX9_isUnder rfl ?_
                  refine fz_iload_n kX9_isUnder rfl rfl ?_
                  refine fz_taldV (v := (-1)) kX9_isUnder rfl ⟨by decide, by decide⟩ (by omega) (by rw [hI.2.2.2.2]; decide) (by rw [hI.2.2.2.2]; rfl) ?_
                  refine fz_istore_n (ls' := [(3, fz_i (-1)), (4, fz_i (0 + 1)), (0, fz_r 44), (1, fz_i 2), (2, fz_i tp)]) kX9_isUnder rfl (by decide) rfl ?_
                  refine fz_iincN (ls' := [(4, fz_i ((0 + 1) + 1)), (3, fz_i (-1)), (0, fz_r 44), (1, fz_i 2), (2, fz_i tp)]) kX9_isUnder rfl (by decide) rfl (by omega) rfl ?_
                  refine fz_goto (tgt := 5) kX9_isUnder rfl (by decide) ?_
                  refine fz_iload kX9_isUnder rfl rfl ?_
                  refine fz_bipush ⟨by decide, by decide⟩ kX9_isUnder rfl ?_
                  refine fz_icmp_ge (tgt := 39) kX9_isUnder rfl (by decide) (fun c27 => ?_) (fun c27 => ?_)
                  · exfalso; omega
                  · refine fz_aload_n kX9_isUnder rfl rfl ?_
                    refine fz_iload_n kX9_isUnder rfl rfl ?_
                    refine fz_callV (d' := 0) (M' := mX9_isKind) (As := [fz_i (-1)]) (st := []) kX9_isUnder rfl rfl vX9_isKind rfl rfl rfl rfl (Nat.le_of_ble_eq_true rfl) (Nat.le_of_ble_eq_true rfl) (by decide) (sX9_isKind h hI (-1) ) (fun H28 r29 q30 o31 => ?_)
                    obtain ⟨e32, y33, rfl, p34⟩ := q30
                    subst H28
                    clear o31
                    rcases p34 with ⟨rfl, c35⟩ | ⟨rfl, c35⟩
                    · refine fz_if_eq (tgt := 39) kX9_isUnder rfl (by decide) (fun c36 => ?_) (fun c36 => ?_)
                      · exfalso; omega
                      · refine fz_iload_n kX9_isUnder rfl rfl ?_
                        refine fz_iload_n kX9_isUnder rfl rfl ?_
                        refine fz_icmp_ne (tgt := 27) kX9_isUnder rfl (by decide) (fun c37 => ?_) (fun c37 => ?_)
                        · refine fz_gets kX9_isUnder rfl ?_
                          refine fz_iload_n kX9_isUnder rfl rfl ?_
                          obtain ⟨z38, e39⟩ : ∃ z, h 204 ((-1)).toNat = z := ⟨_, rfl⟩
                          refine fz_taldV (v := z38) kX9_isUnder rfl ⟨by decide, by decide⟩ (by omega) (by rw [show h 204 100000 = 8 by rw [hI.2.2.2.2]; rfl]; omega) e39 ?_
                          have t40 := fz_tb204 (h := h) hI.2.2.2.2 (show 0 ≤ (-1) ∧ (-1) < 8 by omega)
                          rw [e39] at t40
                          refine fz_istore_n (ls' := [(3, fz_i z38), (4, fz_i ((0 + 1) + 1)), (0, fz_r 44), (1, fz_i 2), (2, fz_i tp)]) kX9_isUnder rfl (by decide) rfl ?_
                          refine fz_iincN (ls' := [(4, fz_i (((0 + 1) + 1) + 1)), (3, fz_i z38), (0, fz_r 44), (1, fz_i 2), (2, fz_i tp)]) kX9_isUnder rfl (by decide) rfl (by omega) rfl ?_
                          refine fz_goto (tgt := 5) kX9_isUnder rfl (by decide) ?_
                          refine fz_iload kX9_isUnder rfl rfl ?_
                          refine fz_bipush ⟨by decide, by decide⟩ kX9_isUnder rfl ?_
                          refine fz_icmp_ge (tgt := 39) kX9_isUnder rfl (by decide) (fun c41 => ?_) (fun c41 => ?_)
                          · exfalso; omega
                          · refine fz_aload_n kX9_isUnder rfl rfl ?_
                            refine fz_iload_n kX9_isUnder rfl rfl ?_
                            refine fz_callV (d' := 0) (M' := mX9_isKind) (As := [fz_i z38]) (st := []) kX9_isUnder rfl rfl vX9_isKind rfl rfl rfl rfl (Nat.le_of_ble_eq_true rfl) (Nat.le_of_ble_eq_true rfl) (by decide) (sX9_isKind h hI z38 ) (fun H42 r43 q44 o45 => ?_)
                            obtain ⟨e46, y47, rfl, p48⟩ := q44
                            subst H42
                            clear o45
                            rcases p48 with ⟨rfl, c49⟩ | ⟨rfl, c49⟩
                            · refine fz_if_eq (tgt := 39) kX9_isUnder rfl (by decide) (fun c50 => ?_) (fun c50 => ?_)
                              · exfalso; omega
                              · refine fz_iload_n kX9_isUnder rfl rfl ?_
                                refine fz_iload_n kX9_isUnder rfl rfl ?_
                                refine fz_icmp_ne (tgt := 27) kX9_isUnder rfl (by decide) (fun c51 => ?_) (fun c51 => ?_)
                                · refine fz_gets kX9_isUnder rfl ?_
                                  refine fz_iload_n kX9_isUnder rfl rfl ?_
                                  obtain ⟨z52, e53⟩ : ∃ z, h 204 (z38).toNat = z := ⟨_, rfl⟩
                                  refine fz_taldV (v := z52) kX9_isUnder rfl ⟨by decide, by decide⟩ (by omega) (by rw [show h 204 100000 = 8 by rw [hI.2.2.2.2]; rfl]; omega) e53 ?_
                                  have t54 := fz_tb204 (h := h) hI.2.2.2.2 (show 0 ≤ z38 ∧ z38 < 8 by omega)
                                  rw [e53] at t54
                                  refine fz_istore_n (ls' := [(3, fz_i z52), (4, fz_i (((0 + 1) + 1) + 1)), (0, fz_r 44), (1, fz_i 2), (2, fz_i tp)]) kX9_isUnder rfl (by decide) rfl ?_
                                  refine fz_iincN (ls' := [(4, fz_i ((((0 + 1) + 1) + 1) + 1)), (3, fz_i z52), (0, fz_r 44), (1, fz_i 2), (2, fz_i tp)]) kX9_isUnder rfl (by decide) rfl (by omega) rfl ?_
                                  refine fz_goto (tgt := 5) kX9_isUnder rfl (by decide) ?_
                                  refine fz_iload kX9_isUnder rfl rfl ?_
                                  refine fz_bipush ⟨by decide, by decide⟩ kX9_isUnder rfl ?_
                                  refine fz_icmp_ge (tgt := 39) kX9_isUnder rfl (by decide) (fun c55 => ?_) (fun c55 => ?_)
                                  · exfalso; omega
                                  · refine fz_aload_n kX9_isUnder rfl rfl ?_
                                    refine fz_iload_n kX9_isUnder rfl rfl ?_
                                    refine fz_callV (d' := 0) (M' := mX9_isKind) (As := [fz_i z52]) (st := []) kX9_isUnder rfl rfl vX9_isKind rfl rfl rfl rfl (Nat.le_of_ble_eq_true rfl) (Nat.le_of_ble_eq_true rfl) (by decide) (sX9_isKind h hI z52 ) (fun H56 r57 q58 o59 => ?_)
                                    obtain ⟨e60, y61, rfl, p62⟩ := q58
                                    subst H56
                                    clear o59
                                    rcases p62 with ⟨rfl, c63⟩ | ⟨rfl, c63⟩
                                    · refine fz_if_eq (tgt := 39) kX9_isUnder rfl (by decide) (fun c64 => ?_) (fun c64 => ?_)
                                      · exfalso; omega
                                      · refine fz_iload_n kX9_isUnder rfl rfl ?_
                                        refine fz_iload_n kX9_isUnder rfl rfl ?_
                                        refine fz_icmp_ne (tgt := 27) kX9_isUnder rfl (by decide) (fun c65 => ?_) (fun c65 => ?_)
                                        · refine fz_gets kX9_isUnder rfl ?_
                                          refine fz_iload_n kX9_isUnder rfl rfl ?_
                                          obtain ⟨z66, e67⟩ : ∃ z, h 204 (z52).toNat = z := ⟨_, rfl⟩
                                          refine fz_taldV (v := z66) kX9_isUnder rfl ⟨by decide, by decide⟩ (by omega) (by rw [show h 204 100000 = 8 by rw [hI.2.2.2.2]; rfl]; omega) e67 ?_
                                          have t68 := fz_tb204 (h := h) hI.2.2.2.2 (show 0 ≤ z52 ∧ z52 < 8 by omega)
                                          rw [e67] at t68
                                          refine fz_istore_n (ls' := [(3, fz_i z66), (4, fz_i ((((0 + 1) + 1) + 1) + 1)), (0, fz_r 44), (1, fz_i 2), (2, fz_i tp)]) kX9_isUnder rfl (by decide) rfl ?_
                                          refine fz_iincN (ls' := [(4, fz_i (((((0 + 1) + 1) + 1) + 1) + 1)), (3, fz_i z66), (0, fz_r 44), (1, fz_i 2), (2, fz_i tp)]) kX9_isUnder rfl (by decide) rfl (by omega) rfl ?_
                                          refine fz_goto (tgt := 5) kX9_isUnder rfl (by decide) ?_
                                          refine fz_iload kX9_isUnder rfl rfl ?_
                                          refine fz_bipush ⟨by decide, by decide⟩ kX9_isUnder rfl ?_
                                          refine fz_icmp_ge (tgt := 39) kX9_isUnder rfl (by decide) (fun c69 => ?_) (fun c69 => ?_)
                                          · exfalso; omega
                                          · refine fz_aload_n kX9_isUnder rfl rfl ?_
                                            refine fz_iload_n kX9_isUnder rfl rfl ?_
                                            refine fz_callV (d' := 0) (M' := mX9_isKind) (As := [fz_i z66]) (st := []) kX9_isUnder rfl rfl vX9_isKind rfl rfl rfl rfl (Nat.le_of_ble_eq_true rfl) (Nat.le_of_ble_eq_true rfl) (by decide) (sX9_isKind h hI z66 ) (fun H70 r71 q72 o73 => ?_)
                                            obtain ⟨e74, y75, rfl, p76⟩ := q72
                                            subst H70
                                            clear o73
                                            rcases p76 with ⟨rfl, c77⟩ | ⟨rfl, c77⟩
                                            · refine fz_if_eq (tgt := 39) kX9_isUnder rfl (by decide) (fun c78 => ?_) (fun c78 => ?_)
                                              · exfalso; omega
                                              · refine fz_iload_n kX9_isUnder rfl rfl ?_
                                                refine fz_iload_n kX9_isUnder rfl rfl ?_
                                                refine fz_icmp_ne (tgt := 27) kX9_isUnder rfl (by decide) (fun c79 => ?_) (fun c79 => ?_)
                                                · refine fz_gets kX9_isUnder rfl ?_
                                                  refine fz_iload_n kX9_isUnder rfl rfl ?_
                                                  obtain ⟨z80, e81⟩ : ∃ z, h 204 (z66).toNat = z := ⟨_, rfl⟩
                                                  refine fz_taldV (v := z80) kX9_isUnder rfl ⟨by decide, by decide⟩ (by omega) (by rw [show h 204 100000 = 8 by rw [hI.2.2.2.2]; rfl]; omega) e81 ?_
                                                  have t82 := fz_tb204 (h := h) hI.2.2.2.2 (show 0 ≤ z66 ∧ z66 < 8 by omega)
                                                  rw [e81] at t82
                                                  refine fz_istore_n (ls' := [(3, fz_i z80), (4, fz_i (((((0 + 1) + 1) + 1) + 1) + 1)), (0, fz_r 44), (1, fz_i 2), (2, fz_i tp)]) kX9_isUnder rfl (by decide) rfl ?_
                                                  refine fz_iincN (ls' := [(4, fz_i ((((((0 + 1) + 1) + 1) + 1) + 1) + 1)), (3, fz_i z80), (0, fz_r 44), (1, fz_i 2), (2, fz_i tp)]) kX9_isUnder rfl (by decide) rfl (by omega) rfl ?_
                                                  refine fz_goto (tgt := 5) kX9_isUnder rfl (by decide) ?_
                                                  refine fz_iload kX9_isUnder rfl rfl ?_
                                                  refine fz_bipush ⟨by decide, by decide⟩ kX9_isUnder rfl ?_
                                                  refine fz_icmp_ge (tgt := 39) kX9_isUnder rfl (by decide) (fun c83 => ?_) (fun c83 => ?_)
                                                  · exfalso; omega
                                                  · refine fz_aload_n kX9_isUnder rfl rfl ?_
                                                    refine fz_iload_n kX9_isUnder rfl rfl ?_
                                                    refine fz_callV (d' := 0) (M' := mX9_isKind) (As := [fz_i z80]) (st := []) kX9_isUnder rfl rfl vX9_isKind rfl rfl rfl rfl (Nat.le_of_ble_eq_true rfl) (Nat.le_of_ble_eq_true rfl) (by decide) (sX9_isKind h hI z80 ) (fun H84 r85 q86 o87 => ?_)
                                                    obtain ⟨e88, y89, rfl, p90⟩ := q86
                                                    subst H84
                                                    clear o87
                                                    rcases p90 with ⟨rfl, c91⟩ | ⟨rfl, c91⟩
                                                    · refine fz_if_eq (tgt := 39) kX9_isUnder rfl (by decide) (fun c92 => ?_) (fun c92 => ?_)
                                                      · exfalso; omega
                                                      · refine fz_iload_n kX9_isUnder rfl rfl ?_
                                                        refine fz_iload_n kX9_isUnder rfl rfl ?_
                                                        refine fz_icmp_ne (tgt := 27) kX9_isUnder rfl (by decide) (fun c93 => ?_) (fun c93 => ?_)
                                                        · refine fz_gets kX9_isUnder rfl ?_
                                                          refine fz_iload_n kX9_isUnder rfl rfl ?_
                                                          obtain ⟨z94, e95⟩ : ∃ z, h 204 (z80).toNat = z := ⟨_, rfl⟩
                                                          refine fz_taldV (v := z94) kX9_isUnder rfl ⟨by decide, by decide⟩ (by omega) (by rw [show h 204 100000 = 8 by rw [hI.2.2.2.2]; rfl]; omega) e95 ?_
                                                          have t96 := fz_tb204 (h := h) hI.2.2.2.2 (show 0 ≤ z80 ∧ z80 < 8 by omega)
                                                          rw [e95] at t96
                                                          refine fz_istore_n (ls' := [(3, fz_i z94), (4, fz_i ((((((0 + 1) + 1) + 1) + 1) + 1) + 1)), (0, fz_r 44), (1, fz_i 2), (2, fz_i tp)]) kX9_isUnder rfl (by decide) rfl ?_
                                                          refine fz_iincN (ls' := [(4, fz_i (((((((0 + 1) + 1) + 1) + 1) + 1) + 1) + 1)), (3, fz_i z94), (0, fz_r 44), (1, fz_i 2), (2, fz_i tp)]) kX9_isUnder rfl (by decide) rfl (by omega) rfl ?_
                                                          refine fz_goto (tgt := 5) kX9_isUnder rfl (by decide) ?_
                                                          refine fz_iload kX9_isUnder rfl rfl ?_
                                                          refine fz_bipush ⟨by decide, by decide⟩ kX9_isUnder rfl ?_
                                                          refine fz_icmp_ge (tgt := 39) kX9_isUnder rfl (by decide) (fun c97 => ?_) (fun c97 => ?_)
                                                          · exfalso; omega
                                                          · refine fz_aload_n kX9_isUnder rfl rfl ?_
                                                            refine fz_iload_n kX9_isUnder rfl rfl ?_
                                                            refine fz_callV (d' := 0) (M' := mX9_isKind) (As := [fz_i z94]) (st := []) kX9_isUnder rfl rfl vX9_isKind rfl rfl rfl rfl (Nat.le_of_ble_eq_true rfl) (Nat.le_of_ble_eq_true rfl) (by decide) (sX9_isKind h hI z94 ) (fun H98 r99 q100 o101 => ?_)
                                                            obtain ⟨e102, y103, rfl, p104⟩ := q100
                                                            subst H98
                                                            clear o101
                                                            rcases p104 with ⟨rfl, c105⟩ | ⟨rfl, c105⟩
                                                            · refine fz_if_eq (tgt := 39) kX9_isUnder rfl (by decide) (fun c106 => ?_) (fun c106 => ?_)
                                                              · exfalso; omega
                                                              · refine fz_iload_n kX9_isUnder rfl rfl ?_
                                                                refine fz_iload_n kX9_isUnder rfl rfl ?_
                                                                refine fz_icmp_ne (tgt := 27) kX9_isUnder rfl (by decide) (fun c107 => ?_) (fun c107 => ?_)
                                                                · refine fz_gets kX9_isUnder rfl ?_
                                                                  refine fz_iload_n kX9_isUnder rfl rfl ?_
                                                                  obtain ⟨z108, e109⟩ : ∃ z, h 204 (z94).toNat = z := ⟨_, rfl⟩
                                                                  refine fz_taldV (v := z108) kX9_isUnder rfl ⟨by decide, by decide⟩ (by omega) (by rw [show h 204 100000 = 8 by rw [hI.2.2.2.2]; rfl]; omega) e109 ?_
                                                                  have t110 := fz_tb204 (h := h) hI.2.2.2.2 (show 0 ≤ z94 ∧ z94 < 8 by omega)
                                                                  rw [e109] at t110
                                                                  refine fz_istore_n (ls' := [(3, fz_i z108), (4, fz_i (((((((0 + 1) + 1) + 1) + 1) + 1) + 1) + 1)), (0, fz_r 44), (1, fz_i 2), (2, fz_i tp)]) kX9_isUnder rfl (by decide) rfl ?_
                                                                  refine fz_iincN (ls' := [(4, fz_i ((((((((0 + 1) + 1) + 1) + 1) + 1) + 1) + 1) + 1)), (3, fz_i z108), (0, fz_r 44), (1, fz_i 2), (2, fz_i tp)]) kX9_isUnder rfl (by decide) rfl (by omega) rfl ?_
                                                                  refine fz_goto (tgt := 5) kX9_isUnder rfl (by decide) ?_
                                                                  refine fz_iload kX9_isUnder rfl rfl ?_
                                                                  refine fz_bipush ⟨by decide, by decide⟩ kX9_isUnder rfl ?_
                                                                  refine fz_icmp_ge (tgt := 39) kX9_isUnder rfl (by decide) (fun c111 => ?_) (fun c111 => ?_)
                                                                  · refine fz_iconst ⟨by decide, by decide⟩ kX9_isUnder rfl ?_
                                                                    exact fz_zret kX9_isUnder rfl rfl (by omega) ⟨rfl, _, rfl, Or.inr ⟨rfl, by omega⟩⟩
                                                                  · exfalso; omega
                                                                · refine fz_iconst ⟨by decide, by decide⟩ kX9_isUnder rfl ?_
                                                                  exact fz_zret kX9_isUnder rfl rfl (by omega) ⟨rfl, _, rfl, Or.inl ⟨rfl, by omega⟩⟩
                                                            · refine fz_if_eq (tgt := 39) kX9_isUnder rfl (by decide) (fun c112 => ?_) (fun c112 => ?_)
                                                              · refine fz_iconst ⟨by decide, by decide⟩ kX9_isUnder rfl ?_
                                                                exact fz_zret kX9_isUnder rfl rfl (by omega) ⟨rfl, _, rfl, Or.inr ⟨rfl, by omega⟩⟩
                                                              · exfalso; omega
                                                        · refine fz_iconst ⟨by decide, by decide⟩ kX9_isUnder rfl ?_
                                                          exact fz_zret kX9_isUnder rfl rfl (by omega) ⟨rfl, _, rfl, Or.inl ⟨rfl, by omega⟩⟩
                                                    · refine fz_if_eq (tgt := 39) kX9_isUnder rfl (by decide) (fun c113 => ?_) (fun c113 => ?_)
                                                      · refine fz_iconst ⟨by decide, by decide⟩ kX9_isUnder rfl ?_
                                                        exact fz_zret kX9_isUnder rfl rfl (by omega) ⟨rfl, _, rfl, Or.inr ⟨rfl, by omega⟩⟩
                                                      · exfalso; omega
                                                · refine fz_iconst ⟨by decide, by decide⟩ kX9_isUnder rfl ?_
                                                  exact fz_zret kX9_isUnder rfl rfl (by omega) ⟨rfl, _, rfl, Or.inl ⟨rfl, by omega⟩⟩
                                            · refine fz_if_eq (tgt := 39) kX9_isUnder rfl (by decide) (fun c114 => ?_) (fun c114 => ?_)
                                              · refine fz_iconst ⟨by decide, by decide⟩ kX9_isUnder rfl ?_
                                                exact fz_zret kX9_isUnder rfl rfl (by omega) ⟨rfl, _, rfl, Or.inr ⟨rfl, by omega⟩⟩
                                              · exfalso; omega
                                        · refine fz_iconst ⟨by decide, by decide⟩ kX9_isUnder rfl ?_
                                          exact fz_zret kX9_isUnder rfl rfl (by omega) ⟨rfl, _, rfl, Or.inl ⟨rfl, by omega⟩⟩
                                    · refine fz_if_eq (tgt := 39) kX9_isUnder rfl (by decide) (fun c115 => ?_) (fun c115 => ?_)
                                      · refine fz_iconst ⟨by decide, by decide⟩ kX9_isUnder rfl ?_
                                        exact fz_zret kX9_isUnder rfl rfl (by omega) ⟨rfl, _, rfl, Or.inr ⟨rfl, by omega⟩⟩
                                      · exfalso; omega
                                · refine fz_iconst ⟨by decide, by decide⟩ kX9_isUnder rfl ?_
                                  exact fz_zret kX9_isUnder rfl rfl (by omega) ⟨rfl, _, rfl, Or.inl ⟨rfl, by omega⟩⟩
                            · refine fz_if_eq (tgt := 39) kX9_isUnder rfl (by decide) (fun c116 => ?_) (fun c116 => ?_)
                              · refine fz_iconst ⟨by decide, by decide⟩ kX9_isUnder rfl ?_
                                exact fz_zret kX9_isUnder rfl rfl (by omega) ⟨rfl, _, rfl, Or.inr ⟨rfl, by omega⟩⟩
                              · exfalso; omega
                        · refine fz_iconst ⟨by decide, by decide⟩ kX9_isUnder rfl ?_
                          exact fz_zret kX9_isUnder rfl rfl (by omega) ⟨rfl, _, rfl, Or.inl ⟨rfl, by omega⟩⟩
                    · refine fz_if_eq (tgt := 39) kX9_isUnder rfl (by decide) (fun c117 => ?_) (fun c117 => ?_)
                      · refine fz_iconst ⟨by decide, by decide⟩ kX9_isUnder rfl ?_
                        exact fz_zret kX9_isUnder rfl rfl (by omega) ⟨rfl, _, rfl, Or.inr ⟨rfl, by omega⟩⟩
                      · exfalso; omega
                · refine fz_iconst ⟨by decide, by decide⟩ kX9_isUnder rfl ?_
                  exact fz_zret kX9_isUnder rfl rfl (by omega) ⟨rfl, _, rfl, Or.inl ⟨rfl, by omega⟩⟩
            · refine fz_if_eq (tgt := 39) kX9_isUnder rfl (by decide) (fun c118 => ?_) (fun c118 => ?_)
              · refine fz_iconst ⟨by decide, by decide⟩ kX9_isUnder rfl ?_
                exact fz_zret kX9_isUnder rfl rfl (by omega) ⟨rfl, _, rfl, Or.inr ⟨rfl, by omega⟩⟩
              · exfalso; omega
        · refine fz_iconst ⟨by decide, by decide⟩ kX9_isUnder rfl ?_
          exact fz_zret kX9_isUnder rfl rfl (by omega) ⟨rfl, _, rfl, Or.inl ⟨rfl, by omega⟩⟩
    · refine fz_if_eq (tgt := 39) kX9_isUnder rfl (by decide) (fun c119 => ?_) (fun c119 => ?_)
      · refine fz_iconst ⟨by decide, by decide⟩ kX9_isUnder rfl ?_
        exact fz_zret kX9_isUnder rfl rfl (by omega) ⟨rfl, _, rfl, Or.inr ⟨rfl, by omega⟩⟩
      · exfalso; omega

abbrev qX9_isUnder_3 (h : fz_H) (tp : Int) : fz_H → Option fz_V → Prop := fun h' r0 => h' = h ∧ ∃ r : Int, r0 = some (fz_i r) ∧ ((r = 1 ∧ (tp = 3 ∨ tp = 2 ∨ tp = 0)) ∨ (r = 0 ∧ ¬ (tp = 3 ∨ tp = 2 ∨ tp = 0)))
set_option maxHeartbeats 1000000 in
set_option maxRecDepth 100000 in
theorem sX9_isUnder_3 (h : fz_H) (hI : fz_Iv h) (tp : Int) : fz_R 1 mX9_isUnder 0 [(0, fz_r 44), (1, fz_i 3), (2, fz_i tp)] [] h (qX9_isUnder_3 h tp) := by
  refine fz_knowl (fun hk => ?_)
  have hr_tp : -2147483648 ≤ tp ∧ tp < 2147483648 := hk _ (List.Mem.tail _ (List.Mem.tail _ (List.Mem.head _)))
  clear hk
  refine fz_iload_n kX9_isUnder rfl rfl ?_
  refine fz_istore_n (ls' := [(3, fz_i 3), (0, fz_r 44), (1, fz_i 3), (2, fz_i tp)]) kX9_isUnder rfl (by decide) rfl ?_
  refine fz_iconst ⟨by decide, by decide⟩ kX9_isUnder rfl ?_
  refine fz_istore (ls' := [(4, fz_i 0), (3, fz_i 3), (0, fz_r 44), (1, fz_i 3), (2, fz_i tp)]) kX9_isUnder rfl (by decide) rfl ?_
  refine fz_iload kX9_isUnder rfl rfl ?_
  refine fz_bipush ⟨by decide, by decide⟩ kX9_isUnder rfl ?_
  refine fz_icmp_ge (tgt := 39) kX9_isUnder rfl (by decide) (fun c1 => ?_) (fun c1 => ?_)
  · exfalso; omega
  · refine fz_aload_n kX9_isUnder rfl rfl ?_
    refine fz_iload_n kX9_isUnder rfl rfl ?_
    refine fz_callV (d' := 0) (M' := mX9_isKind) (As := [fz_i 3]) (st := []) kX9_isUnder rfl rfl vX9_isKind rfl rfl rfl rfl (Nat.le_of_ble_eq_true rfl) (Nat.le_of_ble_eq_true rfl) (by decide) (sX9_isKind h hI 3 ) (fun H2 r3 q4 o5 => ?_)
    obtain ⟨e6, y7, rfl, p8⟩ := q4
    subst H2
    clear o5
    rcases p8 with ⟨rfl, c9⟩ | ⟨rfl, c9⟩
    · refine fz_if_eq (tgt := 39) kX9_isUnder rfl (by decide) (fun c10 => ?_) (fun c10 => ?_)
      · exfalso; omega
      · refine fz_iload_n kX9_isUnder rfl rfl ?_
        refine fz_iload_n kX9_isUnder rfl rfl ?_
        refine fz_icmp_ne (tgt := 27) kX9_isUnder rfl (by decide) (fun c11 => ?_) (fun c11 => ?_)
        · refine fz_gets kX9_isUnder rfl ?_
          refine fz_iload_n kX9_isUnder rfl rfl ?_
          refine fz_taldV (v := 2) kX9_isUnder rfl ⟨by decide, by decide⟩ (by omega) (by rw [hI.2.2.2.2]; decide) (by rw [hI.2.2.2.2]; rfl) ?_
          refine fz_istore_n (ls' := [(3, fz_i 2), (4, fz_i 0), (0, fz_r 44), (1, fz_i 3), (2, fz_i tp)]) kX9_isUnder rfl (by decide) rfl ?_
          refine fz_iincN (ls' := [(4, fz_i (0 + 1)), (3, fz_i 2), (0, fz_r 44), (1, fz_i 3), (2, fz_i tp)]) kX9_isUnder rfl (by decide) rfl (by omega) rfl ?_
          refine fz_goto (tgt := 5) kX9_isUnder rfl (by decide) ?_
          refine fz_iload kX9_isUnder rfl rfl ?_
          refine fz_bipush ⟨by decide, by decide⟩ kX9_isUnder rfl ?_
          refine fz_icmp_ge (tgt := 39) kX9_isUnder rfl (by decide) (fun c14 => ?_) (fun c14 => ?_)
          · exfalso; omega
          · refine fz_aload_n kX9_isUnder rfl rfl ?_
            refine fz_iload_n kX9_isUnder rfl rfl ?_
            refine fz_callV (d' := 0) (M' := mX9_isKind) (As := [fz_i 2]) (st := []) kX9_isUnder rfl rfl vX9_isKind rfl rfl rfl rfl (Nat.le_of_ble_eq_true rfl) (Nat.le_of_ble_eq_true rfl) (by decide) (sX9_isKind h hI 2 ) (fun H15 r16 q17 o18 => ?_)
            obtain ⟨e19, y20, rfl, p21⟩ := q17
            subst H15
            clear o18
            rcases p21 with ⟨rfl, c22⟩ | ⟨rfl, c22⟩
            · refine fz_if_eq (tgt := 39) kX9_isUnder rfl (by decide) (fun c23 => ?_) (fun c23 => ?_)
              · exfalso; omega
              · refine fz_iload_n kX9_isUnder rfl rfl ?_
                refine fz_iload_n kX9_isUnder rfl rfl ?_
                refine fz_icmp_ne (tgt := 27) kX9_isUnder rfl (by decide) (fun c24 => ?_) (fun c24 => ?_)
                · refine fz_gets kX9_isUnder rfl ?_
                  refine fz_iload_n kX9_isUnder rfl rfl ?_
                  refine fz_taldV (v := 0) kX9_isUnder rfl ⟨by decide, by decide⟩ (by omega) (by rw [hI.2.2.2.2]; decide) (by rw [hI.2.2.2.2]; rfl) ?_
                  refine fz_istore_n (ls' := [(3, fz_i 0), (4, fz_i (0 + 1)), (0, fz_r 44), (1, fz_i 3), (2, fz_i tp)]) kX9_isUnder rfl (by decide) rfl ?_
                  refine fz_iincN (ls' := [(4, fz_i ((0 + 1) + 1)), (3, fz_i 0), (0, fz_r 44), (1, fz_i 3), (2, fz_i tp)]) kX9_isUnder rfl (by decide) rfl (by omega) rfl ?_
                  refine fz_goto (tgt := 5) kX9_isUnder rfl (by decide) ?_
                  refine fz_iload kX9_isUnder rfl rfl ?_
                  refine fz_bipush ⟨by decide, by decide⟩ kX9_isUnder rfl ?_
                  refine fz_icmp_ge (tgt := 39) kX9_isUnder rfl (by decide) (fun c27 => ?_) (fun c27 => ?_)
                  · exfalso; omega
                  · refine fz_aload_n kX9_isUnder rfl rfl ?_
                    refine fz_iload_n kX9_isUnder rfl rfl ?_
                    refine fz_callV (d' := 0) (M' := mX9_isKind) (As := [fz_i 0]) (st := []) kX9_isUnder rfl rfl vX9_isKind rfl rfl rfl rfl (Nat.le_of_ble_eq_true rfl) (Nat.le_of_ble_eq_true rfl) (by decide) (sX9_isKind h hI 0 ) (fun H28 r29 q30 o31 => ?_)
                    obtain ⟨e32, y33, rfl, p34⟩ := q30
                    subst H28
                    clear o31
                    rcases p34 with ⟨rfl, c35⟩ | ⟨rfl, c35⟩
                    · refine fz_if_eq (tgt := 39) kX9_isUnder rfl (by decide) (fun c36 => ?_) (fun c36 => ?_)
                      · exfalso; omega
                      · refine fz_iload_n kX9_isUnder rfl rfl ?_
                        refine fz_iload_n kX9_isUnder rfl rfl ?_
                        refine fz_icmp_ne (tgt := 27) kX9_isUnder rfl (by decide) (fun c37 => ?_) (fun c37 => ?_)
                        · refine fz_gets kX9_isUnder rfl ?_
                          refine fz_iload_n kX9_isUnder rfl rfl ?_
                          refine fz_taldV (v := (-1)) kX9_isUnder rfl ⟨by decide, by decide⟩ (by omega) (by rw [hI.2.2.2.2]; decide) (by rw [hI.2.2.2.2]; rfl) ?_
                          refine fz_istore_n (ls' := [(3, fz_i (-1)), (4, fz_i ((0 + 1) + 1)), (0, fz_r 44), (1, fz_i 3), (2, fz_i tp)]) kX9_isUnder rfl (by decide) rfl ?_
                          refine fz_iincN (ls' := [(4, fz_i (((0 + 1) + 1) + 1)), (3, fz_i (-1)), (0, fz_r 44), (1, fz_i 3), (2, fz_i tp)]) kX9_isUnder rfl (by decide) rfl (by omega) rfl ?_
                          refine fz_goto (tgt := 5) kX9_isUnder rfl (by decide) ?_
                          refine fz_iload kX9_isUnder rfl rfl ?_
                          refine fz_bipush ⟨by decide, by decide⟩ kX9_isUnder rfl ?_
                          refine fz_icmp_ge (tgt := 39) kX9_isUnder rfl (by decide) (fun c40 => ?_) (fun c40 => ?_)
                          · exfalso; omega
                          · refine fz_aload_n kX9_isUnder rfl rfl ?_
                            refine fz_iload_n kX9_isUnder rfl rfl ?_
                            refine fz_callV (d' := 0) (M' := mX9_isKind) (As := [fz_i (-1)]) (st := []) kX9_isUnder rfl rfl vX9_isKind rfl rfl rfl rfl (Nat.le_of_ble_eq_true rfl) (Nat.le_of_ble_eq_true rfl) (by decide) (sX9_isKind h hI (-1) ) (fun H41 r42 q43 o44 => ?_)
                            obtain ⟨e45, y46, rfl, p47⟩ := q43
                            subst H41
                            clear o44
                            rcases p47 with ⟨rfl, c48⟩ | ⟨rfl, c48⟩
                            · refine fz_if_eq (tgt := 39) kX9_isUnder rfl (by decide) (fun c49 => ?_) (fun c49 => ?_)
                              · exfalso; omega
                              · refine fz_iload_n kX9_isUnder rfl rfl ?_
                                refine fz_iload_n kX9_isUnder rfl rfl ?_
                                refine fz_icmp_ne (tgt := 27) kX9_isUnder rfl (by decide) (fun c50 => ?_) (fun c50 => ?_)
                                · refine fz_gets kX9_isUnder rfl ?_
                                  refine fz_iload_n kX9_isUnder rfl rfl ?_
                                  obtain ⟨z51, e52⟩ : ∃ z, h 204 ((-1)).toNat = z := ⟨_, rfl⟩
                                  refine fz_taldV (v := z51) kX9_isUnder rfl ⟨by decide, by decide⟩ (by omega) (by rw [show h 204 100000 = 8 by rw [hI.2.2.2.2]; rfl]; omega) e52 ?_
                                  have t53 := fz_tb204 (h := h) hI.2.2.2.2 (show 0 ≤ (-1) ∧ (-1) < 8 by omega)
                                  rw [e52] at t53
                                  refine fz_istore_n (ls' := [(3, fz_i z51), (4, fz_i (((0 + 1) + 1) + 1)), (0, fz_r 44), (1, fz_i 3), (2, fz_i tp)]) kX9_isUnder rfl (by decide) rfl ?_
                                  refine fz_iincN (ls' := [(4, fz_i ((((0 + 1) + 1) + 1) + 1)), (3, fz_i z51), (0, fz_r 44), (1, fz_i 3), (2, fz_i tp)]) kX9_isUnder rfl (by decide) rfl (by omega) rfl ?_
                                  refine fz_goto (tgt := 5) kX9_isUnder rfl (by decide) ?_
                                  refine fz_iload kX9_isUnder rfl rfl ?_
                                  refine fz_bipush ⟨by decide, by decide⟩ kX9_isUnder rfl ?_
                                  refine fz_icmp_ge (tgt := 39) kX9_isUnder rfl (by decide) (fun c54 => ?_) (fun c54 => ?_)
                                  · exfalso; omega
                                  · refine fz_aload_n kX9_isUnder rfl rfl ?_
                                    refine fz_iload_n kX9_isUnder rfl rfl ?_
                                    refine fz_callV (d' := 0) (M' := mX9_isKind) (As := [fz_i z51]) (st := []) kX9_isUnder rfl rfl vX9_isKind rfl rfl rfl rfl (Nat.le_of_ble_eq_true rfl) (Nat.le_of_ble_eq_true rfl) (by decide) (sX9_isKind h hI z51 ) (fun H55 r56 q57 o58 => ?_)
                                    obtain ⟨e59, y60, rfl, p61⟩ := q57
                                    subst H55
                                    clear o58
                                    rcases p61 with ⟨rfl, c62⟩ | ⟨rfl, c62⟩
                                    · refine fz_if_eq (tgt := 39) kX9_isUnder rfl (by decide) (fun c63 => ?_) (fun c63 => ?_)
                                      · exfalso; omega
                                      · refine fz_iload_n kX9_isUnder rfl rfl ?_
                                        refine fz_iload_n kX9_isUnder rfl rfl ?_
                                        refine fz_icmp_ne (tgt := 27) kX9_isUnder rfl (by decide) (fun c64 => ?_) (fun c64 => ?_)
                                        · refine fz_gets kX9_isUnder rfl ?_
                                          refine fz_iload_n kX9_isUnder rfl rfl ?_
                                          obtain ⟨z65, e66⟩ : ∃ z, h 204 (z51).toNat = z := ⟨_, rfl⟩
                                          refine fz_taldV (v := z65) kX9_isUnder rfl ⟨by decide, by decide⟩ (by omega) (by rw [show h 204 100000 = 8 by rw [hI.2.2.2.2]; rfl]; omega) e66 ?_
                                          have t67 := fz_tb204 (h := h) hI.2.2.2.2 (show 0 ≤ z51 ∧ z51 < 8 by omega)
                                          rw [e66] at t67
                                          refine fz_istore_n (ls' := [(3, fz_i z65), (4, fz_i ((((0 + 1) + 1) + 1) + 1)), (0, fz_r 44), (1, fz_i 3), (2, fz_i tp)]) kX9_isUnder rfl (by decide) rfl ?_
                                          refine fz_iincN (ls' := [(4, fz_i (((((0 + 1) + 1) + 1) + 1) + 1)), (3, fz_i z65), (0, fz_r 44), (1, fz_i 3), (2, fz_i tp)]) kX9_isUnder rfl (by decide) rfl (by omega) rfl ?_
                                          refine fz_goto (tgt := 5) kX9_isUnder rfl (by decide) ?_
                                          refine fz_iload kX9_isUnder rfl rfl ?_
                                          refine fz_bipush ⟨by decide, by decide⟩ kX9_isUnder rfl ?_
                                          refine fz_icmp_ge (tgt := 39) kX9_isUnder rfl (by decide) (fun c68 => ?_) (fun c68 => ?_)
                                          · exfalso; omega
                                          · refine fz_aload_n kX9_isUnder rfl rfl ?_
                                            refine fz_iload_n kX9_isUnder rfl rfl ?_
                                            refine fz_callV (d' := 0) (M' := mX9_isKind) (As := [fz_i z65]) (st := []) kX9_isUnder rfl rfl vX9_isKind rfl rfl rfl rfl (Nat.le_of_ble_eq_true rfl) (Nat.le_of_ble_eq_true rfl) (by decide) (sX9_isKind h hI z65 ) (fun H69 r70 q71 o72 => ?_)
                                            obtain ⟨e73, y74, rfl, p75⟩ := q71
                                            subst H69
                                            clear o72
                                            rcases p75 with ⟨rfl, c76⟩ | ⟨rfl, c76⟩
                                            · refine fz_if_eq (tgt := 39) kX9_isUnder rfl (by decide) (fun c77 => ?_) (fun c77 => ?_)
                                              · exfalso; omega
                                              · refine fz_iload_n kX9_isUnder rfl rfl ?_
                                                refine fz_iload_n kX9_isUnder rfl rfl ?_
                                                refine fz_icmp_ne (tgt := 27) kX9_isUnder rfl (by decide) (fun c78 => ?_) (fun c78 => ?_)
                                                · refine fz_gets kX9_isUnder rfl ?_
                                                  refine fz_iload_n kX9_isUnder rfl rfl ?_
                                                  obtain ⟨z79, e80⟩ : ∃ z, h 204 (z65).toNat = z := ⟨_, rfl⟩
                                                  refine fz_taldV (v := z79) kX9_isUnder rfl ⟨by decide, by decide⟩ (by omega) (by rw [show h 204 100000 = 8 by rw [hI.2.2.2.2]; rfl]; omega) e80 ?_
                                                  have t81 := fz_tb204 (h := h) hI.2.2.2.2 (show 0 ≤ z65 ∧ z65 < 8 by omega)
                                                  rw [e80] at t81
                                                  refine fz_istore_n (ls' := [(3, fz_i z79), (4, fz_i (((((0 + 1) + 1) + 1) + 1) + 1)), (0, fz_r 44), (1, fz_i 3), (2, fz_i tp)]) kX9_isUnder rfl (by decide) rfl ?_
                                                  refine fz_iincN (ls' := [(4, fz_i ((((((0 + 1) + 1) + 1) + 1) + 1) + 1)), (3, fz_i z79), (0, fz_r 44), (1, fz_i 3), (2, fz_i tp)]) kX9_isUnder rfl (by decide) rfl (by omega) rfl ?_
                                                  refine fz_goto (tgt := 5) kX9_isUnder rfl (by decide) ?_
                                                  refine fz_iload kX9_isUnder rfl rfl ?_
                                                  refine fz_bipush ⟨by decide, by decide⟩ kX9_isUnder rfl ?_
                                                  refine fz_icmp_ge (tgt := 39) kX9_isUnder rfl (by decide) (fun c82 => ?_) (fun c82 => ?_)
                                                  · exfalso; omega
                                                  · refine fz_aload_n kX9_isUnder rfl rfl ?_
                                                    refine fz_iload_n kX9_isUnder rfl rfl ?_
                                                    refine fz_callV (d' := 0) (M' := mX9_isKind) (As := [fz_i z79]) (st := []) kX9_isUnder rfl rfl vX9_isKind rfl rfl rfl rfl (Nat.le_of_ble_eq_true rfl) (Nat.le_of_ble_eq_true rfl) (by decide) (sX9_isKind h hI z79 ) (fun H83 r84 q85 o86 => ?_)
                                                    obtain ⟨e87, y88, rfl, p89⟩ := q85
                                                    subst H83
                                                    clear o86
                                                    rcases p89 with ⟨rfl, c90⟩ | ⟨rfl, c90⟩
                                                    · refine fz_if_eq (tgt := 39) kX9_isUnder rfl (by decide) (fun c91 => ?_) (fun c91 => ?_)
                                                      · exfalso; omega
                                                      · refine fz_iload_n kX9_isUnder rfl rfl ?_
                                                        refine fz_iload_n kX9_isUnder rfl rfl ?_
                                                        refine fz_icmp_ne (tgt := 27) kX9_isUnder rfl (by decide) (fun c92 => ?_) (fun c92 => ?_)
                                                        · refine fz_gets kX9_isUnder rfl ?_
                                                          refine fz_iload_n kX9_isUnder rfl rfl ?_
                                                          obtain ⟨z93, e94⟩ : ∃ z, h 204 (z79).toNat = z := ⟨_, rfl⟩
                                                          refine fz_taldV (v := z93) kX9_isUnder rfl ⟨by decide, by decide⟩ (by omega) (by rw [show h 204 100000 = 8 by rw [hI.2.2.2.2]; rfl]; omega) e94 ?_
                                                          have t95 := fz_tb204 (h := h) hI.2.2.2.2 (show 0 ≤ z79 ∧ z79 < 8 by omega)
                                                          rw [e94] at t95
                                                          refine fz_istore_n (ls' := [(3, fz_i z93), (4, fz_i ((((((0 + 1) + 1) + 1) + 1) + 1) + 1)), (0, fz_r 44), (1, fz_i 3), (2, fz_i tp)]) kX9_isUnder rfl (by decide) rfl ?_
                                                          refine fz_iincN (ls' := [(4, fz_i (((((((0 + 1) + 1) + 1) + 1) + 1) + 1) + 1)), (3, fz_i z93), (0, fz_r 44), (1, fz_i 3), (2, fz_i tp)]) kX9_isUnder rfl (by decide) rfl (by omega) rfl ?_
                                                          refine fz_goto (tgt := 5) kX9_isUnder rfl (by decide) ?_
                                                          refine fz_iload kX9_isUnder rfl rfl ?_
                                                          refine fz_bipush ⟨by decide, by decide⟩ kX9_isUnder rfl ?_
                                                          refine fz_icmp_ge (tgt := 39) kX9_isUnder rfl (by decide) (fun c96 => ?_) (fun c96 => ?_)
                                                          · exfalso; omega
                                                          · refine fz_aload_n kX9_isUnder rfl rfl ?_
                                                            refine fz_iload_n kX9_isUnder rfl rfl ?_
                                                            refine fz_callV (d' := 0) (M' := mX9_isKind) (As := [fz_i z93]) (st := []) kX9_isUnder rfl rfl vX9_isKind rfl rfl rfl rfl (Nat.le_of_ble_eq_true rfl) (Nat.le_of_ble_eq_true rfl) (by decide) (sX9_isKind h hI z93 ) (fun H97 r98 q99 o100 => ?_)
                                                            obtain ⟨e101, y102, rfl, p103⟩ := q99
                                                            subst H97
                                                            clear o100
                                                            rcases p103 with ⟨rfl, c104⟩ | ⟨rfl, c104⟩
                                                            · refine fz_if_eq (tgt := 39) kX9_isUnder rfl (by decide) (fun c105 => ?_) (fun c105 => ?_)
                                                              · exfalso; omega
                                                              · refine fz_iload_n kX9_isUnder rfl rfl ?_
                                                                refine fz_iload_n kX9_isUnder rfl rfl ?_
                                                                refine fz_icmp_ne (tgt := 27) kX9_isUnder rfl (by decide) (fun c106 => ?_) (fun c106 => ?_)
                                                                · refine fz_gets kX9_isUnder rfl ?_
                                                                  refine fz_iload_n kX9_isUnder rfl rfl ?_
                                                                  obtain ⟨z107, e108⟩ : ∃ z, h 204 (z93).toNat = z := ⟨_, rfl⟩
                                                                  refine fz_taldV (v := z107) kX9_isUnder rfl ⟨by decide, by decide⟩ (by omega) (by rw [show h 204 100000 = 8 by rw [hI.2.2.2.2]; rfl]; omega) e108 ?_
                                                                  have t109 := fz_tb204 (h := h) hI.2.2.2.2 (show 0 ≤ z93 ∧ z93 < 8 by omega)
                                                                  rw [e108] at t109
                                                                  refine fz_istore_n (ls' := [(3, fz_i z107), (4, fz_i (((((((0 + 1) + 1) + 1) + 1) + 1) + 1) + 1)), (0, fz_r 44), (1, fz_i 3), (2, fz_i tp)]) kX9_isUnder rfl (by decide) rfl ?_
                                                                  refine fz_iincN (ls' := [(4, fz_i ((((((((0 + 1) + 1) + 1) + 1) + 1) + 1) + 1) + 1)), (3, fz_i z107), (0, fz_r 44), (1, fz_i 3), (2, fz_i tp)]) kX9_isUnder rfl (by decide) rfl (by omega) rfl ?_
                                                                  refine fz_goto (tgt := 5) kX9_isUnder rfl (by decide) ?_
                                                                  refine fz_iload kX9_isUnder rfl rfl ?_
                                                                  refine fz_bipush ⟨by decide, by decide⟩ kX9_isUnder rfl ?_
                                                                  refine fz_icmp_ge (tgt := 39) kX9_isUnder rfl (by decide) (fun c110 => ?_) (fun c110 => ?_)
                                                                  · refine fz_iconst ⟨by decide, by decide⟩ kX9_isUnder rfl ?_
                                                                    exact fz_zret kX9_isUnder rfl rfl (by omega) ⟨rfl, _, rfl, Or.inr ⟨rfl, by omega⟩⟩
                                                                  · exfalso; omega
                                                                · refine fz_iconst ⟨by decide, by decide⟩ kX9_isUnder rfl ?_
                                                                  exact fz_zret kX9_isUnder rfl rfl (by omega) ⟨rfl, _, rfl, Or.inl ⟨rfl, by omega⟩⟩
                                                            · refine fz_if_eq (tgt := 39) kX9_isUnder rfl (by decide) (fun c111 => ?_) (fun c111 => ?_)
                                                              · refine fz_iconst ⟨by decide, by decide⟩ kX9_isUnder rfl ?_
                                                                exact fz_zret kX9_isUnder rfl rfl (by omega) ⟨rfl, _, rfl, Or.inr ⟨rfl, by omega⟩⟩
                                                              · exfalso; omega
                                                        · refine fz_iconst ⟨by decide, by decide⟩ kX9_isUnder rfl ?_
                                                          exact fz_zret kX9_isUnder rfl rfl (by omega) ⟨rfl, _, rfl, Or.inl ⟨rfl, by omega⟩⟩
                                                    · refine fz_if_eq (tgt := 39) kX9_isUnder rfl (by decide) (fun c112 => ?_) (fun c112 => ?_)
                                                      · refine fz_iconst ⟨by decide, by decide⟩ kX9_isUnder rfl ?_
                                                        exact fz_zret kX9_isUnder rfl rfl (by omega) ⟨rfl, _, rfl, Or.inr ⟨rfl, by omega⟩⟩
                                                      · exfalso; omega
                                                · refine fz_iconst ⟨by decide, by decide⟩ kX9_isUnder rfl ?_
                                                  exact fz_zret kX9_isUnder rfl rfl (by omega) ⟨rfl, _, rfl, Or.inl ⟨rfl, by omega⟩⟩
                                            · refine fz_if_eq (tgt := 39) kX9_isUnder rfl (by decide) (fun c113 => ?_) (fun c113 => ?_)
                                              · refine fz_iconst ⟨by decide, by decide⟩ kX9_isUnder rfl ?_
                                                exact fz_zret kX9_isUnder rfl rfl (by omega) ⟨rfl, _, rfl, Or.inr ⟨rfl, by omega⟩⟩
                                              · exfalso; omega
                                        · refine fz_iconst ⟨by decide, by decide⟩ kX9_isUnder rfl ?_
                                          exact fz_zret kX9_isUnder rfl rfl (by omega) ⟨rfl, _, rfl, Or.inl ⟨rfl, by omega⟩⟩
                                    · refine fz_if_eq (tgt := 39) kX9_isUnder rfl (by decide) (fun c114 => ?_) (fun c114 => ?_)
                                      · refine fz_iconst ⟨by decide, by decide⟩ kX9_isUnder rfl ?_
                                        exact fz_zret kX9_isUnder rfl rfl (by omega) ⟨rfl, _, rfl, Or.inr ⟨rfl, by omega⟩⟩
                                      · exfalso; omega
                                · refine fz_iconst ⟨by decide, by decide⟩ kX9_isUnder rfl ?_
                                  exact fz_zret kX9_isUnder rfl rfl (by omega) ⟨rfl, _, rfl, Or.inl ⟨rfl, by omega⟩⟩
                            · refine fz_if_eq (tgt := 39) kX9_isUnder rfl (by decide) (fun c115 => ?_) (fun c115 => ?_)
                              · refine fz_iconst ⟨by decide, by decide⟩ kX9_isUnder rfl ?_
                                exact fz_zret kX9_isUnder rfl rfl (by omega) ⟨rfl, _, rfl, Or.inr ⟨rfl, by omega⟩⟩
                              · exfalso; omega
                        · refine fz_iconst ⟨by decide, by decide⟩ kX9_isUnder rfl ?_
                          exact fz_zret kX9_isUnder rfl rfl (by omega) ⟨rfl, _, rfl, Or.inl ⟨rfl, by omega⟩⟩
                    · refine fz_if_eq (tgt := 39) kX9_isUnder rfl (by decide) (fun c116 => ?_) (fun c116 => ?_)
                      · refine fz_iconst ⟨by decide, by decide⟩ kX9_isUnder rfl ?_
                        exact fz_zret kX9_isUnder rfl rfl (by omega) ⟨rfl, _, rfl, Or.inr ⟨rfl, by omega⟩⟩
                      · exfalso; omega
                · refine fz_iconst ⟨by decide, by decide⟩ kX9_isUnder rfl ?_
                  exact fz_zret kX9_isUnder rfl rfl (by omega) ⟨rfl, _, rfl, Or.inl ⟨rfl, by omega⟩⟩
            · refine fz_if_eq (tgt := 39) kX9_isUnder rfl (by decide) (fun c117 => ?_) (fun c117 => ?_)
              · refine fz_iconst ⟨by decide, by decide⟩ kX9_isUnder rfl ?_
                exact fz_zret kX9_isUnder rfl rfl (by omega) ⟨rfl, _, rfl, Or.inr ⟨rfl, by omega⟩⟩
              · exfalso; omega
        · refine fz_iconst ⟨by decide, by decide⟩ kX9_isUnder rfl ?_
          exact fz_zret kX9_isUnder rfl rfl (by omega) ⟨rfl, _, rfl, Or.inl ⟨rfl, by omega⟩⟩
    · refine fz_if_eq (tgt := 39) kX9_isUnder rfl (by decide) (fun c118 => ?_) (fun c118 => ?_)
      · refine fz_iconst ⟨by decide, by decide⟩ kX9_isUnder rfl ?_
        exact fz_zret kX9_isUnder rfl rfl (by omega) ⟨rfl, _, rfl, Or.inr ⟨rfl, by omega⟩⟩
      · exfalso; omega

abbrev qX9_isUnder_4 (h : fz_H) (tp : Int) : fz_H → Option fz_V → Prop := fun h' r0 => h' = h ∧ ∃ r : Int, r0 = some (fz_i r) ∧ ((r = 1 ∧ (tp = 4 ∨ tp = 1 ∨ tp = 0)) ∨ (r = 0 ∧ ¬ (tp = 4 ∨ tp = 1 ∨ tp = 0)))
set_option maxHeartbeats 1000000 in
set_option maxRecDepth 100000 in
theorem sX9_isUnder_4 (h : fz_H) (hI : fz_Iv h) (tp : Int) : fz_R 1 mX9_isUnder 0 [(0, fz_r 44), (1, fz_i 4), (2, fz_i tp)] [] h (qX9_isUnder_4 h tp) := by
  refine fz_knowl (fun hk => ?_)
  have hr_tp : -2147483648 ≤ tp ∧ tp < 2147483648 := hk _ (List.Mem.tail _ (List.Mem.tail _ (List.Mem.head _)))
  clear hk
  refine fz_iload_n kX9_isUnder rfl rfl ?_
  refine fz_istore_n (ls' := [(3, fz_i 4), (0, fz_r 44), (1, fz_i 4), (2, fz_i tp)]) kX9_isUnder rfl (by decide) rfl ?_
  refine fz_iconst ⟨by decide, by decide⟩ kX9_isUnder rfl ?_
  refine fz_istore (ls' := [(4, fz_i 0), (3, fz_i 4), (0, fz_r 44), (1, fz_i 4), (2, fz_i tp)]) kX9_isUnder rfl (by decide) rfl ?_
  refine fz_iload kX9_isUnder rfl rfl ?_
  refine fz_bipush ⟨by decide, by decide⟩ kX9_isUnder rfl ?_
  refine fz_icmp_ge (tgt := 39) kX9_isUnder rfl (by decide) (fun c1 => ?_) (fun c1 => ?_)
  · exfalso; omega
  · refine fz_aload_n kX9_isUnder rfl rfl ?_
    refine fz_iload_n kX9_isUnder rfl rfl ?_
    refine fz_callV (d' := 0) (M' := mX9_isKind) (As := [fz_i 4]) (st := []) kX9_isUnder rfl rfl vX9_isKind rfl rfl rfl rfl (Nat.le_of_ble_eq_true rfl) (Nat.le_of_ble_eq_true rfl) (by decide) (sX9_isKind h hI 4 ) (fun H2 r3 q4 o5 => ?_)
    obtain ⟨e6, y7, rfl, p8⟩ := q4
    subst H2
    clear o5
    rcases p8 with ⟨rfl, c9⟩ | ⟨rfl, c9⟩
    · refine fz_if_eq (tgt := 39) kX9_isUnder rfl (by decide) (fun c10 => ?_) (fun c10 => ?_)
      · exfalso; omega
      · refine fz_iload_n kX9_isUnder rfl rfl ?_
        refine fz_iload_n kX9_isUnder rfl rfl ?_
        refine fz_icmp_ne (tgt := 27) kX9_isUnder rfl (by decide) (fun c11 => ?_) (fun c11 => ?_)
        · refine fz_gets kX9_isUnder rfl ?_
          refine fz_iload_n kX9_isUnder rfl rfl ?_
          refine fz_taldV (v := 1) kX9_isUnder rfl ⟨by decide, by decide⟩ (by omega) (by rw [hI.2.2.2.2]; decide) (by rw [hI.2.2.2.2]; rfl) ?_
          refine fz_istore_n (ls' := [(3, fz_i 1), (4, fz_i 0), (0, fz_r 44), (1, fz_i 4), (2, fz_i tp)]) kX9_isUnder rfl (by decide) rfl ?_
          refine fz_iincN (ls' := [(4, fz_i (0 + 1)), (3, fz_i 1), (0, fz_r 44), (1, fz_i 4), (2, fz_i tp)]) kX9_isUnder rfl (by decide) rfl (by omega) rfl ?_
          refine fz_goto (tgt := 5) kX9_isUnder rfl (by decide) ?_
          refine fz_iload kX9_isUnder rfl rfl ?_
          refine fz_bipush ⟨by decide, by decide⟩ kX9_isUnder rfl ?_
          refine fz_icmp_ge (tgt := 39) kX9_isUnder rfl (by decide) (fun c14 => ?_) (fun c14 => ?_)
          · exfalso; omega
          · refine fz_aload_n kX9_isUnder rfl rfl ?_
            refine fz_iload_n kX9_isUnder rfl rfl ?_
            refine fz_callV (d' := 0) (M' := mX9_isKind) (As := [fz_i 1]) (st := []) kX9_isUnder rfl rfl vX9_isKind rfl rfl rfl rfl (Nat.le_of_ble_eq_true rfl) (Nat.le_of_ble_eq_true rfl) (by decide) (sX9_isKind h hI 1 ) (fun H15 r16 q17 o18 => ?_)
            obtain ⟨e19, y20, rfl, p21⟩ := q17
            subst H15
            clear o18
            rcases p21 with ⟨rfl, c22⟩ | ⟨rfl, c22⟩
            · refine fz_if_eq (tgt := 39) kX9_isUnder rfl (by decide) (fun c23 => ?_) (fun c23 => ?_)
              · exfalso; omega
              · refine fz_iload_n kX9_isUnder rfl rfl ?_
                refine fz_iload_n kX9_isUnder rfl rfl ?_
                refine fz_icmp_ne (tgt := 27) kX9_isUnder rfl (by decide) (fun c24 => ?_) (fun c24 => ?_)
                · refine fz_gets kX9_isUnder rfl ?_
                  refine fz_iload_n kX9_isUnder rfl rfl ?_
                  refine fz_taldV (v := 0) kX9_isUnder rfl ⟨by decide, by decide⟩ (by omega) (by rw [hI.2.2.2.2]; decide) (by rw [hI.2.2.2.2]; rfl) ?_
                  refine fz_istore_n (ls' := [(3, fz_i 0), (4, fz_i (0 + 1)), (0, fz_r 44), (1, fz_i 4), (2, fz_i tp)]) kX9_isUnder rfl (by decide) rfl ?_
                  refine fz_iincN (ls' := [(4, fz_i ((0 + 1) + 1)), (3, fz_i 0), (0, fz_r 44), (1, fz_i 4), (2, fz_i tp)]) kX9_isUnder rfl (by decide) rfl (by omega) rfl ?_
                  refine fz_goto (tgt := 5) kX9_isUnder rfl (by decide) ?_
                  refine fz_iload kX9_isUnder rfl rfl ?_
                  refine fz_bipush ⟨by decide, by decide⟩ kX9_isUnder rfl ?_
                  refine fz_icmp_ge (tgt := 39) kX9_isUnder rfl (by decide) (fun c27 => ?_) (fun c27 => ?_)
                  · exfalso; omega
                  · refine fz_aload_n kX9_isUnder rfl rfl ?_
                    refine fz_iload_n kX9_isUnder rfl rfl ?_
                    refine fz_callV (d' := 0) (M' := mX9_isKind) (As := [fz_i 0]) (st := []) kX9_isUnder rfl rfl vX9_isKind rfl rfl rfl rfl (Nat.le_of_ble_eq_true rfl) (Nat.le_of_ble_eq_true rfl) (by decide) (sX9_isKind h hI 0 ) (fun H28 r29 q30 o31 => ?_)
                    obtain ⟨e32, y33, rfl, p34⟩ := q30
                    subst H28
                    clear o31
                    rcases p34 with ⟨rfl, c35⟩ | ⟨rfl, c35⟩
                    · refine fz_if_eq (tgt := 39) kX9_isUnder rfl (by decide) (fun c36 => ?_) (fun c36 => ?_)
                      · exfalso; omega
                      · refine fz_iload_n kX9_isUnder rfl rfl ?_
                        refine fz_iload_n kX9_isUnder rfl rfl ?_
                        refine fz_icmp_ne (tgt := 27) kX9_isUnder rfl (by decide) (fun c37 => ?_) (fun c37 => ?_)
                        · refine fz_gets kX9_isUnder rfl ?_
                          refine fz_iload_n kX9_isUnder rfl rfl ?_
                          refine fz_taldV (v := (-1)) kX9_isUnder rfl ⟨by decide, by decide⟩ (by omega) (by rw [hI.2.2.2.2]; decide) (by rw [hI.2.2.2.2]; rfl) ?_
                          refine fz_istore_n (ls' := [(3, fz_i (-1)), (4, fz_i ((0 + 1) + 1)), (0, fz_r 44), (1, fz_i 4), (2, fz_i tp)]) kX9_isUnder rfl (by decide) rfl ?_
                          refine fz_iincN (ls' := [(4, fz_i (((0 + 1) + 1) + 1)), (3, fz_i (-1)), (0, fz_r 44), (1, fz_i 4), (2, fz_i tp)]) kX9_isUnder rfl (by decide) rfl (by omega) rfl ?_
                          refine fz_goto (tgt := 5) kX9_isUnder rfl (by decide) ?_
                          refine fz_iload kX9_isUnder rfl rfl ?_
                          refine fz_bipush ⟨by decide, by decide⟩ kX9_isUnder rfl ?_
                          refine fz_icmp_ge (tgt := 39) kX9_isUnder rfl (by decide) (fun c40 => ?_) (fun c40 => ?_)
                          · exfalso; omega
                          · refine fz_aload_n kX9_isUnder rfl rfl ?_
                            refine fz_iload_n kX9_isUnder rfl rfl ?_
                            refine fz_callV (d' := 0) (M' := mX9_isKind) (As := [fz_i (-1)]) (st := []) kX9_isUnder rfl rfl vX9_isKind rfl rfl rfl rfl (Nat.le_of_ble_eq_true rfl) (Nat.le_of_ble_eq_true rfl) (by decide) (sX9_isKind h hI (-1) ) (fun H41 r42 q43 o44 => ?_)
                            obtain ⟨e45, y46, rfl, p47⟩ := q43
                            subst H41
                            clear o44
                            rcases p47 with ⟨rfl, c48⟩ | ⟨rfl, c48⟩
                            · refine fz_if_eq (tgt := 39) kX9_isUnder rfl (by decide) (fun c49 => ?_) (fun c49 => ?_)
                              · exfalso; omega
                              · refine fz_iload_n kX9_isUnder rfl rfl ?_
                                refine fz_iload_n kX9_isUnder rfl rfl ?_
                                refine fz_icmp_ne (tgt := 27) kX9_isUnder rfl (by decide) (fun c50 => ?_) (fun c50 => ?_)
                                · refine fz_gets kX9_isUnder rfl ?_
                                  refine fz_iload_n kX9_isUnder rfl rfl ?_
                                  obtain ⟨z51, e52⟩ : ∃ z, h 204 ((-1)).toNat = z := ⟨_, rfl⟩
                                  refine fz_taldV (v := z51) kX9_isUnder rfl ⟨by decide, by decide⟩ (by omega) (by rw [show h 204 100000 = 8 by rw [hI.2.2.2.2]; rfl]; omega) e52 ?_
                                  have t53 := fz_tb204 (h := h) hI.2.2.2.2 (show 0 ≤ (-1) ∧ (-1) < 8 by omega)
                                  rw [e52] at t53
                                  refine fz_istore_n (ls' := [(3, fz_i z51), (4, fz_i (((0 + 1) + 1) + 1)), (0, fz_r 44), (1, fz_i 4), (2, fz_i tp)]) kX9_isUnder rfl (by decide) rfl ?_
                                  refine fz_iincN (ls' := [(4, fz_i ((((0 + 1) + 1) + 1) + 1)), (3, fz_i z51), (0, fz_r 44), (1, fz_i 4), (2, fz_i tp)]) kX9_isUnder rfl (by decide) rfl (by omega) rfl ?_
                                  refine fz_goto (tgt := 5) kX9_isUnder rfl (by decide) ?_
                                  refine fz_iload kX9_isUnder rfl rfl ?_
                                  refine fz_bipush ⟨by decide, by decide⟩ kX9_isUnder rfl ?_
                                  refine fz_icmp_ge (tgt := 39) kX9_isUnder rfl (by decide) (fun c54 => ?_) (fun c54 => ?_)
                                  · exfalso; omega
                                  · refine fz_aload_n kX9_isUnder rfl rfl ?_
                                    refine fz_iload_n kX9_isUnder rfl rfl ?_
                                    refine fz_callV (d' := 0) (M' := mX9_isKind) (As := [fz_i z51]) (st := []) kX9_isUnder rfl rfl vX9_isKind rfl rfl rfl rfl (Nat.le_of_ble_eq_true rfl) (Nat.le_of_ble_eq_true rfl) (by decide) (sX9_isKind h hI z51 ) (fun H55 r56 q57 o58 => ?_)
                                    obtain ⟨e59, y60, rfl, p61⟩ := q57
                                    subst H55
                                    clear o58
                                    rcases p61 with ⟨rfl, c62⟩ | ⟨rfl, c62⟩
                                    · refine fz_if_eq (tgt := 39) kX9_isUnder rfl (by decide) (fun c63 => ?_) (fun c63 => ?_)
                                      · exfalso; omega
                                      · refine fz_iload_n kX9_isUnder rfl rfl ?_
                                        refine fz_iload_n kX9_isUnder rfl rfl ?_
                                        refine fz_icmp_ne (tgt := 27) kX9_isUnder rfl (by decide) (fun c64 => ?_) (fun c64 => ?_)
                                        · refine fz_gets kX9_isUnder rfl ?_
                                          refine fz_iload_n kX9_isUnder rfl rfl ?_
                                          obtain ⟨z65, e66⟩ : ∃ z, h 204 (z51).toNat = z := ⟨_, rfl⟩
                                          refine fz_taldV (v := z65) kX9_isUnder rfl ⟨by decide, by decide⟩ (by omega) (by rw [show h 204 100000 = 8 by rw [hI.2.2.2.2]; rfl]; omega) e66 ?_
                                          have t67 := fz_tb204 (h := h) hI.2.2.2.2 (show 0 ≤ z51 ∧ z51 < 8 by omega)
                                          rw [e66] at t67
                                          refine fz_istore_n (ls' := [(3, fz_i z65), (4, fz_i ((((0 + 1) + 1) + 1) + 1)), (0, fz_r 44), (1, fz_i 4), (2, fz_i tp)]) kX9_isUnder rfl (by decide) rfl ?_
                                          refine fz_iincN (ls' := [(4, fz_i (((((0 + 1) + 1) + 1) + 1) + 1)), (3, fz_i z65), (0, fz_r 44), (1, fz_i 4), (2, fz_i tp)]) kX9_isUnder rfl (by decide) rfl (by omega) rfl ?_
                                          refine fz_goto (tgt := 5) kX9_isUnder rfl (by decide) ?_
                                          refine fz_iload kX9_isUnder rfl rfl ?_
                                          refine fz_bipush ⟨by decide, by decide⟩ kX9_isUnder rfl ?_
                                          refine fz_icmp_ge (tgt := 39) kX9_isUnder rfl (by decide) (fun c68 => ?_) (fun c68 => ?_)
                                          · exfalso; omega
                                          · refine fz_aload_n kX9_isUnder rfl rfl ?_
                                            refine fz_iload_n kX9_isUnder rfl rfl ?_
                                            refine fz_callV (d' := 0) (M' := mX9_isKind) (As := [fz_i z65]) (st := []) kX9_isUnder rfl rfl vX9_isKind rfl rfl rfl rfl (Nat.le_of_ble_eq_true rfl) (Nat.le_of_ble_eq_true rfl) (by decide) (sX9_isKind h hI z65 ) (fun H69 r70 q71 o72 => ?_)
                                            obtain ⟨e73, y74, rfl, p75⟩ := q71
                                            subst H69
                                            clear o72
                                            rcases p75 with ⟨rfl, c76⟩ | ⟨rfl, c76⟩
                                            · refine fz_if_eq (tgt := 39) kX9_isUnder rfl (by decide) (fun c77 => ?_) (fun c77 => ?_)
                                              · exfalso; omega
                                              · refine fz_iload_n kX9_isUnder rfl rfl ?_
                                                refine fz_iload_n kX9_isUnder rfl rfl ?_
                                                refine fz_icmp_ne (tgt := 27) kX9_isUnder rfl (by decide) (fun c78 => ?_) (fun c78 => ?_)
                                                · refine fz_gets kX9_isUnder rfl ?_
                                                  refine fz_iload_n kX9_isUnder rfl rfl ?_
                                                  obtain ⟨z79, e80⟩ : ∃ z, h 204 (z65).toNat = z := ⟨_, rfl⟩
                                                  refine fz_taldV (v := z79) kX9_isUnder rfl ⟨by decide, by decide⟩ (by omega) (by rw [show h 204 100000 = 8 by rw [hI.2.2.2.2]; rfl]; omega) e80 ?_
                                                  have t81 := fz_tb204 (h := h) hI.2.2.2.2 (show 0 ≤ z65 ∧ z65 < 8 by omega)
                                                  rw [e80] at t81
                                                  refine fz_istore_n (ls' := [(3, fz_i z79), (4, fz_i (((((0 + 1) + 1) + 1) + 1) + 1)), (0, fz_r 44), (1, fz_i 4), (2, fz_i tp)]) kX9_isUnder rfl (by decide) rfl ?_
                                                  refine fz_iincN (ls' := [(4, fz_i ((((((0 + 1) + 1) + 1) + 1) + 1) + 1)), (3, fz_i z79), (0, fz_r 44), (1, fz_i 4), (2, fz_i tp)]) kX9_isUnder rfl (by decide) rfl (by omega) rfl ?_
                                                  refine fz_goto (tgt := 5) kX9_isUnder rfl (by decide) ?_
                                                  refine fz_iload kX9_isUnder rfl rfl ?_
                                                  refine fz_bipush ⟨by decide, by decide⟩ kX9_isUnder rfl ?_
                                                  refine fz_icmp_ge (tgt := 39) kX9_isUnder rfl (by decide) (fun c82 => ?_) (fun c82 => ?_)
                                                  · exfalso; omega
                                                  · refine fz_aload_n kX9_isUnder rfl rfl ?_
                                                    refine fz_iload_n kX9_isUnder rfl rfl ?_
                                                    refine fz_callV (d' := 0) (M' := mX9_isKind) (As := [fz_i z79]) (st := []) kX9_isUnder rfl rfl vX9_isKind rfl rfl rfl rfl (Nat.le_of_ble_eq_true rfl) (Nat.le_of_ble_eq_true rfl) (by decide) (sX9_isKind h hI z79 ) (fun H83 r84 q85 o86 => ?_)
                                                    obtain ⟨e87, y88, rfl, p89⟩ := q85
                                                    subst H83
                                                    clear o86
                                                    rcases p89 with ⟨rfl, c90⟩ | ⟨rfl, c90⟩
                                                    · refine fz_if_eq (tgt := 39) kX9_isUnder rfl (by decide) (fun c91 => ?_) (fun c91 => ?_)
                                                      · exfalso; omega
                                                      · refine fz_iload_n kX9_isUnder rfl rfl ?_
                                                        refine fz_iload_n kX9_isUnder rfl rfl ?_
                                                        refine fz_icmp_ne (tgt := 27) kX9_isUnder rfl (by decide) (fun c92 => ?_) (fun c92 => ?_)
                                                        · refine fz_gets kX9_isUnder rfl ?_
                                                          refine fz_iload_n kX9_isUnder rfl rfl ?_
                                                          obtain ⟨z93, e94⟩ : ∃ z, h 204 (z79).toNat = z := ⟨_, rfl⟩
                                                          refine fz_taldV (v := z93) kX9_isUnder rfl ⟨by decide, by decide⟩ (by omega) (by rw [show h 204 100000 = 8 by rw [hI.2.2.2.2]; rfl]; omega) e94 ?_
                                                          have t95 := fz_tb204 (h := h) hI.2.2.2.2 (show 0 ≤ z79 ∧ z79 < 8 by omega)
                                                          rw [e94] at t95
                                                          refine fz_istore_n (ls' := [(3, fz_i z93), (4, fz_i ((((((0 + 1) + 1) + 1) + 1) + 1) + 1)), (0, fz_r 44), (1, fz_i 4), (2, fz_i tp)]) kX9_isUnder rfl (by decide) rfl ?_
                                                          refine fz_iincN (ls' := [(4, fz_i (((((((0 + 1) + 1) + 1) + 1) + 1) + 1) + 1)), (3, fz_i z93), (0, fz_r 44), (1, fz_i 4), (2, fz_i tp)]) kX9_isUnder rfl (by decide) rfl (by omega) rfl ?_
                                                          refine fz_goto (tgt := 5) kX9_isUnder rfl (by decide) ?_
                                                          refine fz_iload kX9_isUnder rfl rfl ?_
                                                          refine fz_bipush ⟨by decide, by decide⟩ kX9_isUnder rfl ?_
                                                          refine fz_icmp_ge (tgt := 39) kX9_isUnder rfl (by decide) (fun c96 => ?_) (fun c96 => ?_)
                                                          · exfalso; omega
                                                          · refine fz_aload_n kX9_isUnder rfl rfl ?_
                                                            refine fz_iload_n kX9_isUnder rfl rfl ?_
                                                            refine fz_callV (d' := 0) (M' := mX9_isKind) (As := [fz_i z93]) (st := []) kX9_isUnder rfl rfl vX9_isKind rfl rfl rfl rfl (Nat.le_of_ble_eq_true rfl) (Nat.le_of_ble_eq_true rfl) (by decide) (sX9_isKind h hI z93 ) (fun H97 r98 q99 o100 => ?_)
                                                            obtain ⟨e101, y102, rfl, p103⟩ := q99
                                                            subst H97
                                                            clear o100
                                                            rcases p103 with ⟨rfl, c104⟩ | ⟨rfl, c104⟩
                                                            · refine fz_if_eq (tgt := 39) kX9_isUnder rfl (by decide) (fun c105 => ?_) (fun c105 => ?_)
                                                              · exfalso; omega
                                                              · refine fz_iload_n kX9_isUnder rfl rfl ?_
                                                                refine fz_iload_n kX9_isUnder rfl rfl ?_
                                                                refine fz_icmp_ne (tgt := 27) kX9_isUnder rfl (by decide) (fun c106 => ?_) (fun c106 => ?_)
                                                                · refine fz_gets kX9_isUnder rfl ?_
                                                                  refine fz_iload_n kX9_isUnder rfl rfl ?_
                                                                  obtain ⟨z107, e108⟩ : ∃ z, h 204 (z93).toNat = z := ⟨_, rfl⟩
                                                                  refine fz_taldV (v := z107) kX9_isUnder rfl ⟨by decide, by decide⟩ (by omega) (by rw [show h 204 100000 = 8 by rw [hI.2.2.2.2]; rfl]; omega) e108 ?_
                                                                  have t109 := fz_tb204 (h := h) hI.2.2.2.2 (show 0 ≤ z93 ∧ z93 < 8 by omega)
                                                                  rw [e108] at t109
                                                                  refine fz_istore_n (ls' := [(3, fz_i z107), (4, fz_i (((((((0 + 1) + 1) + 1) + 1) + 1) + 1) + 1)), (0, fz_r 44), (1, fz_i 4), (2, fz_i tp)]) kX9_isUnder rfl (by decide) rfl ?_
                                                                  refine fz_iincN (ls' := [(4, fz_i ((((((((0 + 1) + 1) + 1) + 1) + 1) + 1) + 1) + 1)), (3, fz_i z107), (0, fz_r 44), (1, fz_i 4), (2, fz_i tp)]) kX9_isUnder rfl (by decide) rfl (by omega) rfl ?_
                                                                  refine fz_goto (tgt := 5) kX9_isUnder rfl (by decide) ?_
                                                                  refine fz_iload kX9_isUnder rfl rfl ?_
                                                                  refine fz_bipush ⟨by decide, by decide⟩ kX9_isUnder rfl ?_
                                                                  refine fz_icmp_ge (tgt := 39) kX9_isUnder rfl (by decide) (fun c110 => ?_) (fun c110 => ?_)
                                                                  · refine fz_iconst ⟨by decide, by decide⟩ kX9_isUnder rfl ?_
                                                                    exact fz_zret kX9_isUnder rfl rfl (by omega) ⟨rfl, _, rfl, Or.inr ⟨rfl, by omega⟩⟩
                                                                  · exfalso; omega
                                                                · refine fz_iconst ⟨by decide, by decide⟩ kX9_isUnder rfl ?_
                                                                  exact fz_zret kX9_isUnder rfl rfl (by omega) ⟨rfl, _, rfl, Or.inl ⟨rfl, by omega⟩⟩
                                                            · refine fz_if_eq (tgt := 39) kX9_isUnder rfl (by decide) (fun c111 => ?_) (fun c111 => ?_)
                                                              · refine fz_iconst ⟨by decide, by decide⟩ kX9_isUnder rfl ?_
                                                                exact fz_zret kX9_isUnder rfl rfl (by omega) ⟨rfl, _, rfl, Or.inr ⟨rfl, by omega⟩⟩
                                                              · exfalso; omega
                                                        · refine fz_iconst ⟨by decide, by decide⟩ kX9_isUnder rfl ?_
                                                          exact fz_zret kX9_isUnder rfl rfl (by omega) ⟨rfl, _, rfl, Or.inl ⟨rfl, by omega⟩⟩
                                                    · refine fz_if_eq (tgt := 39) kX9_isUnder rfl (by decide) (fun c112 => ?_) (fun c112 => ?_)
                                                      · refine fz_iconst ⟨by decide, by decide⟩ kX9_isUnder rfl ?_
                                                        exact fz_zret kX9_isUnder rfl rfl (by omega) ⟨rfl, _, rfl, Or.inr ⟨rfl, by omega⟩⟩
                                                      · exfalso; omega
                                                · refine fz_iconst ⟨by decide, by decide⟩ kX9_isUnder rfl ?_
                                                  exact fz_zret kX9_isUnder rfl rfl (by omega) ⟨rfl, _, rfl, Or.inl ⟨rfl, by omega⟩⟩
                                            · refine fz_if_eq (tgt := 39) kX9_isUnder rfl (by decide) (fun c113 => ?_) (fun c113 => ?_)
                                              · refine fz_iconst ⟨by decide, by decide⟩ kX9_isUnder rfl ?_
                                                exact fz_zret kX9_isUnder rfl rfl (by omega) ⟨rfl, _, rfl, Or.inr ⟨rfl, by omega⟩⟩
                                              · exfalso; omega
                                        · refine fz_iconst ⟨by decide, by decide⟩ kX9_isUnder rfl ?_
                                          exact fz_zret kX9_isUnder rfl rfl (by omega) ⟨rfl, _, rfl, Or.inl ⟨rfl, by omega⟩⟩
                                    · refine fz_if_eq (tgt := 39) kX9_isUnder rfl (by decide) (fun c114 => ?_) (fun c114 => ?_)
                                      · refine fz_iconst ⟨by decide, by decide⟩ kX9_isUnder rfl ?_
                                        exact fz_zret kX9_isUnder rfl rfl (by omega) ⟨rfl, _, rfl, Or.inr ⟨rfl, by omega⟩⟩
                                      · exfalso; omega
                                · refine fz_iconst ⟨by decide, by decide⟩ kX9_isUnder rfl ?_
                                  exact fz_zret kX9_isUnder rfl rfl (by omega) ⟨rfl, _, rfl, Or.inl ⟨rfl, by omega⟩⟩
                            · refine fz_if_eq (tgt := 39) kX9_isUnder rfl (by decide) (fun c115 => ?_) (fun c115 => ?_)
                              · refine fz_iconst ⟨by decide, by decide⟩ kX9_isUnder rfl ?_
                                exact fz_zret kX9_isUnder rfl rfl (by omega) ⟨rfl, _, rfl, Or.inr ⟨rfl, by omega⟩⟩
                              · exfalso; omega
                        · refine fz_iconst ⟨by decide, by decide⟩ kX9_isUnder rfl ?_
                          exact fz_zret kX9_isUnder rfl rfl (by omega) ⟨rfl, _, rfl, Or.inl ⟨rfl, by omega⟩⟩
                    · refine fz_if_eq (tgt := 39) kX9_isUnder rfl (by decide) (fun c116 => ?_) (fun c116 => ?_)
                      · refine fz_iconst ⟨by decide, by decide⟩ kX9_isUnder rfl ?_
                        exact fz_zret kX9_isUnder rfl rfl (by omega) ⟨rfl, _, rfl, Or.inr ⟨rfl, by omega⟩⟩
                      · exfalso; omega
                · refine fz_iconst ⟨by decide, by decide⟩ kX9_isUnder rfl ?_
                  exact fz_zret kX9_isUnder rfl rfl (by omega) ⟨rfl, _, rfl, Or.inl ⟨rfl, by omega⟩⟩
            · refine fz_if_eq (tgt := 39) kX9_isUnder rfl (by decide) (fun c117 => ?_) (fun c117 => ?_)
              · refine fz_iconst ⟨by decide, by decide⟩ kX9_isUnder rfl ?_
                exact fz_zret kX9_isUnder rfl rfl (by omega) ⟨rfl, _, rfl, Or.inr ⟨rfl, by omega⟩⟩
              · exfalso; omega
        · refine fz_iconst ⟨by decide, by decide⟩ kX9_isUnder rfl ?_
          exact fz_zret kX9_isUnder rfl rfl (by omega) ⟨rfl, _, rfl, Or.inl ⟨rfl, by omega⟩⟩
    · refine fz_if_eq (tgt := 39) kX9_isUnder rfl (by decide) (fun c118 => ?_) (fun c118 => ?_)
      · refine fz_iconst ⟨by decide, by decide⟩ kX9_isUnder rfl ?_
        exact fz_zret kX9_isUnder rfl rfl (by omega) ⟨rfl, _, rfl, Or.inr ⟨rfl, by omega⟩⟩
      · exfalso; omega

abbrev qX9_isUnder_5 (h : fz_H) (tp : Int) : fz_H → Option fz_V → Prop := fun h' r0 => h' = h ∧ ∃ r : Int, r0 = some (fz_i r) ∧ ((r = 1 ∧ (tp = 5 ∨ tp = 3 ∨ tp = 2 ∨ tp = 0)) ∨ (r = 0 ∧ ¬ (tp = 5 ∨ tp = 3 ∨ tp = 2 ∨ tp = 0)))
set_option maxHeartbeats 1000000 in
set_option maxRecDepth 100000 in
theorem sX9_isUnder_5 (h : fz_H) (hI : fz_Iv h) (tp : Int) : fz_R 1 mX9_isUnder 0 [(0, fz_r 44), (1, fz_i 5), (2, fz_i tp)] [] h (qX9_isUnder_5 h tp) := by
  refine fz_knowl (fun hk => ?_)
  have hr_tp : -2147483648 ≤ tp ∧ tp < 2147483648 := hk _ (List.Mem.tail _ (List.Mem.tail _ (List.Mem.head _)))
  clear hk
  refine fz_iload_n kX9_isUnder rfl rfl ?_
  refine fz_istore_n (ls' := [(3, fz_i 5), (0, fz_r 44), (1, fz_i 5), (2, fz_i tp)]) kX9_isUnder rfl (by decide) rfl ?_
  refine fz_iconst ⟨by decide, by decide⟩ kX9_isUnder rfl ?_
  refine fz_istore (ls' := [(4, fz_i 0), (3, fz_i 5), (0, fz_r 44), (1, fz_i 5), (2, fz_i tp)]) kX9_isUnder rfl (by decide) rfl ?_
  refine fz_iload kX9_isUnder rfl rfl ?_
  refine fz_bipush ⟨by decide, by decide⟩ kX9_isUnder rfl ?_
  refine fz_icmp_ge (tgt := 39) kX9_isUnder rfl (by decide) (fun c1 => ?_) (fun c1 => ?_)
  · exfalso; omega
  · refine fz_aload_n kX9_isUnder rfl rfl ?_
    refine fz_iload_n kX9_isUnder rfl rfl ?_
    refine fz_callV (d' := 0) (M' := mX9_isKind) (As := [fz_i 5]) (st := []) kX9_isUnder rfl rfl vX9_isKind rfl rfl rfl rfl (Nat.le_of_ble_eq_true rfl) (Nat.le_of_ble_eq_true rfl) (by decide) (sX9_isKind h hI 5 ) (fun H2 r3 q4 o5 => ?_)
    obtain ⟨e6, y7, rfl, p8⟩ := q4
    subst H2
    clear o5
    rcases p8 with ⟨rfl, c9⟩ | ⟨rfl, c9⟩
    · refine fz_if_eq (tgt := 39) kX9_isUnder rfl (by decide) (fun c10 => ?_) (fun c10 => ?_)
      · exfalso; omega
      · refine fz_iload_n kX9_isUnder rfl rfl ?_
        refine fz_iload_n kX9_isUnder rfl rfl ?_
        refine fz_icmp_ne (tgt := 27) kX9_isUnder rfl (by decide) (fun c11 => ?_) (fun c11 => ?_)
        · refine fz_gets kX9_isUnder rfl ?_
          refine fz_iload_n kX9_isUnder rfl rfl ?_
          refine fz_taldV (v := 3) kX9_isUnder rfl ⟨by decide, by decide⟩ (by omega) (by rw [hI.2.2.2.2]; decide) (by rw [hI.2.2.2.2]; rfl) ?_
          refine fz_istore_n (ls' := [(3, fz_i 3), (4, fz_i 0), (0, fz_r 44), (1, fz_i 5), (2, fz_i tp)]) kX9_isUnder rfl (by decide) rfl ?_
          refine fz_iincN (ls' := [(4, fz_i (0 + 1)), (3, fz_i 3), (0, fz_r 44), (1, fz_i 5), (2, fz_i tp)]) kX9_isUnder rfl (by decide) rfl (by omega) rfl ?_
          refine fz_goto (tgt := 5) kX9_isUnder rfl (by decide) ?_
          refine fz_iload kX9_isUnder rfl rfl ?_
          refine fz_bipush ⟨by decide, by decide⟩ kX9_isUnder rfl ?_
          refine fz_icmp_ge (tgt := 39) kX9_isUnder rfl (by decide) (fun c14 => ?_) (fun c14 => ?_)
          · exfalso; omega
          · refine fz_aload_n kX9_isUnder rfl rfl ?_
            refine fz_iload_n kX9_isUnder rfl rfl ?_
            refine fz_callV (d' := 0) (M' := mX9_isKind) (As := [fz_i 3]) (st := []) kX9_isUnder rfl rfl vX9_isKind rfl rfl rfl rfl (Nat.le_of_ble_eq_true rfl) (Nat.le_of_ble_eq_true rfl) (by decide) (sX9_isKind h hI 3 ) (fun H15 r16 q17 o18 => ?_)
            obtain ⟨e19, y20, rfl, p21⟩ := q17
            subst H15
            clear o18
            rcases p21 with ⟨rfl, c22⟩ | ⟨rfl, c22⟩
            · refine fz_if_eq (tgt := 39) kX9_isUnder rfl (by decide) (fun c23 => ?_) (fun c23 => ?_)
              · exfalso; omega
              · refine fz_iload_n kX9_isUnder rfl rfl ?_
                refine fz_iload_n kX9_isUnder rfl rfl ?_
                refine fz_icmp_ne (tgt := 27) kX9_isUnder rfl (by decide) (fun c24 => ?_) (fun c24 => ?_)
                · refine fz_gets kX9_isUnder rfl ?_
                  refine fz_iload_n kX9_isUnder rfl rfl ?_
                  refine fz_taldV (v := 2) kX9_isUnder rfl ⟨by decide, by decide⟩ (by omega) (by rw [hI.2.2.2.2]; decide) (by rw [hI.2.2.2.2]; rfl) ?_
                  refine fz_istore_n (ls' := [(3, fz_i 2), (4, fz_i (0 + 1)), (0, fz_r 44), (1, fz_i 5), (2, fz_i tp)]) kX9_isUnder rfl (by decide) rfl ?_
                  refine fz_iincN (ls' := [(4, fz_i ((0 + 1) + 1)), (3, fz_i 2), (0, fz_r 44), (1, fz_i 5), (2, fz_i tp)]) kX9_isUnder rfl (by decide) rfl (by omega) rfl ?_
                  refine fz_goto (tgt := 5) kX9_isUnder rfl (by decide) ?_
                  refine fz_iload kX9_isUnder rfl rfl ?_
                  refine fz_bipush ⟨by decide, by decide⟩ kX9_isUnder rfl ?_
                  refine fz_icmp_ge (tgt := 39) kX9_isUnder rfl (by decide) (fun c27 => ?_) (fun c27 => ?_)
                  · exfalso; omega
                  · refine fz_aload_n kX9_isUnder rfl rfl ?_
                    refine fz_iload_n kX9_isUnder rfl rfl ?_
                    refine fz_callV (d' := 0) (M' := mX9_isKind) (As := [fz_i 2]) (st := []) kX9_isUnder rfl rfl vX9_isKind rfl rfl rfl rfl (Nat.le_of_ble_eq_true rfl) (Nat.le_of_ble_eq_true rfl) (by decide) (sX9_isKind h hI 2 ) (fun H28 r29 q30 o31 => ?_)
                    obtain ⟨e32, y33, rfl, p34⟩ := q30
                    subst H28
                    clear o31
                    rcases p34 with ⟨rfl, c35⟩ | ⟨rfl, c35⟩
                    · refine fz_if_eq (tgt := 39) kX9_isUnder rfl (by decide) (fun c36 => ?_) (fun c36 => ?_)
                      · exfalso; omega
                      · refine fz_iload_n kX9_isUnder rfl rfl ?_
                        refine fz_iload_n kX9_isUnder rfl rfl ?_
                        refine fz_icmp_ne (tgt := 27) kX9_isUnder rfl (by decide) (fun c37 => ?_) (fun c37 => ?_)
                        · refine fz_gets kX9_isUnder rfl ?_
                          refine fz_iload_n kX9_isUnder rfl rfl ?_
                          refine fz_taldV (v := 0) kX9_isUnder rfl ⟨by decide, by decide⟩ (by omega) (by rw [hI.2.2.2.2]; decide) (by rw [hI.2.2.2.2]; rfl) ?_
                          refine fz_istore_n (ls' := [(3, fz_i 0), (4, fz_i ((0 + 1) + 1)), (0, fz_r 44), (1, fz_i 5), (2, fz_i tp)]) kX9_isUnder rfl (by decide) rfl ?_
                          refine fz_iincN (ls' := [(4, fz_i (((0 + 1) + 1) + 1)), (3, fz_i 0), (0, fz_r 44), (1, fz_i 5), (2, fz_i tp)]) kX9_isUnder rfl (by decide) rfl (by omega) rfl ?_
                          refine fz_goto (tgt := 5) kX9_isUnder rfl (by decide) ?_
                          refine fz_iload kX9_isUnder rfl rfl ?_
                          refine fz_bipush ⟨by decide, by decide⟩ kX9_isUnder rfl ?_
                          refine fz_icmp_ge (tgt := 39) kX9_isUnder rfl (by decide) (fun c40 => ?_) (fun c40 => ?_)
                          · exfalso; omega
                          · refine fz_aload_n kX9_isUnder rfl rfl ?_
                            refine fz_iload_n kX9_isUnder rfl rfl ?_
                            refine fz_callV (d' := 0) (M' := mX9_isKind) (As := [fz_i 0]) (st := []) kX9_isUnder rfl rfl vX9_isKind rfl rfl rfl rfl (Nat.le_of_ble_eq_true rfl) (Nat.le_of_ble_eq_true rfl) (by decide) (sX9_isKind h hI 0 ) (fun H41 r42 q43 o44 => ?_)
                            obtain ⟨e45, y46, rfl, p47⟩ := q43
                            subst H41
                            clear o44
                            rcases p47 with ⟨rfl, c48⟩ | ⟨rfl, c48⟩
                            · refine fz_if_eq (tgt := 39) kX9_isUnder rfl (by decide) (fun c49 => ?_) (fun c49 => ?_)
                              · exfalso; omega
                              · refine fz_iload_n kX9_isUnder rfl rfl ?_
                                refine fz_iload_n kX9_isUnder rfl rfl ?_
                                refine fz_icmp_ne (tgt := 27) kX9_isUnder rfl (by decide) (fun c50 => ?_) (fun c50 => ?_)
                                · refine fz_gets kX9_isUnder rfl ?_
                                  refine fz_iload_n kX9_isUnder rfl rfl ?_
                                  refine fz_taldV (v := (-1)) kX9_isUnder rfl ⟨by decide, by decide⟩ (by omega) (by rw [hI.2.2.2.2]; decide) (by rw [hI.2.2.2.2]; rfl) ?_
                                  refine fz_istore_n (ls' := [(3, fz_i (-1)), (4, fz_i (((0 + 1) + 1) + 1)), (0, fz_r 44), (1, fz_i 5), (2, fz_i tp)]) kX9_isUnder rfl (by decide) rfl ?_
                                  refine fz_iincN (ls' := [(4, fz_i ((((0 + 1) + 1) + 1) + 1)), (3, fz_i (-1)), (0, fz_r 44), (1, fz_i 5), (2, fz_i tp)]) kX9_isUnder rfl (by decide) rfl (by omega) rfl ?_
                                  refine fz_goto (tgt := 5) kX9_isUnder rfl (by decide) ?_
                                  refine fz_iload kX9_isUnder rfl rfl ?_
                                  refine fz_bipush ⟨by decide, by decide⟩ kX9_isUnder rfl ?_
                                  refine fz_icmp_ge (tgt := 39) kX9_isUnder rfl (by decide) (fun c53 => ?_) (fun c53 => ?_)
                                  · exfalso; omega
                                  · refine fz_aload_n kX9_isUnder rfl rfl ?_
                                    refine fz_iload_n kX9_isUnder rfl rfl ?_
                                    refine fz_callV (d' := 0) (M' := mX9_isKind) (As := [fz_i (-1)]) (st := []) kX9_isUnder rfl rfl vX9_isKind rfl rfl rfl rfl (Nat.le_of_ble_eq_true rfl) (Nat.le_of_ble_eq_true rfl) (by decide) (sX9_isKind h hI (-1) ) (fun H54 r55 q56 o57 => ?_)
                                    obtain ⟨e58, y59, rfl, p60⟩ := q56
                                    subst H54
                                    clear o57
                                    rcases p60 with ⟨rfl, c61⟩ | ⟨rfl, c61⟩
                                    · refine fz_if_eq (tgt := 39) kX9_isUnder rfl (by decide) (fun c62 => ?_) (fun c62 => ?_)
                                      · exfalso; omega
                                      · refine fz_iload_n kX9_isUnder rfl rfl ?_
                                        refine fz_iload_n kX9_isUnder rfl rfl ?_
                                        refine fz_icmp_ne (tgt := 27) kX9_isUnder rfl (by decide) (fun c63 => ?_) (fun c63 => ?_)
                                        · refine fz_gets kX9_isUnder rfl ?_
                                          refine fz_iload_n kX9_isUnder rfl rfl ?_
                                          obtain ⟨z64, e65⟩ : ∃ z, h 204 ((-1)).toNat = z := ⟨_, rfl⟩
                                          refine fz_taldV (v := z64) kX9_isUnder rfl ⟨by decide, by decide⟩ (by omega) (by rw [show h 204 100000 = 8 by rw [hI.2.2.2.2]; rfl]; omega) e65 ?_
                                          have t66 := fz_tb204 (h := h) hI.2.2.2.2 (show 0 ≤ (-1) ∧ (-1) < 8 by omega)
                                          rw [e65] at t66
                                          refine fz_istore_n (ls' := [(3, fz_i z64), (4, fz_i ((((0 + 1) + 1) + 1) + 1)), (0, fz_r 44), (1, fz_i 5), (2, fz_i tp)]) kX9_isUnder rfl (by decide) rfl ?_
                                          refine fz_iincN (ls' := [(4, fz_i (((((0 + 1) + 1) + 1) + 1) + 1)), (3, fz_i z64), (0, fz_r 44), (1, fz_i 5), (2, fz_i tp)]) kX9_isUnder rfl (by decide) rfl (by omega) rfl ?_
                                          refine fz_goto (tgt := 5) kX9_isUnder rfl (by decide) ?_
                                          refine fz_iload kX9_isUnder rfl rfl ?_
                                          refine fz_bipush ⟨by decide, by decide⟩ kX9_isUnder rfl ?_
                                          refine fz_icmp_ge (tgt := 39) kX9_isUnder rfl (by decide) (fun c67 => ?_) (fun c67 => ?_)
                                          · exfalso; omega
                                          · refine fz_aload_n kX9_isUnder rfl rfl ?_
                                            refine fz_iload_n kX9_isUnder rfl rfl ?_
                                            refine fz_callV (d' := 0) (M' := mX9_isKind) (As := [fz_i z64]) (st := []) kX9_isUnder rfl rfl vX9_isKind rfl rfl rfl rfl (Nat.le_of_ble_eq_true rfl) (Nat.le_of_ble_eq_true rfl) (by decide) (sX9_isKind h hI z64 ) (fun H68 r69 q70 o71 => ?_)
                                            obtain ⟨e72, y73, rfl, p74⟩ := q70
                                            subst H68
                                            clear o71
                                            rcases p74 with ⟨rfl, c75⟩ | ⟨rfl, c75⟩
                                            · refine fz_if_eq (tgt := 39) kX9_isUnder rfl (by decide) (fun c76 => ?_) (fun c76 => ?_)
                                              · exfalso; omega
                                              · refine fz_iload_n kX9_isUnder rfl rfl ?_
                                                refine fz_iload_n kX9_isUnder rfl rfl ?_
                                                refine fz_icmp_ne (tgt := 27) kX9_isUnder rfl (by decide) (fun c77 => ?_) (fun c77 => ?_)
                                                · refine fz_gets kX9_isUnder rfl ?_
                                                  refine fz_iload_n kX9_isUnder rfl rfl ?_
                                                  obtain ⟨z78, e79⟩ : ∃ z, h 204 (z64).toNat = z := ⟨_, rfl⟩
                                                  refine fz_taldV (v := z78) kX9_isUnder rfl ⟨by decide, by decide⟩ (by omega) (by rw [show h 204 100000 = 8 by rw [hI.2.2.2.2]; rfl]; omega) e79 ?_
                                                  have t80 := fz_tb204 (h := h) hI.2.2.2.2 (show 0 ≤ z64 ∧ z64 < 8 by omega)
                                                  rw [e79] at t80
                                                  refine fz_istore_n (ls' := [(3, fz_i z78), (4, fz_i (((((0 + 1) + 1) + 1) + 1) + 1)), (0, fz_r 44), (1, fz_i 5), (2, fz_i tp)]) kX9_isUnder rfl (by decide) rfl ?_
                                                  refine fz_iincN (ls' := [(4, fz_i ((((((0 + 1) + 1) + 1) + 1) + 1) + 1)), (3, fz_i z78), (0, fz_r 44), (1, fz_i 5), (2, fz_i tp)]) kX9_isUnder rfl (by decide) rfl (by omega) rfl ?_
                                                  refine fz_goto (tgt := 5) kX9_isUnder rfl (by decide) ?_
                                                  refine fz_iload kX9_isUnder rfl rfl ?_
                                                  refine fz_bipush ⟨by decide, by decide⟩ kX9_isUnder rfl ?_
                                                  refine fz_icmp_ge (tgt := 39) kX9_isUnder rfl (by decide) (fun c81 => ?_) (fun c81 => ?_)
                                                  · exfalso; omega
                                                  · refine fz_aload_n kX9_isUnder rfl rfl ?_
                                                    refine fz_iload_n kX9_isUnder rfl rfl ?_
                                                    refine fz_callV (d' := 0) (M' := mX9_isKind) (As := [fz_i z78]) (st := []) kX9_isUnder rfl rfl vX9_isKind rfl rfl rfl rfl (Nat.le_of_ble_eq_true rfl) (Nat.le_of_ble_eq_true rfl) (by decide) (sX9_isKind h hI z78 ) (fun H82 r83 q84 o85 => ?_)
                                                    obtain ⟨e86, y87, rfl, p88⟩ := q84
                                                    subst H82
                                                    clear o85
                                                    rcases p88 with ⟨rfl, c89⟩ | ⟨rfl, c89⟩
                                                    · refine fz_if_eq (tgt := 39) kX9_isUnder rfl (by decide) (fun c90 => ?_) (fun c90 => ?_)
                                                      · exfalso; omega
                                                      · refine fz_iload_n kX9_isUnder rfl rfl ?_
                                                        refine fz_iload_n kX9_isUnder rfl rfl ?_
                                                        refine fz_icmp_ne (tgt := 27) kX9_isUnder rfl (by decide) (fun c91 => ?_) (fun c91 => ?_)
                                                        · refine fz_gets kX9_isUnder rfl ?_
                                                          refine fz_iload_n kX9_isUnder rfl rfl ?_
                                                          obtain ⟨z92, e93⟩ : ∃ z, h 204 (z78).toNat = z := ⟨_, rfl⟩
                                                          refine fz_taldV (v := z92) kX9_isUnder rfl ⟨by decide, by decide⟩ (by omega) (by rw [show h 204 100000 = 8 by rw [hI.2.2.2.2]; rfl]; omega) e93 ?_
                                                          have t94 := fz_tb204 (h := h) hI.2.2.2.2 (show 0 ≤ z78 ∧ z78 < 8 by omega)
                                                          rw [e93] at t94
                                                          refine fz_istore_n (ls' := [(3, fz_i z92), (4, fz_i ((((((0 + 1) + 1) + 1) + 1) + 1) + 1)), (0, fz_r 44), (1, fz_i 5), (2, fz_i tp)]) kX9_isUnder rfl (by decide) rfl ?_
                                                          refine fz_iincN (ls' := [(4, fz_i (((((((0 + 1) + 1) + 1) + 1) + 1) + 1) + 1)), (3, fz_i z92), (0, fz_r 44), (1, fz_i 5), (2, fz_i tp)]) kX9_isUnder rfl (by decide) rfl (by omega) rfl ?_
                                                          refine fz_goto (tgt := 5) kX9_isUnder rfl (by decide) ?_
                                                          refine fz_iload kX9_isUnder rfl rfl ?_
                                                          refine fz_bipush ⟨by decide, by decide⟩ kX9_isUnder rfl ?_
                                                          refine fz_icmp_ge (tgt := 39) kX9_isUnder rfl (by decide) (fun c95 => ?_) (fun c95 => ?_)
                                                          · exfalso; omega
                                                          · refine fz_aload_n kX9_isUnder rfl rfl ?_
                                                            refine fz_iload_n kX9_isUnder rfl rfl ?_
                                                            refine fz_callV (d' := 0) (M' := mX9_isKind) (As := [fz_i z92]) (st := []) kX9_isUnder rfl rfl vX9_isKind rfl rfl rfl rfl (Nat.le_of_ble_eq_true rfl) (Nat.le_of_ble_eq_true rfl) (by decide) (sX9_isKind h hI z92 ) (fun H96 r97 q98 o99 => ?_)
                                                            obtain ⟨e100, y101, rfl, p102⟩ := q98
                                                            subst H96
                                                            clear o99
                                                            rcases p102 with ⟨rfl, c103⟩ | ⟨rfl, c103⟩
                                                            · refine fz_if_eq (tgt := 39) kX9_isUnder rfl (by decide) (fun c104 => ?_) (fun c104 => ?_)
                                                              · exfalso; omega
                                                              · refine fz_iload_n kX9_isUnder rfl rfl ?_
                                                                refine fz_iload_n kX9_isUnder rfl rfl ?_
                                                                refine fz_icmp_ne (tgt := 27) kX9_isUnder rfl (by decide) (fun c105 => ?_) (fun c105 => ?_)
                                                                · refine fz_gets kX9_isUnder rfl ?_
                                                                  refine fz_iload_n kX9_isUnder rfl rfl ?_
                                                                  obtain ⟨z106, e107⟩ : ∃ z, h 204 (z92).toNat = z := ⟨_, rfl⟩
                                                                  refine fz_taldV (v := z106) kX9_isUnder rfl ⟨by decide, by decide⟩ (by omega) (by rw [show h 204 100000 = 8 by rw [hI.2.2.2.2]; rfl]; omega) e107 ?_
                                                                  have t108 := fz_tb204 (h := h) hI.2.2.2.2 (show 0 ≤ z92 ∧ z92 < 8 by omega)
                                                                  rw [e107] at t108
                                                                  refine fz_istore_n (ls' := [(3, fz_i z106), (4, fz_i (((((((0 + 1) + 1) + 1) + 1) + 1) + 1) + 1)), (0, fz_r 44), (1, fz_i 5), (2, fz_i tp)]) kX9_isUnder rfl (by decide) rfl ?_
                                                                  refine fz_iincN (ls' := [(4, fz_i ((((((((0 + 1) + 1) + 1) + 1) + 1) + 1) + 1) + 1)), (3, fz_i z106), (0, fz_r 44), (1, fz_i 5), (2, fz_i tp)]) kX9_isUnder rfl (by decide) rfl (by omega) rfl ?_
                                                                  refine fz_goto (tgt := 5) kX9_isUnder rfl (by decide) ?_
                                                                  refine fz_iload kX9_isUnder rfl rfl ?_
                                                                  refine fz_bipush ⟨by decide, by decide⟩ kX9_isUnder rfl ?_
                                                                  refine fz_icmp_ge (tgt := 39) kX9_isUnder rfl (by decide) (fun c109 => ?_) (fun c109 => ?_)
                                                                  · refine fz_iconst ⟨by decide, by decide⟩ kX9_isUnder rfl ?_
                                                                    exact fz_zret kX9_isUnder rfl rfl (by omega) ⟨rfl, _, rfl, Or.inr ⟨rfl, by omega⟩⟩
                                                                  · exfalso; omega
                                                                · refine fz_iconst ⟨by decide, by decide⟩ kX9_isUnder rfl ?_
                                                                  exact fz_zret kX9_isUnder rfl rfl (by omega) ⟨rfl, _, rfl, Or.inl ⟨rfl, by omega⟩⟩
                                                            · refine fz_if_eq (tgt := 39) kX9_isUnder rfl (by decide) (fun c110 => ?_) (fun c110 => ?_)
                                                              · refine fz_iconst ⟨by decide, by decide⟩ kX9_isUnder rfl ?_
                                                                exact fz_zret kX9_isUnder rfl rfl (by omega) ⟨rfl, _, rfl, Or.inr ⟨rfl, by omega⟩⟩
                                                              · exfalso; omega
                                                        · refine fz_iconst ⟨by decide, by decide⟩ kX9_isUnder rfl ?_
                                                          exact fz_zret kX9_isUnder rfl rfl (by omega) ⟨rfl, _, rfl, Or.inl ⟨rfl, by omega⟩⟩
                                                    · refine fz_if_eq (tgt := 39) kX9_isUnder rfl (by decide) (fun c111 => ?_) (fun c111 => ?_)
                                                      · refine fz_iconst ⟨by decide, by decide⟩ kX9_isUnder rfl ?_
                                                        exact fz_zret kX9_isUnder rfl rfl (by omega) ⟨rfl, _, rfl, Or.inr ⟨rfl, by omega⟩⟩
                                                      · exfalso; omega
                                                · refine fz_iconst ⟨by decide, by decide⟩ kX9_isUnder rfl ?_
                                                  exact fz_zret kX9_isUnder rfl rfl (by omega) ⟨rfl, _, rfl, Or.inl ⟨rfl, by omega⟩⟩
                                            · refine fz_if_eq (tgt := 39) kX9_isUnder rfl (by decide) (fun c112 => ?_) (fun c112 => ?_)
                                              · refine fz_iconst ⟨by decide, by decide⟩ kX9_isUnder rfl ?_
                                                exact fz_zret kX9_isUnder rfl rfl (by omega) ⟨rfl, _, rfl, Or.inr ⟨rfl, by omega⟩⟩
                                              · exfalso; omega
                                        · refine fz_iconst ⟨by decide, by decide⟩ kX9_isUnder rfl ?_
                                          exact fz_zret kX9_isUnder rfl rfl (by omega) ⟨rfl, _, rfl, Or.inl ⟨rfl, by omega⟩⟩
                                    · refine fz_if_eq (tgt := 39) kX9_isUnder rfl (by decide) (fun c113 => ?_) (fun c113 => ?_)
                                      · refine fz_iconst ⟨by decide, by decide⟩ kX9_isUnder rfl ?_
                                        exact fz_zret kX9_isUnder rfl rfl (by omega) ⟨rfl, _, rfl, Or.inr ⟨rfl, by omega⟩⟩
                                      · exfalso; omega
                                · refine fz_iconst ⟨by decide, by decide⟩ kX9_isUnder rfl ?_
                                  exact fz_zret kX9_isUnder rfl rfl (by omega) ⟨rfl, _, rfl, Or.inl ⟨rfl, by omega⟩⟩
                            · refine fz_if_eq (tgt := 39) kX9_isUnder rfl (by decide) (fun c114 => ?_) (fun c114 => ?_)
                              · refine fz_iconst ⟨by decide, by decide⟩ kX9_isUnder rfl ?_
                                exact fz_zret kX9_isUnder rfl rfl (by omega) ⟨rfl, _, rfl, Or.inr ⟨rfl, by omega⟩⟩
                              · exfalso; omega
                        · refine fz_iconst ⟨by decide, by decide⟩ kX9_isUnder rfl ?_
                          exact fz_zret kX9_isUnder rfl rfl (by omega) ⟨rfl, _, rfl, Or.inl ⟨rfl, by omega⟩⟩
                    · refine fz_if_eq (tgt := 39) kX9_isUnder rfl (by decide) (fun c115 => ?_) (fun c115 => ?_)
                      · refine fz_iconst ⟨by decide, by decide⟩ kX9_isUnder rfl ?_
                        exact fz_zret kX9_isUnder rfl rfl (by omega) ⟨rfl, _, rfl, Or.inr ⟨rfl, by omega⟩⟩
                      · exfalso; omega
                · refine fz_iconst ⟨by decide, by decide⟩ kX9_isUnder rfl ?_
                  exact fz_zret kX9_isUnder rfl rfl (by omega) ⟨rfl, _, rfl, Or.inl ⟨rfl, by omega⟩⟩
            · refine fz_if_eq (tgt := 39) kX9_isUnder rfl (by decide) (fun c116 => ?_) (fun c116 => ?_)
              · refine fz_iconst ⟨by decide, by decide⟩ kX9_isUnder rfl ?_
                exact fz_zret kX9_isUnder rfl rfl (by omega) ⟨rfl, _, rfl, Or.inr ⟨rfl, by omega⟩⟩
              · exfalso; omega
        · refine fz_iconst ⟨by decide, by decide⟩ kX9_isUnder rfl ?_
          exact fz_zret kX9_isUnder rfl rfl (by omega) ⟨rfl, _, rfl, Or.inl ⟨rfl, by omega⟩⟩
    · refine fz_if_eq (tgt := 39) kX9_isUnder rfl (by decide) (fun c117 => ?_) (fun c117 => ?_)
      · refine fz_iconst ⟨by decide, by decide⟩ kX9_isUnder rfl ?_
        exact fz_zret kX9_isUnder rfl rfl (by omega) ⟨rfl, _, rfl, Or.inr ⟨rfl, by omega⟩⟩
      · exfalso; omega

abbrev qX9_isUnder_6 (h : fz_H) (tp : Int) : fz_H → Option fz_V → Prop := fun h' r0 => h' = h ∧ ∃ r : Int, r0 = some (fz_i r) ∧ ((r = 1 ∧ (tp = 6 ∨ tp = 0)) ∨ (r = 0 ∧ ¬ (tp = 6 ∨ tp = 0)))
set_option maxHeartbeats 1000000 in
set_option maxRecDepth 100000 in
theorem sX9_isUnder_6 (h : fz_H) (hI : fz_Iv h) (tp : Int) : fz_R 1 mX9_isUnder 0 [(0, fz_r 44), (1, fz_i 6), (2, fz_i tp)] [] h (qX9_isUnder_6 h tp) := by
  refine fz_knowl (fun hk => ?_)
  have hr_tp : -2147483648 ≤ tp ∧ tp < 2147483648 := hk _ (List.Mem.tail _ (List.Mem.tail _ (List.Mem.head _)))
  clear hk
  refine fz_iload_n kX9_isUnder rfl rfl ?_
  refine fz_istore_n (ls' := [(3, fz_i 6), (0, fz_r 44), (1, fz_i 6), (2, fz_i tp)]) kX9_isUnder rfl (by decide) rfl ?_
  refine fz_iconst ⟨by decide, by decide⟩ kX9_isUnder rfl ?_
  refine fz_istore (ls' := [(4, fz_i 0), (3, fz_i 6), (0, fz_r 44), (1, fz_i 6), (2, fz_i tp)]) kX9_isUnder rfl (by decide) rfl ?_
  refine fz_iload kX9_isUnder rfl rfl ?_
  refine fz_bipush ⟨by decide, by decide⟩ kX9_isUnder rfl ?_
  refine fz_icmp_ge (tgt := 39) kX9_isUnder rfl (by decide) (fun c1 => ?_) (fun c1 => ?_)
  · exfalso; omega
  · refine fz_aload_n kX9_isUnder rfl rfl ?_
    refine fz_iload_n kX9_isUnder rfl rfl ?_
    refine fz_callV (d' := 0) (M' := mX9_isKind) (As := [fz_i 6]) (st := []) kX9_isUnder rfl rfl vX9_isKind rfl rfl rfl rfl (Nat.le_of_ble_eq_true rfl) (Nat.le_of_ble_eq_true rfl) (by decide) (sX9_isKind h hI 6 ) (fun H2 r3 q4 o5 => ?_)
    obtain ⟨e6, y7, rfl, p8⟩ := q4
    subst H2
    clear o5
    rcases p8 with ⟨rfl, c9⟩ | ⟨rfl, c9⟩
    · refine fz_if_eq (tgt := 39) kX9_isUnder rfl (by decide) (fun c10 => ?_) (fun c10 => ?_)
      · exfalso; omega
      · refine fz_iload_n kX9_isUnder rfl rfl ?_
        refine fz_iload_n kX9_isUnder rfl rfl ?_
        refine fz_icmp_ne (tgt := 27) kX9_isUnder rfl (by decide) (fun c11 => ?_) (fun c11 => ?_)
        · refine fz_gets kX9_isUnder rfl ?_
          refine fz_iload_n kX9_isUnder rfl rfl ?_
          refine fz_taldV (v := 0) kX9_isUnder rfl ⟨by decide, by decide⟩ (by omega) (by rw [hI.2.2.2.2]; decide) (by rw [hI.2.2.2.2]; rfl) ?_
          refine fz_istore_n (ls' := [(3, fz_i 0), (4, fz_i 0), (0, fz_r 44), (1, fz_i 6), (2, fz_i tp)]) kX9_isUnder rfl (by decide) rfl ?_
          refine fz_iincN (ls' := [(4, fz_i (0 + 1)), (3, fz_i 0), (0, fz_r 44), (1, fz_i 6), (2, fz_i tp)]) kX9_isUnder rfl (by decide) rfl (by omega) rfl ?_
          refine fz_goto (tgt := 5) kX9_isUnder rfl (by decide) ?_
          refine fz_iload kX9_isUnder rfl rfl ?_
          refine fz_bipush ⟨by decide, by decide⟩ kX9_isUnder rfl ?_
          refine fz_icmp_ge (tgt := 39) kX9_isUnder rfl (by decide) (fun c14 => ?_) (fun c14 => ?_)
          · exfalso; omega
          · refine fz_aload_n kX9_isUnder rfl rfl ?_
            refine fz_iload_n kX9_isUnder rfl rfl ?_
            refine fz_callV (d' := 0) (M' := mX9_isKind) (As := [fz_i 0]) (st := []) kX9_isUnder rfl rfl vX9_isKind rfl rfl rfl rfl (Nat.le_of_ble_eq_true rfl) (Nat.le_of_ble_eq_true rfl) (by decide) (sX9_isKind h hI 0 ) (fun H15 r16 q17 o18 => ?_)
            obtain ⟨e19, y20, rfl, p21⟩ := q17
            subst H15
            clear o18
            rcases p21 with ⟨rfl, c22⟩ | ⟨rfl, c22⟩
            · refine fz_if_eq (tgt := 39) kX9_isUnder rfl (by decide) (fun c23 => ?_) (fun c23 => ?_)
              · exfalso; omega
              · refine fz_iload_n kX9_isUnder rfl rfl ?_
                refine fz_iload_n kX9_isUnder rfl rfl ?_
                refine fz_icmp_ne (tgt := 27) kX9_isUnder rfl (by decide) (fun c24 => ?_) (fun c24 => ?_)
                · refine fz_gets kX9_isUnder rfl ?_
                  refine fz_iload_n kX9_isUnder rfl rfl ?_
                  refine fz_taldV (v := (-1)) kX9_isUnder rfl ⟨by decide, by decide⟩ (by omega) (by rw [hI.2.2.2.2]; decide) (by rw [hI.2.2.2.2]; rfl) ?_
                  refine fz_istore_n (ls' := [(3, fz_i (-1)), (4, fz_i (0 + 1)), (0, fz_r 44), (1, fz_i 6), (2, fz_i tp)]) kX9_isUnder rfl (by decide) rfl ?_
                  refine fz_iincN (ls' := [(4, fz_i ((0 + 1) + 1)), (3, fz_i (-1)), (0, fz_r 44), (1, fz_i 6), (2, fz_i tp)]) kX9_isUnder rfl (by decide) rfl (by omega) rfl ?_
                  refine fz_goto (tgt := 5) kX9_isUnder rfl (by decide) ?_
                  refine fz_iload kX9_isUnder rfl rfl ?_
                  refine fz_bipush ⟨by decide, by decide⟩ kX9_isUnder rfl ?_
                  refine fz_icmp_ge (tgt := 39) kX9_isUnder rfl (by decide) (fun c27 => ?_) (fun c27 => ?_)
                  · exfalso; omega
                  · refine fz_aload_n kX9_isUnder rfl rfl ?_
                    refine fz_iload_n kX9_isUnder rfl rfl ?_
                    refine fz_callV (d' := 0) (M' := mX9_isKind) (As := [fz_i (-1)]) (st := []) kX9_isUnder rfl rfl vX9_isKind rfl rfl rfl rfl (Nat.le_of_ble_eq_true rfl) (Nat.le_of_ble_eq_true rfl) (by decide) (sX9_isKind h hI (-1) ) (fun H28 r29 q30 o31 => ?_)
                    obtain ⟨e32, y33, rfl, p34⟩ := q30
                    subst H28
                    clear o31
                    rcases p34 with ⟨rfl, c35⟩ | ⟨rfl, c35⟩
                    · refine fz_if_eq (tgt := 39) kX9_isUnder rfl (by decide) (fun c36 => ?_) (fun c36 => ?_)
                      · exfalso; omega
                      · refine fz_iload_n kX9_isUnder rfl rfl ?_
                        refine fz_iload_n kX9_isUnder rfl rfl ?_
                        refine fz_icmp_ne (tgt := 27) kX9_isUnder rfl (by decide) (fun c37 => ?_) (fun c37 => ?_)
                        · refine fz_gets kX9_isUnder rfl ?_
                          refine fz_iload_n kX9_isUnder rfl rfl ?_
                          obtain ⟨z38, e39⟩ : ∃ z, h 204 ((-1)).toNat = z := ⟨_, rfl⟩
                          refine fz_taldV (v := z38) kX9_isUnder rfl ⟨by decide, by decide⟩ (by omega) (by rw [show h 204 100000 = 8 by rw [hI.2.2.2.2]; rfl]; omega) e39 ?_
                          have t40 := fz_tb204 (h := h) hI.2.2.2.2 (show 0 ≤ (-1) ∧ (-1) < 8 by omega)
                          rw [e39] at t40
                          refine fz_istore_n (ls' := [(3, fz_i z38), (4, fz_i ((0 + 1) + 1)), (0, fz_r 44), (1, fz_i 6), (2, fz_i tp)]) kX9_isUnder rfl (by decide) rfl ?_
                          refine fz_iincN (ls' := [(4, fz_i (((0 + 1) + 1) + 1)), (3, fz_i z38), (0, fz_r 44), (1, fz_i 6), (2, fz_i tp)]) kX9_isUnder rfl (by decide) rfl (by omega) rfl ?_
                          refine fz_goto (tgt := 5) kX9_isUnder rfl (by decide) ?_
                          refine fz_iload kX9_isUnder rfl rfl ?_
                          refine fz_bipush ⟨by decide, by decide⟩ kX9_isUnder rfl ?_
                          refine fz_icmp_ge (tgt := 39) kX9_isUnder rfl (by decide) (fun c41 => ?_) (fun c41 => ?_)
                          · exfalso; omega
                          · refine fz_aload_n kX9_isUnder rfl rfl ?_
                            refine fz_iload_n kX9_isUnder rfl rfl ?_
                            refine fz_callV (d' := 0) (M' := mX9_isKind) (As := [fz_i z38]) (st := []) kX9_isUnder rfl rfl vX9_isKind rfl rfl rfl rfl (Nat.le_of_ble_eq_true rfl) (Nat.le_of_ble_eq_true rfl) (by decide) (sX9_isKind h hI z38 ) (fun H42 r43 q44 o45 => ?_)
                            obtain ⟨e46, y47, rfl, p48⟩ := q44
                            subst H42
                            clear o45
                            rcases p48 with ⟨rfl, c49⟩ | ⟨rfl, c49⟩
                            · refine fz_if_eq (tgt := 39) kX9_isUnder rfl (by decide) (fun c50 => ?_) (fun c50 => ?_)
                              · exfalso; omega
                              · refine fz_iload_n kX9_isUnder rfl rfl ?_
                                refine fz_iload_n kX9_isUnder rfl rfl ?_
                                refine fz_icmp_ne (tgt := 27) kX9_isUnder rfl (by decide) (fun c51 => ?_) (fun c51 => ?_)
                                · refine fz_gets kX9_isUnder rfl ?_
                                  refine fz_iload_n kX9_isUnder rfl rfl ?_
                                  obtain ⟨z52, e53⟩ : ∃ z, h 204 (z38).toNat = z := ⟨_, rfl⟩
                                  refine fz_taldV (v := z52) kX9_isUnder rfl ⟨by decide, by decide⟩ (by omega) (by rw [show h 204 100000 = 8 by rw [hI.2.2.2.2]; rfl]; omega) e53 ?_
                                  have t54 := fz_tb204 (h := h) hI.2.2.2.2 (show 0 ≤ z38 ∧ z38 < 8 by omega)
                                  rw [e53] at t54
                                  refine fz_istore_n (ls' := [(3, fz_i z52), (4, fz_i (((0 + 1) + 1) + 1)), (0, fz_r 44), (1, fz_i 6), (2, fz_i tp)]) kX9_isUnder rfl (by decide) rfl ?_
                                  refine fz_iincN (ls' := [(4, fz_i ((((0 + 1) + 1) + 1) + 1)), (3, fz_i z52), (0, fz_r 44), (1, fz_i 6), (2, fz_i tp)]) kX9_isUnder rfl (by decide) rfl (by omega) rfl ?_
                                  refine fz_goto (tgt := 5) kX9_isUnder rfl (by decide) ?_
                                  refine fz_iload kX9_isUnder rfl rfl ?_
                                  refine fz_bipush ⟨by decide, by decide⟩ kX9_isUnder rfl ?_
                                  refine fz_icmp_ge (tgt := 39) kX9_isUnder rfl (by decide) (fun c55 => ?_) (fun c55 => ?_)
                                  · exfalso; omega
                                  · refine fz_aload_n kX9_isUnder rfl rfl ?_
                                    refine fz_iload_n kX9_isUnder rfl rfl ?_
                                    refine fz_callV (d' := 0) (M' := mX9_isKind) (As := [fz_i z52]) (st := []) kX9_isUnder rfl rfl vX9_isKind rfl rfl rfl rfl (Nat.le_of_ble_eq_true rfl) (Nat.le_of_ble_eq_true rfl) (by decide) (sX9_isKind h hI z52 ) (fun H56 r57 q58 o59 => ?_)
                                    obtain ⟨e60, y61, rfl, p62⟩ := q58
                                    subst H56
                                    clear o59
                                    rcases p62 with ⟨rfl, c63⟩ | ⟨rfl, c63⟩
                                    · refine fz_if_eq (tgt := 39) kX9_isUnder rfl (by decide) (fun c64 => ?_) (fun c64 => ?_)
                                      · exfalso; omega
                                      · refine fz_iload_n kX9_isUnder rfl rfl ?_
                                        refine fz_iload_n kX9_isUnder rfl rfl ?_
                                        refine fz_icmp_ne (tgt := 27) kX9_isUnder rfl (by decide) (fun c65 => ?_) (fun c65 => ?_)
                                        · refine fz_gets kX9_isUnder rfl ?_
                                          refine fz_iload_n kX9_isUnder rfl rfl ?_
                                          obtain ⟨z66, e67⟩ : ∃ z, h 204 (z52).toNat = z := ⟨_, rfl⟩
                                          refine fz_taldV (v := z66) kX9_isUnder rfl ⟨by decide, by decide⟩ (by omega) (by rw [show h 204 100000 = 8 by rw [hI.2.2.2.2]; rfl]; omega) e67 ?_
                                          have t68 := fz_tb204 (h := h) hI.2.2.2.2 (show 0 ≤ z52 ∧ z52 < 8 by omega)
                                          rw [e67] at t68
                                          refine fz_istore_n (ls' := [(3, fz_i z66), (4, fz_i ((((0 + 1) + 1) + 1) + 1)), (0, fz_r 44), (1, fz_i 6), (2, fz_i tp)]) kX9_isUnder rfl (by decide) rfl ?_
                                          refine fz_iincN (ls' := [(4, fz_i (((((0 + 1) + 1) + 1) + 1) + 1)), (3, fz_i z66), (0, fz_r 44), (1, fz_i 6), (2, fz_i tp)]) kX9_isUnder rfl (by decide) rfl (by omega) rfl ?_
                                          refine fz_goto (tgt := 5) kX9_isUnder rfl (by decide) ?_
                                          refine fz_iload kX9_isUnder rfl rfl ?_
                                          refine fz_bipush ⟨by decide, by decide⟩ kX9_isUnder rfl ?_
                                          refine fz_icmp_ge (tgt := 39) kX9_isUnder rfl (by decide) (fun c69 => ?_) (fun c69 => ?_)
                                          · exfalso; omega
                                          · refine fz_aload_n kX9_isUnder rfl rfl ?_
                                            refine fz_iload_n kX9_isUnder rfl rfl ?_
                                            refine fz_callV (d' := 0) (M' := mX9_isKind) (As := [fz_i z66]) (st := []) kX9_isUnder rfl rfl vX9_isKind rfl rfl rfl rfl (Nat.le_of_ble_eq_true rfl) (Nat.le_of_ble_eq_true rfl) (by decide) (sX9_isKind h hI z66 ) (fun H70 r71 q72 o73 => ?_)
                                            obtain ⟨e74, y75, rfl, p76⟩ := q72
                                            subst H70
                                            clear o73
                                            rcases p76 with ⟨rfl, c77⟩ | ⟨rfl, c77⟩
                                            · refine fz_if_eq (tgt := 39) kX9_isUnder rfl (by decide) (fun c78 => ?_) (fun c78 => ?_)
                                              · exfalso; omega
                                              · refine fz_iload_n kX9_isUnder rfl rfl ?_
                                                refine fz_iload_n kX9_isUnder rfl rfl ?_
                                                refine fz_icmp_ne (tgt := 27) kX9_isUnder rfl (by decide) (fun c79 => ?_) (fun c79 => ?_)
                                                · refine fz_gets kX9_isUnder rfl ?_
                                                  refine fz_iload_n kX9_isUnder rfl rfl ?_
                                                  obtain ⟨z80, e81⟩ : ∃ z, h 204 (z66).toNat = z := ⟨_, rfl⟩
                                                  refine fz_taldV (v := z80) kX9_isUnder rfl ⟨by decide, by decide⟩ (by omega) (by rw [show h 204 100000 = 8 by rw [hI.2.2.2.2]; rfl]; omega) e81 ?_
                                                  have t82 := fz_tb204 (h := h) hI.2.2.2.2 (show 0 ≤ z66 ∧ z66 < 8 by omega)
                                                  rw [e81] at t82
                                                  refine fz_istore_n (ls' := [(3, fz_i z80), (4, fz_i (((((0 + 1) + 1) + 1) + 1) + 1)), (0, fz_r 44), (1, fz_i 6), (2, fz_i tp)]) kX9_isUnder rfl (by decide) rfl ?_
                                                  refine fz_iincN (ls' := [(4, fz_i ((((((0 + 1) + 1) + 1) + 1) + 1) + 1)), (3, fz_i z80), (0, fz_r 44), (1, fz_i 6), (2, fz_i tp)]) kX9_isUnder rfl (by decide) rfl (by omega) rfl ?_
                                                  refine fz_goto (tgt := 5) kX9_isUnder rfl (by decide) ?_
                                                  refine fz_iload kX9_isUnder rfl rfl ?_
                                                  refine fz_bipush ⟨by decide, by decide⟩ kX9_isUnder rfl ?_
                                                  refine fz_icmp_ge (tgt := 39) kX9_isUnder rfl (by decide) (fun c83 => ?_) (fun c83 => ?_)
                                                  · exfalso; omega
                                                  · refine fz_aload_n kX9_isUnder rfl rfl ?_
                                                    refine fz_iload_n kX9_isUnder rfl rfl ?_
                                                    refine fz_callV (d' := 0) (M' := mX9_isKind) (As := [fz_i z80]) (st := []) kX9_isUnder rfl rfl vX9_isKind rfl rfl rfl rfl (Nat.le_of_ble_eq_true rfl) (Nat.le_of_ble_eq_true rfl) (by decide) (sX9_isKind h hI z80 ) (fun H84 r85 q86 o87 => ?_)
                                                    obtain ⟨e88, y89, rfl, p90⟩ := q86
                                                    subst H84
                                                    clear o87
                                                    rcases p90 with ⟨rfl, c91⟩ | ⟨rfl, c91⟩
                                                    · refine fz_if_eq (tgt := 39) kX9_isUnder rfl (by decide) (fun c92 => ?_) (fun c92 => ?_)
                                                      · exfalso; omega
                                                      · refine fz_iload_n kX9_isUnder rfl rfl ?_
                                                        refine fz_iload_n kX9_isUnder rfl rfl ?_
                                                        refine fz_icmp_ne (tgt := 27) kX9_isUnder rfl (by decide) (fun c93 => ?_) (fun c93 => ?_)
                                                        · refine fz_gets kX9_isUnder rfl ?_
                                                          refine fz_iload_n kX9_isUnder rfl rfl ?_
                                                          obtain ⟨z94, e95⟩ : ∃ z, h 204 (z80).toNat = z := ⟨_, rfl⟩
                                                          refine fz_taldV (v := z94) kX9_isUnder rfl ⟨by decide, by decide⟩ (by omega) (by rw [show h 204 100000 = 8 by rw [hI.2.2.2.2]; rfl]; omega) e95 ?_
                                                          have t96 := fz_tb204 (h := h) hI.2.2.2.2 (show 0 ≤ z80 ∧ z80 < 8 by omega)
                                                          rw [e95] at t96
                                                          refine fz_istore_n (ls' := [(3, fz_i z94), (4, fz_i ((((((0 + 1) + 1) + 1) + 1) + 1) + 1)), (0, fz_r 44), (1, fz_i 6), (2, fz_i tp)]) kX9_isUnder rfl (by decide) rfl ?_
                                                          refine fz_iincN (ls' := [(4, fz_i (((((((0 + 1) + 1) + 1) + 1) + 1) + 1) + 1)), (3, fz_i z94), (0, fz_r 44), (1, fz_i 6), (2, fz_i tp)]) kX9_isUnder rfl (by decide) rfl (by omega) rfl ?_
                                                          refine fz_goto (tgt := 5) kX9_isUnder rfl (by decide) ?_
                                                          refine fz_iload kX9_isUnder rfl rfl ?_
                                                          refine fz_bipush ⟨by decide, by decide⟩ kX9_isUnder rfl ?_
                                                          refine fz_icmp_ge (tgt := 39) kX9_isUnder rfl (by decide) (fun c97 => ?_) (fun c97 => ?_)
                                                          · exfalso; omega
                                                          · refine fz_aload_n kX9_isUnder rfl rfl ?_
                                                            refine fz_iload_n kX9_isUnder rfl rfl ?_
                                                            refine fz_callV (d' := 0) (M' := mX9_isKind) (As := [fz_i z94]) (st := []) kX9_isUnder rfl rfl vX9_isKind rfl rfl rfl rfl (Nat.le_of_ble_eq_true rfl) (Nat.le_of_ble_eq_true rfl) (by decide) (sX9_isKind h hI z94 ) (fun H98 r99 q100 o101 => ?_)
                                                            obtain ⟨e102, y103, rfl, p104⟩ := q100
                                                            subst H98
                                                            clear o101
                                                            rcases p104 with ⟨rfl, c105⟩ | ⟨rfl, c105⟩
                                                            · refine fz_if_eq (tgt := 39) kX9_isUnder rfl (by decide) (fun c106 => ?_) (fun c106 => ?_)
                                                              · exfalso; omega
                                                              · refine fz_iload_n kX9_isUnder rfl rfl ?_
                                                                refine fz_iload_n kX9_isUnder rfl rfl ?_
                                                                refine fz_icmp_ne (tgt := 27) kX9_isUnder rfl (by decide) (fun c107 => ?_) (fun c107 => ?_)
                                                                · refine fz_gets kX9_isUnder rfl ?_
                                                                  refine fz_iload_n kX9_isUnder rfl rfl ?_
                                                                  obtain ⟨z108, e109⟩ : ∃ z, h 204 (z94).toNat = z := ⟨_, rfl⟩
                                                                  refine fz_taldV (v := z108) kX9_isUnder rfl ⟨by decide, by decide⟩ (by omega) (by rw [show h 204 100000 = 8 by rw [hI.2.2.2.2]; rfl]; omega) e109 ?_
                                                                  have t110 := fz_tb204 (h := h) hI.2.2.2.2 (show 0 ≤ z94 ∧ z94 < 8 by omega)
                                                                  rw [e109] at t110
                                                                  refine fz_istore_n (ls' := [(3, fz_i z108), (4, fz_i (((((((0 + 1) + 1) + 1) + 1) + 1) + 1) + 1)), (0, fz_r 44), (1, fz_i 6), (2, fz_i tp)]) kX9_isUnder rfl (by decide) rfl ?_
                                                                  refine fz_iincN (ls' := [(4, fz_i ((((((((0 + 1) + 1) + 1) + 1) + 1) + 1) + 1) + 1)), (3, fz_i z108), (0, fz_r 44), (1, fz_i 6), (2, fz_i tp)]) kX9_isUnder rfl (by decide) rfl (by omega) rfl ?_
                                                                  refine fz_goto (tgt := 5) kX9_isUnder rfl (by decide) ?_
                                                                  refine fz_iload kX9_isUnder rfl rfl ?_
                                                                  refine fz_bipush ⟨by decide, by decide⟩ kX9_isUnder rfl ?_
                                                                  refine fz_icmp_ge (tgt := 39) kX9_isUnder rfl (by decide) (fun c111 => ?_) (fun c111 => ?_)
                                                                  · refine fz_iconst ⟨by decide, by decide⟩ kX9_isUnder rfl ?_
                                                                    exact fz_zret kX9_isUnder rfl rfl (by omega) ⟨rfl, _, rfl, Or.inr ⟨rfl, by omega⟩⟩
                                                                  · exfalso; omega
                                                                · refine fz_iconst ⟨by decide, by decide⟩ kX9_isUnder rfl ?_
                                                                  exact fz_zret kX9_isUnder rfl rfl (by omega) ⟨rfl, _, rfl, Or.inl ⟨rfl, by omega⟩⟩
                                                            · refine fz_if_eq (tgt := 39) kX9_isUnder rfl (by decide) (fun c112 => ?_) (fun c112 => ?_)
                                                              · refine fz_iconst ⟨by decide, by decide⟩ kX9_isUnder rfl ?_
                                                                exact fz_zret kX9_isUnder rfl rfl (by omega) ⟨rfl, _, rfl, Or.inr ⟨rfl, by omega⟩⟩
                                                              · exfalso; omega
                                                        · refine fz_iconst ⟨by decide, by decide⟩ kX9_isUnder rfl ?_
                                                          exact fz_zret kX9_isUnder rfl rfl (by omega) ⟨rfl, _, rfl, Or.inl ⟨rfl, by omega⟩⟩
                                                    · refine fz_if_eq (tgt := 39) kX9_isUnder rfl (by decide) (fun c113 => ?_) (fun c113 => ?_)
                                                      · refine fz_iconst ⟨by decide, by decide⟩ kX9_isUnder rfl ?_
                                                        exact fz_zret kX9_isUnder rfl rfl (by omega) ⟨rfl, _, rfl, Or.inr ⟨rfl, by omega⟩⟩
                                                      · exfalso; omega
                                                · refine fz_iconst ⟨by decide, by decide⟩ kX9_isUnder rfl ?_
                                                  exact fz_zret kX9_isUnder rfl rfl (by omega) ⟨rfl, _, rfl, Or.inl ⟨rfl, by omega⟩⟩
                                            · refine fz_if_eq (tgt := 39) kX9_isUnder rfl (by decide) (fun c114 => ?_) (fun c114 => ?_)
                                              · refine fz_iconst ⟨by decide, by decide⟩ kX9_isUnder rfl ?_
                                                exact fz_zret kX9_isUnder rfl rfl (by omega) ⟨rfl, _, rfl, Or.inr ⟨rfl, by omega⟩⟩
                                              · exfalso; omega
                                        · refine fz_iconst ⟨by decide, by decide⟩ kX9_isUnder rfl ?_
                                          exact fz_zret kX9_isUnder rfl rfl (by omega) ⟨rfl, _, rfl, Or.inl ⟨rfl, by omega⟩⟩
                                    · refine fz_if_eq (tgt := 39) kX9_isUnder rfl (by decide) (fun c115 => ?_) (fun c115 => ?_)
                                      · refine fz_iconst ⟨by decide, by decide⟩ kX9_isUnder rfl ?_
                                        exact fz_zret kX9_isUnder rfl rfl (by omega) ⟨rfl, _, rfl, Or.inr ⟨rfl, by omega⟩⟩
                                      · exfalso; omega
                                · refine fz_iconst ⟨by decide, by decide⟩ kX9_isUnder rfl ?_
                                  exact fz_zret kX9_isUnder rfl rfl (by omega) ⟨rfl, _, rfl, Or.inl ⟨rfl, by omega⟩⟩
                            · refine fz_if_eq (tgt := 39) kX9_isUnder rfl (by decide) (fun c116 => ?_) (fun c116 => ?_)
                              · refine fz_iconst ⟨by decide, by decide⟩ kX9_isUnder rfl ?_
                                exact fz_zret kX9_isUnder rfl rfl (by omega) ⟨rfl, _, rfl, Or.inr ⟨rfl, by omega⟩⟩
                              · exfalso; omega
                        · refine fz_iconst ⟨by decide, by decide⟩ kX9_isUnder rfl ?_
                          exact fz_zret kX9_isUnder rfl rfl (by omega) ⟨rfl, _, rfl, Or.inl ⟨rfl, by omega⟩⟩
                    · refine fz_if_eq (tgt := 39) kX9_isUnder rfl (by decide) (fun c117 => ?_) (fun c117 => ?_)
                      · refine fz_iconst ⟨by decide, by decide⟩ kX9_isUnder rfl ?_
                        exact fz_zret kX9_isUnder rfl rfl (by omega) ⟨rfl, _, rfl, Or.inr ⟨rfl, by omega⟩⟩
                      · exfalso; omega
                · refine fz_iconst ⟨by decide, by decide⟩ kX9_isUnder rfl ?_
                  exact fz_zret kX9_isUnder rfl rfl (by omega) ⟨rfl, _, rfl, Or.inl ⟨rfl, by omega⟩⟩
            · refine fz_if_eq (tgt := 39) kX9_isUnder rfl (by decide) (fun c118 => ?_) (fun c118 => ?_)
              · refine fz_iconst ⟨by decide, by decide⟩ kX9_isUnder rfl ?_
                exact fz_zret kX9_isUnder rfl rfl (by omega) ⟨rfl, _, rfl, Or.inr ⟨rfl, by omega⟩⟩
              · exfalso; omega
        · refine fz_iconst ⟨by decide, by decide⟩ kX9_isUnder rfl ?_
          exact fz_zret kX9_isUnder rfl rfl (by omega) ⟨rfl, _, rfl, Or.inl ⟨rfl, by omega⟩⟩
    · refine fz_if_eq (tgt := 39) kX9_isUnder rfl (by decide) (fun c119 => ?_) (fun c119 => ?_)
      · refine fz_iconst ⟨by decide, by decide⟩ kX9_isUnder rfl ?_
        exact fz_zret kX9_isUnder rfl rfl (by omega) ⟨rfl, _, rfl, Or.inr ⟨rfl, by omega⟩⟩
      · exfalso; omega

abbrev qX9_isUnder_7 (h : fz_H) (tp : Int) : fz_H → Option fz_V → Prop := fun h' r0 => h' = h ∧ ∃ r : Int, r0 = some (fz_i r) ∧ ((r = 1 ∧ (tp = 7 ∨ tp = 4 ∨ tp = 1 ∨ tp = 0)) ∨ (r = 0 ∧ ¬ (tp = 7 ∨ tp = 4 ∨ tp = 1 ∨ tp = 0)))
set_option maxHeartbeats 1000000 in
set_option maxRecDepth 100000 in
theorem sX9_isUnder_7 (h : fz_H) (hI : fz_Iv h) (tp : Int) : fz_R 1 mX9_isUnder 0 [(0, fz_r 44), (1, fz_i 7), (2, fz_i tp)] [] h (qX9_isUnder_7 h tp) := by
  refine fz_knowl (fun hk => ?_)
  have hr_tp : -2147483648 ≤ tp ∧ tp < 2147483648 := hk _ (List.Mem.tail _ (List.Mem.tail _ (List.Mem.head _)))
  clear hk
  refine fz_iload_n kX9_isUnder rfl rfl ?_
  refine fz_istore_n (ls' := [(3, fz_i 7), (0, fz_r 44), (1, fz_i 7), (2, fz_i tp)]) kX9_isUnder rfl (by decide) rfl ?_
  refine fz_iconst ⟨by decide, by decide⟩ kX9_isUnder rfl ?_
  refine fz_istore (ls' := [(4, fz_i 0), (3, fz_i 7), (0, fz_r 44), (1, fz_i 7), (2, fz_i tp)]) kX9_isUnder rfl (by decide) rfl ?_
  refine fz_iload kX9_isUnder rfl rfl ?_
  refine fz_bipush ⟨by decide, by decide⟩ kX9_isUnder rfl ?_
  refine fz_icmp_ge (tgt := 39) kX9_isUnder rfl (by decide) (fun c1 => ?_) (fun c1 => ?_)
  · exfalso; omega
  · refine fz_aload_n kX9_isUnder rfl rfl ?_
    refine fz_iload_n kX9_isUnder rfl rfl ?_
    refine fz_callV (d' := 0) (M' := mX9_isKind) (As := [fz_i 7]) (st := []) kX9_isUnder rfl rfl vX9_isKind rfl rfl rfl rfl (Nat.le_of_ble_eq_true rfl) (Nat.le_of_ble_eq_true rfl) (by decide) (sX9_isKind h hI 7 ) (fun H2 r3 q4 o5 => ?_)
    obtain ⟨e6, y7, rfl, p8⟩ := q4
    subst H2
    clear o5
    rcases p8 with ⟨rfl, c9⟩ | ⟨rfl, c9⟩
    · refine fz_if_eq (tgt := 39) kX9_isUnder rfl (by decide) (fun c10 => ?_) (fun c10 => ?_)
      · exfalso; omega
      · refine fz_iload_n kX9_isUnder rfl rfl ?_
        refine fz_iload_n kX9_isUnder rfl rfl ?_
        refine fz_icmp_ne (tgt := 27) kX9_isUnder rfl (by decide) (fun c11 => ?_) (fun c11 => ?_)
        · refine fz_gets kX9_isUnder rfl ?_
          refine fz_iload_n kX9_isUnder rfl rfl ?_
          refine fz_taldV (v := 4) kX9_isUnder rfl ⟨by decide, by decide⟩ (by omega) (by rw [hI.2.2.2.2]; decide) (by rw [hI.2.2.2.2]; rfl) ?_
          refine fz_istore_n (ls' := [(3, fz_i 4), (4, fz_i 0), (0, fz_r 44), (1, fz_i 7), (2, fz_i tp)]) kX9_isUnder rfl (by decide) rfl ?_
          refine fz_iincN (ls' := [(4, fz_i (0 + 1)), (3, fz_i 4), (0, fz_r 44), (1, fz_i 7), (2, fz_i tp)]) kX9_isUnder rfl (by decide) rfl (by omega) rfl ?_
          refine fz_goto (tgt := 5) kX9_isUnder rfl (by decide) ?_
          refine fz_iload kX9_isUnder rfl rfl ?_
          refine fz_bipush ⟨by decide, by decide⟩ kX9_isUnder rfl ?_
          refine fz_icmp_ge (tgt := 39) kX9_isUnder rfl (by decide) (fun c14 => ?_) (fun c14 => ?_)
          · exfalso; omega
          · refine fz_aload_n kX9_isUnder rfl rfl ?_
            refine fz_iload_n kX9_isUnder rfl rfl ?_
            refine fz_callV (d' := 0) (M' := mX9_isKind) (As := [fz_i 4]) (st := []) kX9_isUnder rfl rfl vX9_isKind rfl rfl rfl rfl (Nat.le_of_ble_eq_true rfl) (Nat.le_of_ble_eq_true rfl) (by decide) (sX9_isKind h hI 4 ) (fun H15 r16 q17 o18 => ?_)
            obtain ⟨e19, y20, rfl, p21⟩ := q17
            subst H15
            clear o18
            rcases p21 with ⟨rfl, c22⟩ | ⟨rfl, c22⟩
            · refine fz_if_eq (tgt := 39) kX9_isUnder rfl (by decide) (fun c23 => ?_) (fun c23 => ?_)
              · exfalso; omega
              · refine fz_iload_n kX9_isUnder rfl rfl ?_
                refine fz_iload_n kX9_isUnder rfl rfl ?_
                refine fz_icmp_ne (tgt := 27) kX9_isUnder rfl (by decide) (fun c24 => ?_) (fun c24 => ?_)
                · refine fz_gets kX9_isUnder rfl ?_
                  refine fz_iload_n kX9_isUnder rfl rfl ?_
                  refine fz_taldV (v := 1) kX9_isUnder rfl ⟨by decide, by decide⟩ (by omega) (by rw [hI.2.2.2.2]; decide) (by rw [hI.2.2.2.2]; rfl) ?_
                  refine fz_istore_n (ls' := [(3, fz_i 1), (4, fz_i (0 + 1)), (0, fz_r 44), (1, fz_i 7), (2, fz_i tp)]) kX9_isUnder rfl (by decide) rfl ?_
                  refine fz_iincN (ls' := [(4, fz_i ((0 + 1) + 1)), (3, fz_i 1), (0, fz_r 44), (1, fz_i 7), (2, fz_i tp)]) kX9_isUnder rfl (by decide) rfl (by omega) rfl ?_
                  refine fz_goto (tgt := 5) kX9_isUnder rfl (by decide) ?_
                  refine fz_iload kX9_isUnder rfl rfl ?_
                  refine fz_bipush ⟨by decide, by decide⟩ kX9_isUnder rfl ?_
                  refine fz_icmp_ge (tgt := 39) kX9_isUnder rfl (by decide) (fun c27 => ?_) (fun c27 => ?_)
                  · exfalso; omega
                  · refine fz_aload_n kX9_isUnder rfl rfl ?_
                    refine fz_iload_n kX9_isUnder rfl rfl ?_
                    refine fz_callV (d' := 0) (M' := mX9_isKind) (As := [fz_i 1]) (st := []) kX9_isUnder rfl rfl vX9_isKind rfl rfl rfl rfl (Nat.le_of_ble_eq_true rfl) (Nat.le_of_ble_eq_true rfl) (by decide) (sX9_isKind h hI 1 ) (fun H28 r29 q30 o31 => ?_)
                    obtain ⟨e32, y33, rfl, p34⟩ := q30
                    subst H28
                    clear o31
                    rcases p34 with ⟨rfl, c35⟩ | ⟨rfl, c35⟩
                    · refine fz_if_eq (tgt := 39) kX9_isUnder rfl (by decide) (fun c36 => ?_) (fun c36 => ?_)
                      · exfalso; omega
                      · refine fz_iload_n kX9_isUnder rfl rfl ?_
                        refine fz_iload_n kX9_isUnder rfl rfl ?_
                        refine fz_icmp_ne (tgt := 27) kX9_isUnder rfl (by decide) (fun c37 => ?_) (fun c37 => ?_)
                        · refine fz_gets kX9_isUnder rfl ?_
                          refine fz_iload_n kX9_isUnder rfl rfl ?_
                          refine fz_taldV (v := 0) kX9_isUnder rfl ⟨by decide, by decide⟩ (by omega) (by rw [hI.2.2.2.2]; decide) (by rw [hI.2.2.2.2]; rfl) ?_
                          refine fz_istore_n (ls' := [(3, fz_i 0), (4, fz_i ((0 + 1) + 1)), (0, fz_r 44), (1, fz_i 7), (2, fz_i tp)]) kX9_isUnder rfl (by decide) rfl ?_
                          refine fz_iincN (ls' := [(4, fz_i (((0 + 1) + 1) + 1)), (3, fz_i 0), (0, fz_r 44), (1, fz_i 7), (2, fz_i tp)]) kX9_isUnder rfl (by decide) rfl (by omega) rfl ?_
                          refine fz_goto (tgt := 5) kX9_isUnder rfl (by decide) ?_
                          refine fz_iload kX9_isUnder rfl rfl ?_
                          refine fz_bipush ⟨by decide, by decide⟩ kX9_isUnder rfl ?_
                          refine fz_icmp_ge (tgt := 39) kX9_isUnder rfl (by decide) (fun c40 => ?_) (fun c40 => ?_)
                          · exfalso; omega
                          · refine fz_aload_n kX9_isUnder rfl rfl ?_
                            refine fz_iload_n kX9_isUnder rfl rfl ?_
                            refine fz_callV (d' := 0) (M' := mX9_isKind) (As := [fz_i 0]) (st := []) kX9_isUnder rfl rfl vX9_isKind rfl rfl rfl rfl (Nat.le_of_ble_eq_true rfl) (Nat.le_of_ble_eq_true rfl) (by decide) (sX9_isKind h hI 0 ) (fun H41 r42 q43 o44 => ?_)
                            obtain ⟨e45, y46, rfl, p47⟩ := q43
                            subst H41
                            clear o44
                            rcases p47 with ⟨rfl, c48⟩ | ⟨rfl, c48⟩
                            · refine fz_if_eq (tgt := 39) kX9_isUnder rfl (by decide) (fun c49 => ?_) (fun c49 => ?_)
                              · exfalso; omega
                              · refine fz_iload_n kX9_isUnder rfl rfl ?_
                                refine fz_iload_n kX9_isUnder rfl rfl ?_
                                refine fz_icmp_ne (tgt := 27) kX9_isUnder rfl (by decide) (fun c50 => ?_) (fun c50 => ?_)
                                · refine fz_gets kX9_isUnder rfl ?_
                                  refine fz_iload_n kX9_isUnder rfl rfl ?_
                                  refine fz_taldV (v := (-1)) kX9_isUnder rfl ⟨by decide, by decide⟩ (by omega) (by rw [hI.2.2.2.2]; decide) (by rw [hI.2.2.2.2]; rfl) ?_
                                  refine fz_istore_n (ls' := [(3, fz_i (-1)), (4, fz_i (((0 + 1) + 1) + 1)), (0, fz_r 44), (1, fz_i 7), (2, fz_i tp)]) kX9_isUnder rfl (by decide) rfl ?_
                                  refine fz_iincN (ls' := [(4, fz_i ((((0 + 1) + 1) + 1) + 1)), (3, fz_i (-1)), (0, fz_r 44), (1, fz_i 7), (2, fz_i tp)]) kX9_isUnder rfl (by decide) rfl (by omega) rfl ?_
                                  refine fz_goto (tgt := 5) kX9_isUnder rfl (by decide) ?_
                                  refine fz_iload kX9_isUnder rfl rfl ?_
                                  refine fz_bipush ⟨by decide, by decide⟩ kX9_isUnder rfl ?_
                                  refine fz_icmp_ge (tgt := 39) kX9_isUnder rfl (by decide) (fun c53 => ?_) (fun c53 => ?_)
                                  · exfalso; omega
                                  · refine fz_aload_n kX9_isUnder rfl rfl ?_
                                    refine fz_iload_n kX9_isUnder rfl rfl ?_
                                    refine fz_callV (d' := 0) (M' := mX9_isKind) (As := [fz_i (-1)]) (st := []) kX9_isUnder rfl rfl vX9_isKind rfl rfl rfl rfl (Nat.le_of_ble_eq_true rfl) (Nat.le_of_ble_eq_true rfl) (by decide) (sX9_isKind h hI (-1) ) (fun H54 r55 q56 o57 => ?_)
                                    obtain ⟨e58, y59, rfl, p60⟩ := q56
                                    subst H54
                                    clear o57
                                    rcases p60 with ⟨rfl, c61⟩ | ⟨rfl, c61⟩
                                    · refine fz_if_eq (tgt := 39) kX9_isUnder rfl (by decide) (fun c62 => ?_) (fun c62 => ?_)
                                      · exfalso; omega
                                      · refine fz_iload_n kX9_isUnder rfl rfl ?_
                                        refine fz_iload_n kX9_isUnder rfl rfl ?_
                                        refine fz_icmp_ne (tgt := 27) kX9_isUnder rfl (by decide) (fun c63 => ?_) (fun c63 => ?_)
                                        · refine fz_gets kX9_isUnder rfl ?_
                                          refine fz_iload_n kX9_isUnder rfl rfl ?_
                                          obtain ⟨z64, e65⟩ : ∃ z, h 204 ((-1)).toNat = z := ⟨_, rfl⟩
                                          refine fz_taldV (v := z64) kX9_isUnder rfl ⟨by decide, by decide⟩ (by omega) (by rw [show h 204 100000 = 8 by rw [hI.2.2.2.2]; rfl]; omega) e65 ?_
                                          have t66 := fz_tb204 (h := h) hI.2.2.2.2 (show 0 ≤ (-1) ∧ (-1) < 8 by omega)
                                          rw [e65] at t66
                                          refine fz_istore_n (ls' := [(3, fz_i z64), (4, fz_i ((((0 + 1) + 1) + 1) + 1)), (0, fz_r 44), (1, fz_i 7), (2, fz_i tp)]) kX9_isUnder rfl (by decide) rfl ?_
                                          refine fz_iincN (ls' := [(4, fz_i (((((0 + 1) + 1) + 1) + 1) + 1)), (3, fz_i z64), (0, fz_r 44), (1, fz_i 7), (2, fz_i tp)]) kX9_isUnder rfl (by decide) rfl (by omega) rfl ?_
                                          refine fz_goto (tgt := 5) kX9_isUnder rfl (by decide) ?_
                                          refine fz_iload kX9_isUnder rfl rfl ?_
                                          refine fz_bipush ⟨by decide, by decide⟩ kX9_isUnder rfl ?_
                                          refine fz_icmp_ge (tgt := 39) kX9_isUnder rfl (by decide) (fun c67 => ?_) (fun c67 => ?_)
                                          · exfalso; omega
                                          · refine fz_aload_n kX9_isUnder rfl rfl ?_
                                            refine fz_iload_n kX9_isUnder rfl rfl ?_
                                            refine fz_callV (d' := 0) (M' := mX9_isKind) (As := [fz_i z64]) (st := []) kX9_isUnder rfl rfl vX9_isKind rfl rfl rfl rfl (Nat.le_of_ble_eq_true rfl) (Nat.le_of_ble_eq_true rfl) (by decide) (sX9_isKind h hI z64 ) (fun H68 r69 q70 o71 => ?_)
                                            obtain ⟨e72, y73, rfl, p74⟩ := q70
                                            subst H68
                                            clear o71
                                            rcases p74 with ⟨rfl, c75⟩ | ⟨rfl, c75⟩
                                            · refine fz_if_eq (tgt := 39) kX9_isUnder rfl (by decide) (fun c76 => ?_) (fun c76 => ?_)
                                              · exfalso; omega
                                              · refine fz_iload_n kX9_isUnder rfl rfl ?_
                                                refine fz_iload_n kX9_isUnder rfl rfl ?_
                                                refine fz_icmp_ne (tgt := 27) kX9_isUnder rfl (by decide) (fun c77 => ?_) (fun c77 => ?_)
                                                · refine fz_gets kX9_isUnder rfl ?_
                                                  refine fz_iload_n kX9_isUnder rfl rfl ?_
                                                  obtain ⟨z78, e79⟩ : ∃ z, h 204 (z64).toNat = z := ⟨_, rfl⟩
                                                  refine fz_taldV (v := z78) kX9_isUnder rfl ⟨by decide, by decide⟩ (by omega) (by rw [show h 204 100000 = 8 by rw [hI.2.2.2.2]; rfl]; omega) e79 ?_
                                                  have t80 := fz_tb204 (h := h) hI.2.2.2.2 (show 0 ≤ z64 ∧ z64 < 8 by omega)
                                                  rw [e79] at t80
                                                  refine fz_istore_n (ls' := [(3, fz_i z78), (4, fz_i (((((0 + 1) + 1) + 1) + 1) + 1)), (0, fz_r 44), (1, fz_i 7), (2, fz_i tp)]) kX9_isUnder rfl (by decide) rfl ?_
                                                  refine fz_iincN (ls' := [(4, fz_i ((((((0 + 1) + 1) + 1) + 1) + 1) + 1)), (3, fz_i z78), (0, fz_r 44), (1, fz_i 7), (2, fz_i tp)]) kX9_isUnder rfl (by decide) rfl (by omega) rfl ?_
                                                  refine fz_goto (tgt := 5) kX9_isUnder rfl (by decide) ?_
                                                  refine fz_iload kX9_isUnder rfl rfl ?_
                                                  refine fz_bipush ⟨by decide, by decide⟩ kX9_isUnder rfl ?_
                                                  refine fz_icmp_ge (tgt := 39) kX9_isUnder rfl (by decide) (fun c81 => ?_) (fun c81 => ?_)
                                                  · exfalso; omega
                                                  · refine fz_aload_n kX9_isUnder rfl rfl ?_
                                                    refine fz_iload_n kX9_isUnder rfl rfl ?_
                                                    refine fz_callV (d' := 0) (M' := mX9_isKind) (As := [fz_i z78]) (st := []) kX9_isUnder rfl rfl vX9_isKind rfl rfl rfl rfl (Nat.le_of_ble_eq_true rfl) (Nat.le_of_ble_eq_true rfl) (by decide) (sX9_isKind h hI z78 ) (fun H82 r83 q84 o85 => ?_)
                                                    obtain ⟨e86, y87, rfl, p88⟩ := q84
                                                    subst H82
                                                    clear o85
                                                    rcases p88 with ⟨rfl, c89⟩ | ⟨rfl, c89⟩
                                                    · refine fz_if_eq (tgt := 39) kX9_isUnder rfl (by decide) (fun c90 => ?_) (fun c90 => ?_)
                                                      · exfalso; omega
                                                      · refine fz_iload_n kX9_isUnder rfl rfl ?_
                                                        refine fz_iload_n kX9_isUnder rfl rfl ?_
                                                        refine fz_icmp_ne (tgt := 27) kX9_isUnder rfl (by decide) (fun c91 => ?_) (fun c91 => ?_)
                                                        · refine fz_gets kX9_isUnder rfl ?_
                                                          refine fz_iload_n kX9_isUnder rfl rfl ?_
                                                          obtain ⟨z92, e93⟩ : ∃ z, h 204 (z78).toNat = z := ⟨_, rfl⟩
                                                          refine fz_taldV (v := z92) kX9_isUnder rfl ⟨by decide, by decide⟩ (by omega) (by rw [show h 204 100000 = 8 by rw [hI.2.2.2.2]; rfl]; omega) e93 ?_
                                                          have t94 := fz_tb204 (h := h) hI.2.2.2.2 (show 0 ≤ z78 ∧ z78 < 8 by omega)
                                                          rw [e93] at t94
                                                          refine fz_istore_n (ls' := [(3, fz_i z92), (4, fz_i ((((((0 + 1) + 1) + 1) + 1) + 1) + 1)), (0, fz_r 44), (1, fz_i 7), (2, fz_i tp)]) kX9_isUnder rfl (by decide) rfl ?_
                                                          refine fz_iincN (ls' := [(4, fz_i (((((((0 + 1) + 1) + 1) + 1) + 1) + 1) + 1)), (3, fz_i z92), (0, fz_r 44), (1, fz_i 7), (2, fz_i tp)]) kX9_isUnder rfl (by decide) rfl (by omega) rfl ?_
                                                          refine fz_goto (tgt := 5) kX9_isUnder rfl (by decide) ?_
                                                          refine fz_iload kX9_isUnder rfl rfl ?_
                                                          refine fz_bipush ⟨by decide, by decide⟩ kX9_isUnder rfl ?_
                                                          refine fz_icmp_ge (tgt := 39) kX9_isUnder rfl (by decide) (fun c95 => ?_) (fun c95 => ?_)
                                                          · exfalso; omega
                                                          · refine fz_aload_n kX9_isUnder rfl rfl ?_
                                                            refine fz_iload_n kX9_isUnder rfl rfl ?_
                                                            refine fz_callV (d' := 0) (M' := mX9_isKind) (As := [fz_i z92]) (st := []) kX9_isUnder rfl rfl vX9_isKind rfl rfl rfl rfl (Nat.le_of_ble_eq_true rfl) (Nat.le_of_ble_eq_true rfl) (by decide) (sX9_isKind h hI z92 ) (fun H96 r97 q98 o99 => ?_)
                                                            obtain ⟨e100, y101, rfl, p102⟩ := q98
                                                            subst H96
                                                            clear o99
                                                            rcases p102 with ⟨rfl, c103⟩ | ⟨rfl, c103⟩
                                                            · refine fz_if_eq (tgt := 39) kX9_isUnder rfl (by decide) (fun c104 => ?_) (fun c104 => ?_)
                                                              · exfalso; omega
                                                              · refine fz_iload_n kX9_isUnder rfl rfl ?_
                                                                refine fz_iload_n kX9_isUnder rfl rfl ?_
                                                                refine fz_icmp_ne (tgt := 27) kX9_isUnder rfl (by decide) (fun c105 => ?_) (fun c105 => ?_)
                                                                · refine fz_gets kX9_isUnder rfl ?_
                                                                  refine fz_iload_n kX9_isUnder rfl rfl ?_
                                                                  obtain ⟨z106, e107⟩ : ∃ z, h 204 (z92).toNat = z := ⟨_, rfl⟩
                                                                  refine fz_taldV (v := z106) kX9_isUnder rfl ⟨by decide, by decide⟩ (by omega) (by rw [show h 204 100000 = 8 by rw [hI.2.2.2.2]; rfl]; omega) e107 ?_
                                                                  have t108 := fz_tb204 (h := h) hI.2.2.2.2 (show 0 ≤ z92 ∧ z92 < 8 by omega)
                                                                  rw [e107] at t108
                                                                  refine fz_istore_n (ls' := [(3, fz_i z106), (4, fz_i (((((((0 + 1) + 1) + 1) + 1) + 1) + 1) + 1)), (0, fz_r 44), (1, fz_i 7), (2, fz_i tp)]) kX9_isUnder rfl (by decide) rfl ?_
                                                                  refine fz_iincN (ls' := [(4, fz_i ((((((((0 + 1) + 1) + 1) + 1) + 1) + 1) + 1) + 1)), (3, fz_i z106), (0, fz_r 44), (1, fz_i 7), (2, fz_i tp)]) kX9_isUnder rfl (by decide) rfl (by omega) rfl ?_
                                                                  refine fz_goto (tgt := 5) kX9_isUnder rfl (by decide) ?_
                                                                  refine fz_iload kX9_isUnder rfl rfl ?_
                                                                  refine fz_bipush ⟨by decide, by decide⟩ kX9_isUnder rfl ?_
                                                                  refine fz_icmp_ge (tgt := 39) kX9_isUnder rfl (by decide) (fun c109 => ?_) (fun c109 => ?_)
                                                                  · refine fz_iconst ⟨by decide, by decide⟩ kX9_isUnder rfl ?_
                                                                    exact fz_zret kX9_isUnder rfl rfl (by omega) ⟨rfl, _, rfl, Or.inr ⟨rfl, by omega⟩⟩
                                                                  · exfalso; omega
                                                                · refine fz_iconst ⟨by decide, by decide⟩ kX9_isUnder rfl ?_
                                                                  exact fz_zret kX9_isUnder rfl rfl (by omega) ⟨rfl, _, rfl, Or.inl ⟨rfl, by omega⟩⟩
                                                            · refine fz_if_eq (tgt := 39) kX9_isUnder rfl (by decide) (fun c110 => ?_) (fun c110 => ?_)
                                                              · refine fz_iconst ⟨by decide, by decide⟩ kX9_isUnder rfl ?_
                                                                exact fz_zret kX9_isUnder rfl rfl (by omega) ⟨rfl, _, rfl, Or.inr ⟨rfl, by omega⟩⟩
                                                              · exfalso; omega
                                                        · refine fz_iconst ⟨by decide, by decide⟩ kX9_isUnder rfl ?_
                                                          exact fz_zret kX9_isUnder rfl rfl (by omega) ⟨rfl, _, rfl, Or.inl ⟨rfl, by omega⟩⟩
                                                    · refine fz_if_eq (tgt := 39) kX9_isUnder rfl (by decide) (fun c111 => ?_) (fun c111 => ?_)
                                                      · refine fz_iconst ⟨by decide, by decide⟩ kX9_isUnder rfl ?_
                                                        exact fz_zret kX9_isUnder rfl rfl (by omega) ⟨rfl, _, rfl, Or.inr ⟨rfl, by omega⟩⟩
                                                      · exfalso; omega
                                                · refine fz_iconst ⟨by decide, by decide⟩ kX9_isUnder rfl ?_
                                                  exact fz_zret kX9_isUnder rfl rfl (by omega) ⟨rfl, _, rfl, Or.inl ⟨rfl, by omega⟩⟩
                                            · refine fz_if_eq (tgt := 39) kX9_isUnder rfl (by decide) (fun c112 => ?_) (fun c112 => ?_)
                                              · refine fz_iconst ⟨by decide, by decide⟩ kX9_isUnder rfl ?_
                                                exact fz_zret kX9_isUnder rfl rfl (by omega) ⟨rfl, _, rfl, Or.inr ⟨rfl, by omega⟩⟩
                                              · exfalso; omega
                                        · refine fz_iconst ⟨by decide, by decide⟩ kX9_isUnder rfl ?_
                                          exact fz_zret kX9_isUnder rfl rfl (by omega) ⟨rfl, _, rfl, Or.inl ⟨rfl, by omega⟩⟩
                                    · refine fz_if_eq (tgt := 39) kX9_isUnder rfl (by decide) (fun c113 => ?_) (fun c113 => ?_)
                                      · refine fz_iconst ⟨by decide, by decide⟩ kX9_isUnder rfl ?_
                                        exact fz_zret kX9_isUnder rfl rfl (by omega) ⟨rfl, _, rfl, Or.inr ⟨rfl, by omega⟩⟩
                                      · exfalso; omega
                                · refine fz_iconst ⟨by decide, by decide⟩ kX9_isUnder rfl ?_
                                  exact fz_zret kX9_isUnder rfl rfl (by omega) ⟨rfl, _, rfl, Or.inl ⟨rfl, by omega⟩⟩
                            · refine fz_if_eq (tgt := 39) kX9_isUnder rfl (by decide) (fun c114 => ?_) (fun c114 => ?_)
                              · refine fz_iconst ⟨by decide, by decide⟩ kX9_isUnder rfl ?_
                                exact fz_zret kX9_isUnder rfl rfl (by omega) ⟨rfl, _, rfl, Or.inr ⟨rfl, by omega⟩⟩
                              · exfalso; omega
                        · refine fz_iconst ⟨by decide, by decide⟩ kX9_isUnder rfl ?_
                          exact fz_zret kX9_isUnder rfl rfl (by omega) ⟨rfl, _, rfl, Or.inl ⟨rfl, by omega⟩⟩
                    · refine fz_if_eq (tgt := 39) kX9_isUnder rfl (by decide) (fun c115 => ?_) (fun c115 => ?_)
                      · refine fz_iconst ⟨by decide, by decide⟩ kX9_isUnder rfl ?_
                        exact fz_zret kX9_isUnder rfl rfl (by omega) ⟨rfl, _, rfl, Or.inr ⟨rfl, by omega⟩⟩
                      · exfalso; omega
                · refine fz_iconst ⟨by decide, by decide⟩ kX9_isUnder rfl ?_
                  exact fz_zret kX9_isUnder rfl rfl (by omega) ⟨rfl, _, rfl, Or.inl ⟨rfl, by omega⟩⟩
            · refine fz_if_eq (tgt := 39) kX9_isUnder rfl (by decide) (fun c116 => ?_) (fun c116 => ?_)
              · refine fz_iconst ⟨by decide, by decide⟩ kX9_isUnder rfl ?_
                exact fz_zret kX9_isUnder rfl rfl (by omega) ⟨rfl, _, rfl, Or.inr ⟨rfl, by omega⟩⟩
              · exfalso; omega
        · refine fz_iconst ⟨by decide, by decide⟩ kX9_isUnder rfl ?_
          exact fz_zret kX9_isUnder rfl rfl (by omega) ⟨rfl, _, rfl, Or.inl ⟨rfl, by omega⟩⟩
    · refine fz_if_eq (tgt := 39) kX9_isUnder rfl (by decide) (fun c117 => ?_) (fun c117 => ?_)
      · refine fz_iconst ⟨by decide, by decide⟩ kX9_isUnder rfl ?_
        exact fz_zret kX9_isUnder rfl rfl (by omega) ⟨rfl, _, rfl, Or.inr ⟨rfl, by omega⟩⟩
      · exfalso; omega

abbrev qX9_ownerFrom (h : fz_H) (fr ac : Int) : fz_H → Option fz_V → Prop := fun h' r0 => h' = h ∧ ∃ r : Int, r0 = some (fz_i r) ∧ (0 ≤ r ∧ r ≤ 7)
set_option maxHeartbeats 1000000 in
set_option maxRecDepth 100000 in
theorem sX9_ownerFrom (h : fz_H) (hI : fz_Iv h) (fr ac : Int) (hp0 : 0 ≤ fr ∧ fr < 8) (hp1 : 0 ≤ ac ∧ ac < 4) : fz_R 0 mX9_ownerFrom 0 [(0, fz_i fr), (1, fz_i ac)] [] h (qX9_ownerFrom h fr ac) := by
  refine fz_knowl (fun hk => ?_)
  have hr_fr : -2147483648 ≤ fr ∧ fr < 2147483648 := hk _ (List.Mem.head _)
  have hr_ac : -2147483648 ≤ ac ∧ ac < 2147483648 := hk _ (List.Mem.tail _ (List.Mem.head _))
  clear hk
  refine fz_iload_n kX9_ownerFrom rfl rfl ?_
  refine fz_istore_n (ls' := [(2, fz_i fr), (0, fz_i fr), (1, fz_i ac)]) kX9_ownerFrom rfl (by decide) rfl ?_
  refine fz_iconst ⟨by decide, by decide⟩ kX9_ownerFrom rfl ?_
  refine fz_istore_n (ls' := [(3, fz_i 0), (2, fz_i fr), (0, fz_i fr), (1, fz_i ac)]) kX9_ownerFrom rfl (by decide) rfl ?_
  have lp4 : ∀ (n3 : Nat) (x1 : Int) (x2 : Int), (0 ≤ x1 ∧ x1 ≤ 2147483647) → (0 ≤ x2 ∧ x2 ≤ 7) → (8 - x1).toNat < n3 → fz_R 0 mX9_ownerFrom 4 [(3, fz_i x1), (2, fz_i x2), (0, fz_i fr), (1, fz_i ac)] [] h (qX9_ownerFrom h fr ac) := by
    intro n3
    induction n3 with
    | zero => intro x1 x2 hv7 hv8 hm6; exact absurd hm6 (by omega)
    | succ n3 ih5 =>
      intro x1 x2 hv7 hv8 hm6
      refine fz_iload_n kX9_ownerFrom rfl rfl ?_
      refine fz_bipush ⟨by decide, by decide⟩ kX9_ownerFrom rfl ?_
      refine fz_icmp_ge (tgt := 38) kX9_ownerFrom rfl (by decide) (fun c9 => ?_) (fun c9 => ?_)
      · refine fz_iload_n kX9_ownerFrom rfl rfl ?_
        exact fz_iret kX9_ownerFrom rfl rfl (fun _ => ⟨rfl, _, rfl, (by omega)⟩)
      · refine fz_iload_n kX9_ownerFrom rfl rfl ?_
        refine fz_if_le (tgt := 38) kX9_ownerFrom rfl (by decide) (fun c10 => ?_) (fun c10 => ?_)
        · refine fz_iload_n kX9_ownerFrom rfl rfl ?_
          exact fz_iret kX9_ownerFrom rfl rfl (fun _ => ⟨rfl, _, rfl, (by omega)⟩)
        · refine fz_gets kX9_ownerFrom rfl ?_
          refine fz_iload_n kX9_ownerFrom rfl rfl ?_
          refine fz_iconst ⟨by decide, by decide⟩ kX9_ownerFrom rfl ?_
          refine fz_imulN kX9_ownerFrom rfl (by omega) ?_
          refine fz_iload_n kX9_ownerFrom rfl rfl ?_
          refine fz_iaddN kX9_ownerFrom rfl (by omega) ?_
          obtain ⟨z11, e12⟩ : ∃ z, h 203 (((x2 * 4) + ac)).toNat = z := ⟨_, rfl⟩
          refine fz_taldV (v := z11) kX9_ownerFrom rfl ⟨by decide, by decide⟩ (by omega) (by rw [show h 203 100000 = 32 by rw [hI.2.2.2.1]; rfl]; omega) e12 ?_
          have t13 := fz_tb203 (h := h) hI.2.2.2.1 (show 0 ≤ ((x2 * 4) + ac) ∧ ((x2 * 4) + ac) < 32 by omega)
          rw [e12] at t13
          refine fz_if_ne (tgt := 38) kX9_ownerFrom rfl (by decide) (fun c14 => ?_) (fun c14 => ?_)
          · refine fz_iload_n kX9_ownerFrom rfl rfl ?_
            exact fz_iret kX9_ownerFrom rfl rfl (fun _ => ⟨rfl, _, rfl, (by omega)⟩)
          · refine fz_gets kX9_ownerFrom rfl ?_
            refine fz_iload_n kX9_ownerFrom rfl rfl ?_
            obtain ⟨z15, e16⟩ : ∃ z, h 204 (x2).toNat = z := ⟨_, rfl⟩
            refine fz_taldV (v := z15) kX9_ownerFrom rfl ⟨by decide, by decide⟩ (by omega) (by rw [show h 204 100000 = 8 by rw [hI.2.2.2.2]; rfl]; omega) e16 ?_
            have t17 := fz_tb204 (h := h) hI.2.2.2.2 (show 0 ≤ x2 ∧ x2 < 8 by omega)
            rw [e16] at t17
            refine fz_istore_n (ls' := [(2, fz_i z15), (3, fz_i x1), (0, fz_i fr), (1, fz_i ac)]) kX9_ownerFrom rfl (by decide) rfl ?_
            refine fz_iincN (ls' := [(3, fz_i (x1 + 1)), (2, fz_i z15), (0, fz_i fr), (1, fz_i ac)]) kX9_ownerFrom rfl (by decide) rfl (by omega) rfl ?_
            refine fz_goto (tgt := 4) kX9_ownerFrom rfl (by decide) ?_
            exact ih5 (x1 + 1) z15 (by omega) (by omega) (by omega)
  exact lp4 _ 0 fr (by omega) (by omega) (Nat.lt_succ_self _)

abbrev qX9_note (h : fz_H) (b : Int) : fz_H → Option fz_V → Prop := fun h' r0 => fz_Iv h' ∧ fz_fr [(44, 3), (46, 99999)] h h' ∧ r0 = none ∧ h' 44 3 = h 44 3 + 1 ∧ h' 46 = fz_t1 (h 46) (h 44 3) b
set_option maxHeartbeats 1000000 in
set_option maxRecDepth 100000 in
theorem sX9_note (h : fz_H) (hI : fz_Iv h) (b : Int) (hp0 : 0 ≤ h 44 3 ∧ h 44 3 < 1000) : fz_R 0 mX9_note 0 [(0, fz_r 44), (1, fz_i b)] [] h (qX9_note h b) := by
  refine fz_knowl (fun hk => ?_)
  have hr_b : -2147483648 ≤ b ∧ b < 2147483648 := hk _ (List.Mem.tail _ (List.Mem.head _))
  clear hk
  have hf : fz_fr [(44, 3), (46, 99999)] h h := fz_fr_rf
  have b1 : (-2147483648) ≤ h 44 3 ∧ h 44 3 ≤ 2147483647 := hI.1 44 _
  refine fz_aload_n kX9_note rfl rfl ?_
  refine fz_getV (v := h 44 3) kX9_note rfl rfl rfl ?_
  have b2 : (-2147483648) ≤ h 44 3 ∧ h 44 3 ≤ 2147483647 := hI.1 44 _
  refine fz_bipush ⟨by decide, by decide⟩ kX9_note rfl ?_
  refine fz_icmp_ge (tgt := 19) kX9_note rfl (by decide) (fun c3 => ?_) (fun c3 => ?_)
  · refine fz_aload_n kX9_note rfl rfl ?_
    refine fz_dup rfl kX9_note rfl ?_
    refine fz_getV (v := h 44 3) kX9_note rfl rfl rfl ?_
    refine fz_iconst ⟨by decide, by decide⟩ kX9_note rfl ?_
    refine fz_iaddN kX9_note rfl (by omega) ?_
    refine fz_putI kX9_note rfl rfl rfl ?_
    refine fz_nmu (S := [(44, 3), (46, 99999)]) (h0 := h) (fz_Iv_up hI (by decide) (show ((-2147483648) : Int) ≤ ((h 44 3) + 1) by omega) (show (((h 44 3) + 1) : Int) ≤ 2147483647 by omega)) (fz_fr_up hf rfl) (fun H4 hI5 hf6 e7 => ?_)
    have k8 : H4 44 3 = ((h 44 3) + 1) := by rw [e7]; exact fz_up_e
    exact fz_vret kX9_note rfl rfl ⟨hI5, hf6, rfl, (by omega), (by first | exact fz_t1_in lost e7 (by decide) (by omega) | exact fz_t1_no e7 (by decide) (by omega))⟩
  · refine fz_aload_n kX9_note rfl rfl ?_
    refine fz_getR (t := 46) kX9_note rfl rfl ?_
    refine fz_aload_n kX9_note rfl rfl ?_
    refine fz_getV (v := h 44 3) kX9_note rfl rfl rfl ?_
    refine fz_iload_n kX9_note rfl rfl ?_
    refine fz_iast (n := 24) kX9_note rfl rfl (by omega) (by omega) ?_
    refine fz_nmu (S := [(44, 3), (46, 99999)]) (h0 := h) (fz_Iv_up hI (by decide) (show ((-2147483648) : Int) ≤ b by omega) (show (b : Int) ≤ 2147483647 by omega)) (fz_fr_up hf rfl) (fun H10 hI11 hf12 e13 => ?_)
    have k14 : H10 44 3 = (h 44 3) := by rw [e13]; exact (fz_up_o (by decide)).trans rfl
    refine fz_aload_n kX9_note rfl rfl ?_
    refine fz_dup rfl kX9_note rfl ?_
    refine fz_getV (v := (h 44 3)) kX9_note rfl rfl k14 ?_
    refine fz_iconst ⟨by decide, by decide⟩ kX9_note rfl ?_
    refine fz_iaddN kX9_note rfl (by omega) ?_
    refine fz_putI kX9_note rfl rfl rfl ?_
    refine fz_nmu (S := [(44, 3), (46, 99999)]) (h0 := h) (fz_Iv_up hI11 (by decide) (show ((-2147483648) : Int) ≤ ((h 44 3) + 1) by omega) (show (((h 44 3) + 1) : Int) ≤ 2147483647 by omega)) (fz_fr_up hf12 rfl) (fun H15 hI16 hf17 e18 => ?_)
    have k19 : H15 44 3 = ((h 44 3) + 1) := by rw [e18]; exact fz_up_e
    exact fz_vret kX9_note rfl rfl ⟨hI16, hf17, rfl, (by omega), (by first | exact fz_t1_in e13 e18 (by decide) (by omega) | exact fz_t1_no e18 (by decide) (by omega))⟩
