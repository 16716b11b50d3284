/-! ===== what the methods keep ===== -/
abbrev qX9_isKind (h : fz_H) (k : Int) : fz_H → Option fz_V → Prop := fun h' r0 => h' = h ∧ ∃ r : Int, r0 = some (fz_i r) ∧ ((r = 1 ∧ (0 ≤ k ∧ k < 8)) ∨ (r = 0 ∧ ¬ (0 ≤ k ∧ k < 8)))
set_option maxHeartbeats 1000000 in
set_option maxRecDepth 100000 in
theorem sX9_isKind (h : fz_H) (hI : fz_Iv h) (k : Int) : fz_R 0 mX9_isKind 0 [(0, fz_r 44), (1, fz_i k)] [] h (qX9_isKind h k) := by
  refine fz_knowl (fun hk => ?_)
  have hr_k : -2147483648 ≤ k ∧ k < 2147483648 := hk _ (List.Mem.tail _ (List.Mem.head _))
  clear hk
  refine fz_iload_n kX9_isKind rfl rfl ?_
  refine fz_if_lt (tgt := 14) kX9_isKind rfl (by decide) (fun c1 => ?_) (fun c1 => ?_)
  · refine fz_iconst ⟨by decide, by decide⟩ kX9_isKind rfl ?_
    exact fz_zret kX9_isKind rfl rfl (by omega) ⟨rfl, _, rfl, Or.inr ⟨rfl, by omega⟩⟩
  · refine fz_iload_n kX9_isKind rfl rfl ?_
    refine fz_bipush ⟨by decide, by decide⟩ kX9_isKind rfl ?_
    refine fz_icmp_ge (tgt := 14) kX9_isKind rfl (by decide) (fun c2 => ?_) (fun c2 => ?_)
    · refine fz_iconst ⟨by decide, by decide⟩ kX9_isKind rfl ?_
      exact fz_zret kX9_isKind rfl rfl (by omega) ⟨rfl, _, rfl, Or.inr ⟨rfl, by omega⟩⟩
    · refine fz_iconst ⟨by decide, by decide⟩ kX9_isKind rfl ?_
      refine fz_goto (tgt := 15) kX9_isKind rfl (by decide) ?_
      exact fz_zret kX9_isKind rfl rfl (by omega) ⟨rfl, _, rfl, Or.inl ⟨rfl, by omega⟩⟩

abbrev qX9_isBody (h : fz_H) (b : Int) : fz_H → Option fz_V → Prop := fun h' r0 => h' = h ∧ ∃ r : Int, r0 = some (fz_i r) ∧ ((r = 1 ∧ (0 ≤ b ∧ b ≤ 49 ∧ b < h 44 2)) ∨ (r = 0 ∧ ¬ (0 ≤ b ∧ b ≤ 49 ∧ b < h 44 2)))
set_option maxHeartbeats 1000000 in
set_option maxRecDepth 100000 in
theorem sX9_isBody (h : fz_H) (hI : fz_Iv h) (b : Int) : fz_R 0 mX9_isBody 0 [(0, fz_r 44), (1, fz_i b)] [] h (qX9_isBody h b) := by
  refine fz_knowl (fun hk => ?_)
  have hr_b : -2147483648 ≤ b ∧ b < 2147483648 := hk _ (List.Mem.tail _ (List.Mem.head _))
  clear hk
  have b1 : 0 ≤ h 44 2 ∧ h 44 2 ≤ 50 := hI.1 44 _
  refine fz_iload_n kX9_isBody rfl rfl ?_
  refine fz_if_lt (tgt := 16) kX9_isBody rfl (by decide) (fun c2 => ?_) (fun c2 => ?_)
  · refine fz_iconst ⟨by decide, by decide⟩ kX9_isBody rfl ?_
    exact fz_zret kX9_isBody rfl rfl (by omega) ⟨rfl, _, rfl, Or.inr ⟨rfl, by omega⟩⟩
  · refine fz_iload_n kX9_isBody rfl rfl ?_
    refine fz_aload_n kX9_isBody rfl rfl ?_
    refine fz_getV (v := h 44 2) kX9_isBody rfl rfl rfl ?_
    have b3 : 0 ≤ h 44 2 ∧ h 44 2 ≤ 50 := hI.1 44 _
    refine fz_icmp_ge (tgt := 16) kX9_isBody rfl (by decide) (fun c4 => ?_) (fun c4 => ?_)
    · refine fz_iconst ⟨by decide, by decide⟩ kX9_isBody rfl ?_
      exact fz_zret kX9_isBody rfl rfl (by omega) ⟨rfl, _, rfl, Or.inr ⟨rfl, by omega⟩⟩
    · refine fz_iconst ⟨by decide, by decide⟩ kX9_isBody rfl ?_
      refine fz_goto (tgt := 17) kX9_isBody rfl (by decide) ?_
      exact fz_zret kX9_isBody rfl rfl (by omega) ⟨rfl, _, rfl, Or.inl ⟨rfl, by omega⟩⟩

abbrev qX9_add (h : fz_H) (k : Int) : fz_H → Option fz_V → Prop := fun h' r0 => fz_Iv h' ∧ fz_fr [(44, 2), (45, 99999)] h h' ∧ ∃ r : Int, r0 = some (fz_i r) ∧ ((-3) ≤ r ∧ r ≤ 49) ∧ ((h 44 2 < 50 ∧ r = h 44 2 ∧ h' 44 2 = h 44 2 + 1) ∨ (50 ≤ h 44 2 ∧ r = -3 ∧ h' 44 2 = h 44 2))
set_option maxHeartbeats 1000000 in
set_option maxRecDepth 100000 in
theorem sX9_add (h : fz_H) (hI : fz_Iv h) (k : Int) (hp0 : 0 ≤ k ∧ k < 8) : fz_R 0 mX9_add 0 [(0, fz_r 44), (1, fz_i k)] [] h (qX9_add h k) := by
  refine fz_knowl (fun hk => ?_)
  have hr_k : -2147483648 ≤ k ∧ k < 2147483648 := hk _ (List.Mem.tail _ (List.Mem.head _))
  clear hk
  have hf : fz_fr [(44, 2), (45, 99999)] h h := fz_fr_rf
  have b1 : 0 ≤ h 44 2 ∧ h 44 2 ≤ 50 := hI.1 44 _
  refine fz_aload_n kX9_add rfl rfl ?_
  refine fz_getV (v := h 44 2) kX9_add rfl rfl rfl ?_
  have b2 : 0 ≤ h 44 2 ∧ h 44 2 ≤ 50 := hI.1 44 _
  refine fz_bipush ⟨by decide, by decide⟩ kX9_add rfl ?_
  refine fz_icmp_lt (tgt := 12) kX9_add rfl (by decide) (fun c3 => ?_) (fun c3 => ?_)
  · refine fz_aload_n kX9_add rfl rfl ?_
    refine fz_getR (t := 45) kX9_add rfl rfl ?_
    refine fz_aload_n kX9_add rfl rfl ?_
    refine fz_getV (v := h 44 2) kX9_add rfl rfl rfl ?_
    refine fz_iload_n kX9_add rfl rfl ?_
    refine fz_iast (n := 50) kX9_add rfl rfl (by omega) (by omega) ?_
    refine fz_nmu (S := [(44, 2), (45, 99999)]) (h0 := h) (fz_Iv_up hI (by decide) (show 0 ≤ k by omega) (show k ≤ 7 by omega)) (fz_fr_up hf rfl) (fun H4 hI5 hf6 e7 => ?_)
    have k8 : H4 44 2 = (h 44 2) := by rw [e7]; exact (fz_up_o (by decide)).trans rfl
    have t9 : H4 44 2 = h 44 2 := by rw [e7]; exact fz_up_o (by decide)
    clear e7
    refine fz_aload_n kX9_add rfl rfl ?_
    refine fz_dup rfl kX9_add rfl ?_
    refine fz_getV (v := (h 44 2)) kX9_add rfl rfl k8 ?_
    refine fz_iconst ⟨by decide, by decide⟩ kX9_add rfl ?_
    refine fz_iaddN kX9_add rfl (by omega) ?_
    refine fz_putI kX9_add rfl rfl rfl ?_
    refine fz_nmu (S := [(44, 2), (45, 99999)]) (h0 := h) (fz_Iv_up hI5 (by decide) (show 0 ≤ ((h 44 2) + 1) by omega) (show ((h 44 2) + 1) ≤ 50 by omega)) (fz_fr_up hf6 rfl) (fun H10 hI11 hf12 e13 => ?_)
    have k14 : H10 44 2 = ((h 44 2) + 1) := by rw [e13]; exact fz_up_e
    clear e13
    refine fz_aload_n kX9_add rfl rfl ?_
    refine fz_getV (v := ((h 44 2) + 1)) kX9_add rfl rfl k14 ?_
    refine fz_iconst ⟨by decide, by decide⟩ kX9_add rfl ?_
    refine fz_isubN kX9_add rfl (by omega) ?_
    exact fz_iret kX9_add rfl rfl (fun _ => ⟨hI11, hf12, _, rfl, (by omega), (by omega)⟩)
  · refine fz_bipush ⟨by decide, by decide⟩ kX9_add rfl ?_
    exact fz_iret kX9_add rfl rfl (fun _ => ⟨hI, hf, _, rfl, (by omega), (by omega)⟩)

abbrev qX9_kindOf (h : fz_H) (b : Int) : fz_H → Option fz_V → Prop := fun h' r0 => h' = h ∧ ∃ r : Int, r0 = some (fz_i r) ∧ ((-2) ≤ r ∧ r ≤ 7)
set_option maxHeartbeats 1000000 in
set_option maxRecDepth 100000 in
theorem sX9_kindOf (h : fz_H) (hI : fz_Iv h) (b : Int) : fz_R 1 mX9_kindOf 0 [(0, fz_r 44), (1, fz_i b)] [] h (qX9_kindOf h b) := by
  refine fz_knowl (fun hk => ?_)
  have hr_b : -2147483648 ≤ b ∧ b < 2147483648 := hk _ (List.Mem.tail _ (List.Mem.head _))
  clear hk
  refine fz_aload_n kX9_kindOf rfl rfl ?_
  refine fz_iload_n kX9_kindOf rfl rfl ?_
  have b1 : 0 ≤ h 44 2 ∧ h 44 2 ≤ 50 := hI.1 44 _
  refine fz_callV (d' := 0) (M' := mX9_isBody) (As := [fz_i b]) (st := []) kX9_kindOf rfl rfl vX9_isBody rfl rfl rfl rfl (Nat.le_of_ble_eq_true rfl) (Nat.le_of_ble_eq_true rfl) (by decide) (sX9_isBody h hI b ) (fun H2 r3 q4 o5 => ?_)
  obtain ⟨e6, y7, rfl, p8⟩ := q4
  subst H2
  clear o5
  rcases p8 with ⟨rfl, c9⟩ | ⟨rfl, c9⟩
  · refine fz_if_eq (tgt := 17) kX9_kindOf rfl (by decide) (fun c10 => ?_) (fun c10 => ?_)
    · exfalso; omega
    · refine fz_aload_n kX9_kindOf rfl rfl ?_
      refine fz_getR (t := 45) kX9_kindOf rfl rfl ?_
      refine fz_iload_n kX9_kindOf rfl rfl ?_
      refine fz_ialdV (n := 50) (v := h 45 (b.toNat)) kX9_kindOf rfl rfl (by omega) (by omega) rfl ?_
      have b11 : 0 ≤ h 45 (b.toNat) ∧ h 45 (b.toNat) ≤ 7 := hI.1 45 _
      refine fz_goto (tgt := 19) kX9_kindOf rfl (by decide) ?_
      exact fz_iret kX9_kindOf rfl rfl (fun _ => ⟨rfl, _, rfl, (by omega)⟩)
  · refine fz_if_eq (tgt := 17) kX9_kindOf rfl (by decide) (fun c12 => ?_) (fun c12 => ?_)
    · refine fz_bipush ⟨by decide, by decide⟩ kX9_kindOf rfl ?_
      exact fz_iret kX9_kindOf rfl rfl (fun _ => ⟨rfl, _, rfl, (by omega)⟩)
    · exfalso; omega

abbrev qX9_isUnder (h : fz_H) (k tp : Int) : fz_H → Option fz_V → Prop := fun h' r0 => h' = h ∧ ∃ r : Int, r0 = some (fz_i r) ∧ (r = 0 ∨ r = 1)
set_option maxHeartbeats 1000000 in
set_option maxRecDepth 100000 in
theorem sX9_isUnder (h : fz_H) (hI : fz_Iv h) (k tp : Int) : fz_R 1 mX9_isUnder 0 [(0, fz_r 44), (1, fz_i k), (2, fz_i tp)] [] h (qX9_isUnder h k tp) := by
  refine fz_knowl (fun hk => ?_)
  have hr_k : -2147483648 ≤ k ∧ k < 2147483648 := hk _ (List.Mem.tail _ (List.Mem.head _))
  have hr_tp : -2147483648 ≤ tp ∧ tp < 2147483648 := hk _ (List.Mem.tail _ (List.Mem.tail _ (List.Mem.head _)))
  clear hk
  refine fz_iload_n kX9_isUnder rfl rfl ?_
  refine fz_istore_n (ls' := [(3, fz_i k), (0, fz_r 44), (1, fz_i k), (2, fz_i tp)]) kX9_isUnder rfl (by decide) rfl ?_
  refine fz_iconst ⟨by decide, by decide⟩ kX9_isUnder rfl ?_
  refine fz_istore (ls' := [(4, fz_i 0), (3, fz_i k), (0, fz_r 44), (1, fz_i k), (2, fz_i tp)]) kX9_isUnder rfl (by decide) rfl ?_
  have lp4 : ∀ (n3 : Nat) (x1 : Int) (x2 : Int), (0 ≤ x1 ∧ x1 ≤ 2147483647) → ((-2147483648) ≤ x2 ∧ x2 ≤ 2147483647) → (8 - x1).toNat < n3 → fz_R 1 mX9_isUnder 5 [(4, fz_i x1), (3, fz_i x2), (0, fz_r 44), (1, fz_i k), (2, fz_i tp)] [] h (qX9_isUnder h k tp) := by
    intro n3
    induction n3 with
    | zero => intro x1 x2 hv7 hv8 hm6; exact absurd hm6 (by omega)
    | succ n3 ih5 =>
      intro x1 x2 hv7 hv8 hm6
      refine fz_iload kX9_isUnder rfl rfl ?_
      refine fz_bipush ⟨by decide, by decide⟩ kX9_isUnder rfl ?_
      refine fz_icmp_ge (tgt := 39) kX9_isUnder rfl (by decide) (fun c9 => ?_) (fun c9 => ?_)
      · refine fz_iconst ⟨by decide, by decide⟩ kX9_isUnder rfl ?_
        exact fz_zret kX9_isUnder rfl rfl (by omega) ⟨rfl, _, rfl, (by omega)⟩
      · refine fz_aload_n kX9_isUnder rfl rfl ?_
        refine fz_iload_n kX9_isUnder rfl rfl ?_
        refine fz_callV (d' := 0) (M' := mX9_isKind) (As := [fz_i x2]) (st := []) kX9_isUnder rfl rfl vX9_isKind rfl rfl rfl rfl (Nat.le_of_ble_eq_true rfl) (Nat.le_of_ble_eq_true rfl) (by decide) (sX9_isKind h hI x2 ) (fun H10 r11 q12 o13 => ?_)
        obtain ⟨e14, y15, rfl, p16⟩ := q12
        subst H10
        clear o13
        rcases p16 with ⟨rfl, c17⟩ | ⟨rfl, c17⟩
        · refine fz_if_eq (tgt := 39) kX9_isUnder rfl (by decide) (fun c18 => ?_) (fun c18 => ?_)
          · exfalso; omega
          · refine fz_iload_n kX9_isUnder rfl rfl ?_
            refine fz_iload_n kX9_isUnder rfl rfl ?_
            refine fz_icmp_ne (tgt := 27) kX9_isUnder rfl (by decide) (fun c19 => ?_) (fun c19 => ?_)
            · refine fz_gets kX9_isUnder rfl ?_
              refine fz_iload_n kX9_isUnder rfl rfl ?_
              obtain ⟨z20, e21⟩ : ∃ z, h 204 (x2).toNat = z := ⟨_, rfl⟩
              refine fz_taldV (v := z20) kX9_isUnder rfl ⟨by decide, by decide⟩ (by omega) (by rw [show h 204 100000 = 8 by rw [hI.2.2.2.2]; rfl]; omega) e21 ?_
              have t22 := fz_tb204 (h := h) hI.2.2.2.2 (show 0 ≤ x2 ∧ x2 < 8 by omega)
              rw [e21] at t22
              refine fz_istore_n (ls' := [(3, fz_i z20), (4, fz_i x1), (0, fz_r 44), (1, fz_i k), (2, fz_i tp)]) kX9_isUnder rfl (by decide) rfl ?_
              refine fz_iincN (ls' := [(4, fz_i (x1 + 1)), (3, fz_i z20), (0, fz_r 44), (1, fz_i k), (2, fz_i tp)]) kX9_isUnder rfl (by decide) rfl (by omega) rfl ?_
              refine fz_goto (tgt := 5) kX9_isUnder rfl (by decide) ?_
              exact ih5 (x1 + 1) z20 (by omega) (by omega) (by omega)
            · refine fz_iconst ⟨by decide, by decide⟩ kX9_isUnder rfl ?_
              exact fz_zret kX9_isUnder rfl rfl (by omega) ⟨rfl, _, rfl, (by omega)⟩
        · refine fz_if_eq (tgt := 39) kX9_isUnder rfl (by decide) (fun c23 => ?_) (fun c23 => ?_)
          · refine fz_iconst ⟨by decide, by decide⟩ kX9_isUnder rfl ?_
            exact fz_zret kX9_isUnder rfl rfl (by omega) ⟨rfl, _, rfl, (by omega)⟩
          · exfalso; omega
  exact lp4 _ 0 k (by omega) (by omega) (Nat.lt_succ_self _)

abbrev qX9_ownerFrom (h : fz_H) (fr ac : Int) : fz_H → Option fz_V → Prop := fun h' r0 => h' = h ∧ ∃ r : Int, r0 = some (fz_i r) ∧ (0 ≤ r ∧ r ≤ 7)
set_option maxHeartbeats 1000000 in
set_option maxRecDepth 100000 in
theorem sX9_ownerFrom (h : fz_H) (hI : fz_Iv h) (fr ac : Int) (hp0 : 0 ≤ fr ∧ fr < 8) (hp1 : 0 ≤ ac ∧ ac < 4) : fz_R 0 mX9_ownerFrom 0 [(0, fz_i fr), (1, fz_i ac)] [] h (qX9_ownerFrom h fr ac) := by
  refine fz_knowl (fun hk => ?_)
  have hr_fr : -2147483648 ≤ fr ∧ fr < 2147483648 := hk _ (List.Mem.head _)
  have hr_ac : -2147483648 ≤ ac ∧ ac < 2147483648 := hk _ (List.Mem.tail _ (List.Mem.head _))
  clear hk
  refine fz_iload_n kX9_ownerFrom rfl rfl ?_
  refine fz_istore_n (ls' := [(2, fz_i fr), (0, fz_i fr), (1, fz_i ac)]) kX9_ownerFrom rfl (by decide) rfl ?_
  refine fz_iconst ⟨by decide, by decide⟩ kX9_ownerFrom rfl ?_
  refine fz_istore_n (ls' := [(3, fz_i 0), (2, fz_i fr), (0, fz_i fr), (1, fz_i ac)]) kX9_ownerFrom rfl (by decide) rfl ?_
  have lp4 : ∀ (n3 : Nat) (x1 : Int) (x2 : Int), (0 ≤ x1 ∧ x1 ≤ 2147483647) → (0 ≤ x2 ∧ x2 ≤ 7) → (8 - x1).toNat < n3 → fz_R 0 mX9_ownerFrom 4 [(3, fz_i x1), (2, fz_i x2), (0, fz_i fr), (1, fz_i ac)] [] h (qX9_ownerFrom h fr ac) := by
    intro n3
    induction n3 with
    | zero => intro x1 x2 hv7 hv8 hm6; exact absurd hm6 (by omega)
    | succ n3 ih5 =>
      intro x1 x2 hv7 hv8 hm6
      refine fz_iload_n kX9_ownerFrom rfl rfl ?_
      refine fz_bipush ⟨by decide, by decide⟩ kX9_ownerFrom rfl ?_
      refine fz_icmp_ge (tgt := 38) kX9_ownerFrom rfl (by decide) (fun c9 => ?_) (fun c9 => ?_)
      · refine fz_iload_n kX9_ownerFrom rfl rfl ?_
        exact fz_iret kX9_ownerFrom rfl rfl (fun _ => ⟨rfl, _, rfl, (by omega)⟩)
      · refine fz_iload_n kX9_ownerFrom rfl rfl ?_
        refine fz_if_le (tgt := 38) kX9_ownerFrom rfl (by decide) (fun c10 => ?_) (fun c10 => ?_)
        · refine fz_iload_n kX9_ownerFrom rfl rfl ?_
          exact fz_iret kX9_ownerFrom rfl rfl (fun _ => ⟨rfl, _, rfl, (by omega)⟩)
        · refine fz_gets kX9_ownerFrom rfl ?_
          refine fz_iload_n kX9_ownerFrom rfl rfl ?_
          refine fz_iconst ⟨by decide, by decide⟩ kX9_ownerFrom rfl ?_
          refine fz_imulN kX9_ownerFrom rfl (by omega) ?_
          refine fz_iload_n kX9_ownerFrom rfl rfl ?_
          refine fz_iaddN kX9_ownerFrom rfl (by omega) ?_
          obtain ⟨z11, e12⟩ : ∃ z, h 203 (((x2 * 4) + ac)).toNat = z := ⟨_, rfl⟩
          refine fz_taldV (v := z11) kX9_ownerFrom rfl ⟨by decide, by decide⟩ (by omega) (by rw [show h 203 100000 = 32 by rw [hI.2.2.2.1]; rfl]; omega) e12 ?_
          have t13 := fz_tb203 (h := h) hI.2.2.2.1 (show 0 ≤ ((x2 * 4) + ac) ∧ ((x2 * 4) + ac) < 32 by omega)
          rw [e12] at t13
          refine fz_if_ne (tgt := 38) kX9_ownerFrom rfl (by decide) (fun c14 => ?_) (fun c14 => ?_)
          · refine fz_iload_n kX9_ownerFrom rfl rfl ?_
            exact fz_iret kX9_ownerFrom rfl rfl (fun _ => ⟨rfl, _, rfl, (by omega)⟩)
          · refine fz_gets kX9_ownerFrom rfl ?_
            refine fz_iload_n kX9_ownerFrom rfl rfl ?_
            obtain ⟨z15, e16⟩ : ∃ z, h 204 (x2).toNat = z := ⟨_, rfl⟩
            refine fz_taldV (v := z15) kX9_ownerFrom rfl ⟨by decide, by decide⟩ (by omega) (by rw [show h 204 100000 = 8 by rw [hI.2.2.2.2]; rfl]; omega) e16 ?_
            have t17 := fz_tb204 (h := h) hI.2.2.2.2 (show 0 ≤ x2 ∧ x2 < 8 by omega)
            rw [e16] at t17
            refine fz_istore_n (ls' := [(2, fz_i z15), (3, fz_i x1), (0, fz_i fr), (1, fz_i ac)]) kX9_ownerFrom rfl (by decide) rfl ?_
            refine fz_iincN (ls' := [(3, fz_i (x1 + 1)), (2, fz_i z15), (0, fz_i fr), (1, fz_i ac)]) kX9_ownerFrom rfl (by decide) rfl (by omega) rfl ?_
            refine fz_goto (tgt := 4) kX9_ownerFrom rfl (by decide) ?_
            exact ih5 (x1 + 1) z15 (by omega) (by omega) (by omega)
  exact lp4 _ 0 fr (by omega) (by omega) (Nat.lt_succ_self _)

abbrev qX9_note (h : fz_H) (b : Int) : fz_H → Option fz_V → Prop := fun h' r0 => fz_Iv h' ∧ fz_fr [(44, 3), (46, 99999)] h h' ∧ r0 = none ∧ h' 44 3 = h 44 3 + 1
set_option maxHeartbeats 1000000 in
set_option maxRecDepth 100000 in
theorem sX9_note (h : fz_H) (hI : fz_Iv h) (b : Int) (hp0 : 0 ≤ h 44 3 ∧ h 44 3 < 1000) : fz_R 0 mX9_note 0 [(0, fz_r 44), (1, fz_i b)] [] h (qX9_note h b) := by
  refine fz_knowl (fun hk => ?_)
  have hr_b : -2147483648 ≤ b ∧ b < 2147483648 := hk _ (List.Mem.tail _ (List.Mem.head _))
  clear hk
  have hf : fz_fr [(44, 3), (46, 99999)] h h := fz_fr_rf
  have b1 : (-2147483648) ≤ h 44 3 ∧ h 44 3 ≤ 2147483647 := hI.1 44 _
  refine fz_aload_n kX9_note rfl rfl ?_
  refine fz_getV (v := h 44 3) kX9_note rfl rfl rfl ?_
  have b2 : (-2147483648) ≤ h 44 3 ∧ h 44 3 ≤ 2147483647 := hI.1 44 _
  refine fz_bipush ⟨by decide, by decide⟩ kX9_note rfl ?_
  refine fz_icmp_ge (tgt := 19) kX9_note rfl (by decide) (fun c3 => ?_) (fun c3 => ?_)
  · refine fz_aload_n kX9_note rfl rfl ?_
    refine fz_dup rfl kX9_note rfl ?_
    refine fz_getV (v := h 44 3) kX9_note rfl rfl rfl ?_
    refine fz_iconst ⟨by decide, by decide⟩ kX9_note rfl ?_
    refine fz_iaddN kX9_note rfl (by omega) ?_
    refine fz_putI kX9_note rfl rfl rfl ?_
    refine fz_nmu (S := [(44, 3), (46, 99999)]) (h0 := h) (fz_Iv_up hI (by decide) (show (-2147483648) ≤ ((h 44 3) + 1) by omega) (show ((h 44 3) + 1) ≤ 2147483647 by omega)) (fz_fr_up hf rfl) (fun H4 hI5 hf6 e7 => ?_)
    have k8 : H4 44 3 = ((h 44 3) + 1) := by rw [e7]; exact fz_up_e
    clear e7
    exact fz_vret kX9_note rfl rfl ⟨hI5, hf6, rfl, (by omega)⟩
  · refine fz_aload_n kX9_note rfl rfl ?_
    refine fz_getR (t := 46) kX9_note rfl rfl ?_
    refine fz_aload_n kX9_note rfl rfl ?_
    refine fz_getV (v := h 44 3) kX9_note rfl rfl rfl ?_
    refine fz_iload_n kX9_note rfl rfl ?_
    refine fz_iast (n := 24) kX9_note rfl rfl (by omega) (by omega) ?_
    refine fz_nmu (S := [(44, 3), (46, 99999)]) (h0 := h) (fz_Iv_up hI (by decide) (show (-2147483648) ≤ b by omega) (show b ≤ 2147483647 by omega)) (fz_fr_up hf rfl) (fun H9 hI10 hf11 e12 => ?_)
    have k13 : H9 44 3 = (h 44 3) := by rw [e12]; exact (fz_up_o (by decide)).trans rfl
    clear e12
    refine fz_aload_n kX9_note rfl rfl ?_
    refine fz_dup rfl kX9_note rfl ?_
    refine fz_getV (v := (h 44 3)) kX9_note rfl rfl k13 ?_
    refine fz_iconst ⟨by decide, by decide⟩ kX9_note rfl ?_
    refine fz_iaddN kX9_note rfl (by omega) ?_
    refine fz_putI kX9_note rfl rfl rfl ?_
    refine fz_nmu (S := [(44, 3), (46, 99999)]) (h0 := h) (fz_Iv_up hI10 (by decide) (show (-2147483648) ≤ ((h 44 3) + 1) by omega) (show ((h 44 3) + 1) ≤ 2147483647 by omega)) (fz_fr_up hf11 rfl) (fun H14 hI15 hf16 e17 => ?_)
    have k18 : H14 44 3 = ((h 44 3) + 1) := by rw [e17]; exact fz_up_e
    clear e17
    exact fz_vret kX9_note rfl rfl ⟨hI15, hf16, rfl, (by omega)⟩
