/-! ===== what the methods keep ===== -/
abbrev qX2_isTown (h : fz_H) (t : Int) : fz_H → Option fz_V → Prop := fun h' r0 => h' = h ∧ ∃ r : Int, r0 = some (fz_i r) ∧ ((r = 1 ∧ (0 ≤ t ∧ t ≤ 7 ∧ t < h 1 7)) ∨ (r = 0 ∧ ¬ (0 ≤ t ∧ t ≤ 7 ∧ t < h 1 7)))
set_option maxHeartbeats 1000000 in
set_option maxRecDepth 100000 in
theorem sX2_isTown (h : fz_H) (hI : fz_Iv h) (t : Int) : fz_R 0 mX2_isTown 0 [(0, fz_r 1), (1, fz_i t)] [] h (qX2_isTown h t) := by
  refine fz_knowl (fun hk => ?_)
  have hr_t : -2147483648 ≤ t ∧ t < 2147483648 := hk _ (List.Mem.tail _ (List.Mem.head _))
  clear hk
  have b1 : 0 ≤ h 1 7 ∧ h 1 7 ≤ 8 := hI.1 1 _
  refine fz_iload_n kX2_isTown rfl rfl ?_
  refine fz_if_lt (tgt := 16) kX2_isTown rfl (by decide) (fun c2 => ?_) (fun c2 => ?_)
  · refine fz_iconst ⟨by decide, by decide⟩ kX2_isTown rfl ?_
    exact fz_zret kX2_isTown rfl rfl (by omega) ⟨rfl, _, rfl, Or.inr ⟨rfl, by omega⟩⟩
  · refine fz_iload_n kX2_isTown rfl rfl ?_
    refine fz_aload_n kX2_isTown rfl rfl ?_
    refine fz_getV (v := h 1 7) kX2_isTown rfl rfl rfl ?_
    have b3 : 0 ≤ h 1 7 ∧ h 1 7 ≤ 8 := hI.1 1 _
    refine fz_icmp_ge (tgt := 16) kX2_isTown rfl (by decide) (fun c4 => ?_) (fun c4 => ?_)
    · refine fz_iconst ⟨by decide, by decide⟩ kX2_isTown rfl ?_
      exact fz_zret kX2_isTown rfl rfl (by omega) ⟨rfl, _, rfl, Or.inr ⟨rfl, by omega⟩⟩
    · refine fz_iconst ⟨by decide, by decide⟩ kX2_isTown rfl ?_
      refine fz_goto (tgt := 17) kX2_isTown rfl (by decide) ?_
      exact fz_zret kX2_isTown rfl rfl (by omega) ⟨rfl, _, rfl, Or.inl ⟨rfl, by omega⟩⟩

abbrev qX2_isRoad (h : fz_H) (t : Int) : fz_H → Option fz_V → Prop := fun h' r0 => h' = h ∧ ∃ r : Int, r0 = some (fz_i r) ∧ ((r = 1 ∧ (0 ≤ t ∧ t ≤ 11 ∧ t < h 1 8)) ∨ (r = 0 ∧ ¬ (0 ≤ t ∧ t ≤ 11 ∧ t < h 1 8)))
set_option maxHeartbeats 1000000 in
set_option maxRecDepth 100000 in
theorem sX2_isRoad (h : fz_H) (hI : fz_Iv h) (t : Int) : fz_R 0 mX2_isRoad 0 [(0, fz_r 1), (1, fz_i t)] [] h (qX2_isRoad h t) := by
  refine fz_knowl (fun hk => ?_)
  have hr_t : -2147483648 ≤ t ∧ t < 2147483648 := hk _ (List.Mem.tail _ (List.Mem.head _))
  clear hk
  have b1 : 0 ≤ h 1 8 ∧ h 1 8 ≤ 12 := hI.1 1 _
  refine fz_iload_n kX2_isRoad rfl rfl ?_
  refine fz_if_lt (tgt := 16) kX2_isRoad rfl (by decide) (fun c2 => ?_) (fun c2 => ?_)
  · refine fz_iconst ⟨by decide, by decide⟩ kX2_isRoad rfl ?_
    exact fz_zret kX2_isRoad rfl rfl (by omega) ⟨rfl, _, rfl, Or.inr ⟨rfl, by omega⟩⟩
  · refine fz_iload_n kX2_isRoad rfl rfl ?_
    refine fz_aload_n kX2_isRoad rfl rfl ?_
    refine fz_getV (v := h 1 8) kX2_isRoad rfl rfl rfl ?_
    have b3 : 0 ≤ h 1 8 ∧ h 1 8 ≤ 12 := hI.1 1 _
    refine fz_icmp_ge (tgt := 16) kX2_isRoad rfl (by decide) (fun c4 => ?_) (fun c4 => ?_)
    · refine fz_iconst ⟨by decide, by decide⟩ kX2_isRoad rfl ?_
      exact fz_zret kX2_isRoad rfl rfl (by omega) ⟨rfl, _, rfl, Or.inr ⟨rfl, by omega⟩⟩
    · refine fz_iconst ⟨by decide, by decide⟩ kX2_isRoad rfl ?_
      refine fz_goto (tgt := 17) kX2_isRoad rfl (by decide) ?_
      exact fz_zret kX2_isRoad rfl rfl (by omega) ⟨rfl, _, rfl, Or.inl ⟨rfl, by omega⟩⟩

abbrev qX2_acrossFrom (h : fz_H) (rd t : Int) : fz_H → Option fz_V → Prop := fun h' r0 => h' = h ∧ ∃ r : Int, r0 = some (fz_i r) ∧ ((-2) ≤ r ∧ r ≤ 7) ∧ (r = -2 ∨ r = h 5 rd.toNat ∨ r = h 6 rd.toNat) ∧ (r = fz_ac (h 5 rd.toNat) (h 6 rd.toNat) t)
set_option maxHeartbeats 1000000 in
set_option maxRecDepth 100000 in
theorem sX2_acrossFrom (h : fz_H) (hI : fz_Iv h) (rd t : Int) (hp0 : 0 ≤ rd ∧ rd < 12) : fz_R 0 mX2_acrossFrom 0 [(0, fz_r 1), (1, fz_i rd), (2, fz_i t)] [] h (qX2_acrossFrom h rd t) := by
  refine fz_knowl (fun hk => ?_)
  have hr_rd : -2147483648 ≤ rd ∧ rd < 2147483648 := hk _ (List.Mem.tail _ (List.Mem.head _))
  have hr_t : -2147483648 ≤ t ∧ t < 2147483648 := hk _ (List.Mem.tail _ (List.Mem.tail _ (List.Mem.head _)))
  clear hk
  refine fz_aload_n kX2_acrossFrom rfl rfl ?_
  refine fz_getR (t := 5) kX2_acrossFrom rfl rfl ?_
  refine fz_iload_n kX2_acrossFrom rfl rfl ?_
  refine fz_ialdV (n := 12) (v := h 5 (rd.toNat)) kX2_acrossFrom rfl rfl (by omega) (by omega) rfl ?_
  have b1 : 0 ≤ h 5 (rd.toNat) ∧ h 5 (rd.toNat) ≤ 7 := hI.1 5 _
  refine fz_iload_n kX2_acrossFrom rfl rfl ?_
  refine fz_icmp_ne (tgt := 17) kX2_acrossFrom rfl (by decide) (fun c2 => ?_) (fun c2 => ?_)
  · refine fz_aload_n kX2_acrossFrom rfl rfl ?_
    refine fz_getR (t := 6) kX2_acrossFrom rfl rfl ?_
    refine fz_iload_n kX2_acrossFrom rfl rfl ?_
    refine fz_ialdV (n := 12) (v := h 6 (rd.toNat)) kX2_acrossFrom rfl rfl (by omega) (by omega) rfl ?_
    have b3 : 0 ≤ h 6 (rd.toNat) ∧ h 6 (rd.toNat) ≤ 7 := hI.1 6 _
    refine fz_iload_n kX2_acrossFrom rfl rfl ?_
    refine fz_icmp_ne (tgt := 36) kX2_acrossFrom rfl (by decide) (fun c4 => ?_) (fun c4 => ?_)
    · refine fz_bipush ⟨by decide, by decide⟩ kX2_acrossFrom rfl ?_
      exact fz_iret kX2_acrossFrom rfl rfl (fun _ => ⟨rfl, _, rfl, (by omega), (by omega), (by first | exact fz_ac_1 (by omega) | exact fz_ac_2 (by omega) (by omega) | exact fz_ac_3 (by omega) (by omega))⟩)
    · refine fz_aload_n kX2_acrossFrom rfl rfl ?_
      refine fz_getR (t := 5) kX2_acrossFrom rfl rfl ?_
      refine fz_iload_n kX2_acrossFrom rfl rfl ?_
      refine fz_ialdV (n := 12) (v := h 5 (rd.toNat)) kX2_acrossFrom rfl rfl (by omega) (by omega) rfl ?_
      refine fz_goto (tgt := 38) kX2_acrossFrom rfl (by decide) ?_
      exact fz_iret kX2_acrossFrom rfl rfl (fun _ => ⟨rfl, _, rfl, (by omega), (by omega), (by first | exact fz_ac_1 (by omega) | exact fz_ac_2 (by omega) (by omega) | exact fz_ac_3 (by omega) (by omega))⟩)
  · refine fz_aload_n kX2_acrossFrom rfl rfl ?_
    refine fz_getR (t := 6) kX2_acrossFrom rfl rfl ?_
    refine fz_iload_n kX2_acrossFrom rfl rfl ?_
    refine fz_ialdV (n := 12) (v := h 6 (rd.toNat)) kX2_acrossFrom rfl rfl (by omega) (by omega) rfl ?_
    have b7 : 0 ≤ h 6 (rd.toNat) ∧ h 6 (rd.toNat) ≤ 7 := hI.1 6 _
    exact fz_iret kX2_acrossFrom rfl rfl (fun _ => ⟨rfl, _, rfl, (by omega), (by omega), (by first | exact fz_ac_1 (by omega) | exact fz_ac_2 (by omega) (by omega) | exact fz_ac_3 (by omega) (by omega))⟩)

abbrev qX2_hoursByFeet (h : fz_H) (a b : Int) : fz_H → Option fz_V → Prop := fun h' r0 => h' = h ∧ ∃ r : Int, r0 = some (fz_i r) ∧ ((-2) ≤ r ∧ r ≤ 9999)
set_option maxHeartbeats 1000000 in
set_option maxRecDepth 100000 in
theorem sX2_hoursByFeet (h : fz_H) (hI : fz_Iv h) (a b : Int) (hp0 : 0 ≤ a ∧ a < 8) (hp1 : 0 ≤ b ∧ b < 8) : fz_R 0 mX2_hoursByFeet 0 [(0, fz_r 1), (1, fz_i a), (2, fz_i b)] [] h (qX2_hoursByFeet h a b) := by
  refine fz_knowl (fun hk => ?_)
  have hr_a : -2147483648 ≤ a ∧ a < 2147483648 := hk _ (List.Mem.tail _ (List.Mem.head _))
  have hr_b : -2147483648 ≤ b ∧ b < 2147483648 := hk _ (List.Mem.tail _ (List.Mem.tail _ (List.Mem.head _)))
  clear hk
  refine fz_aload_n kX2_hoursByFeet rfl rfl ?_
  refine fz_getR (t := 7) kX2_hoursByFeet rfl rfl ?_
  refine fz_iload_n kX2_hoursByFeet rfl rfl ?_
  refine fz_bipush ⟨by decide, by decide⟩ kX2_hoursByFeet rfl ?_
  refine fz_imulN kX2_hoursByFeet rfl (by omega) ?_
  refine fz_iload_n kX2_hoursByFeet rfl rfl ?_
  refine fz_iaddN kX2_hoursByFeet rfl (by omega) ?_
  refine fz_ialdV (n := 64) (v := h 7 (((a * 8) + b).toNat)) kX2_hoursByFeet rfl rfl (by omega) (by omega) rfl ?_
  have b1 : 0 ≤ h 7 (((a * 8) + b).toNat) ∧ h 7 (((a * 8) + b).toNat) ≤ 1000000 := hI.1 7 _
  refine fz_istore_n (ls' := [(3, fz_i (h 7 (((a * 8) + b).toNat))), (0, fz_r 1), (1, fz_i a), (2, fz_i b)]) kX2_hoursByFeet rfl (by decide) rfl ?_
  refine fz_iload_n kX2_hoursByFeet rfl rfl ?_
  refine fz_ldc (x := 1000000) kX2_hoursByFeet rfl rfl rfl ?_
  refine fz_icmp_lt (tgt := 23) kX2_hoursByFeet rfl (by decide) (fun c2 => ?_) (fun c2 => ?_)
  · refine fz_iload_n kX2_hoursByFeet rfl rfl ?_
    refine fz_bipush ⟨by decide, by decide⟩ kX2_hoursByFeet rfl ?_
    refine fz_idivN kX2_hoursByFeet rfl (by omega) (by omega) (by omega) ?_
    exact fz_iret kX2_hoursByFeet rfl rfl (fun _ => ⟨rfl, _, rfl, (by omega)⟩)
  · refine fz_bipush ⟨by decide, by decide⟩ kX2_hoursByFeet rfl ?_
    refine fz_goto (tgt := 27) kX2_hoursByFeet rfl (by decide) ?_
    exact fz_iret kX2_hoursByFeet rfl rfl (fun _ => ⟨rfl, _, rfl, (by omega)⟩)

abbrev qX2_hoursByCarters (h : fz_H) (a b : Int) : fz_H → Option fz_V → Prop := fun h' r0 => h' = h ∧ ∃ r : Int, r0 = some (fz_i r) ∧ ((-2) ≤ r ∧ r ≤ 9999)
set_option maxHeartbeats 1000000 in
set_option maxRecDepth 100000 in
theorem sX2_hoursByCarters (h : fz_H) (hI : fz_Iv h) (a b : Int) (hp0 : 0 ≤ a ∧ a < 8) (hp1 : 0 ≤ b ∧ b < 8) : fz_R 0 mX2_hoursByCarters 0 [(0, fz_r 1), (1, fz_i a), (2, fz_i b)] [] h (qX2_hoursByCarters h a b) := by
  refine fz_knowl (fun hk => ?_)
  have hr_a : -2147483648 ≤ a ∧ a < 2147483648 := hk _ (List.Mem.tail _ (List.Mem.head _))
  have hr_b : -2147483648 ≤ b ∧ b < 2147483648 := hk _ (List.Mem.tail _ (List.Mem.tail _ (List.Mem.head _)))
  clear hk
  refine fz_aload_n kX2_hoursByCarters rfl rfl ?_
  refine fz_getR (t := 8) kX2_hoursByCarters rfl rfl ?_
  refine fz_iload_n kX2_hoursByCarters rfl rfl ?_
  refine fz_bipush ⟨by decide, by decide⟩ kX2_hoursByCarters rfl ?_
  refine fz_imulN kX2_hoursByCarters rfl (by omega) ?_
  refine fz_iload_n kX2_hoursByCarters rfl rfl ?_
  refine fz_iaddN kX2_hoursByCarters rfl (by omega) ?_
  refine fz_ialdV (n := 64) (v := h 8 (((a * 8) + b).toNat)) kX2_hoursByCarters rfl rfl (by omega) (by omega) rfl ?_
  have b1 : 0 ≤ h 8 (((a * 8) + b).toNat) ∧ h 8 (((a * 8) + b).toNat) ≤ 1000000 := hI.1 8 _
  refine fz_istore_n (ls' := [(3, fz_i (h 8 (((a * 8) + b).toNat))), (0, fz_r 1), (1, fz_i a), (2, fz_i b)]) kX2_hoursByCarters rfl (by decide) rfl ?_
  refine fz_iload_n kX2_hoursByCarters rfl rfl ?_
  refine fz_ldc (x := 1000000) kX2_hoursByCarters rfl rfl rfl ?_
  refine fz_icmp_lt (tgt := 23) kX2_hoursByCarters rfl (by decide) (fun c2 => ?_) (fun c2 => ?_)
  · refine fz_iload_n kX2_hoursByCarters rfl rfl ?_
    refine fz_bipush ⟨by decide, by decide⟩ kX2_hoursByCarters rfl ?_
    refine fz_idivN kX2_hoursByCarters rfl (by omega) (by omega) (by omega) ?_
    exact fz_iret kX2_hoursByCarters rfl rfl (fun _ => ⟨rfl, _, rfl, (by omega)⟩)
  · refine fz_bipush ⟨by decide, by decide⟩ kX2_hoursByCarters rfl ?_
    refine fz_goto (tgt := 27) kX2_hoursByCarters rfl (by decide) ?_
    exact fz_iret kX2_hoursByCarters rfl rfl (fun _ => ⟨rfl, _, rfl, (by omega)⟩)

abbrev qX2_roadsByCarters (h : fz_H) (a b : Int) : fz_H → Option fz_V → Prop := fun h' r0 => h' = h ∧ ∃ r : Int, r0 = some (fz_i r) ∧ ((-2) ≤ r ∧ r ≤ 99)
set_option maxHeartbeats 1000000 in
set_option maxRecDepth 100000 in
theorem sX2_roadsByCarters (h : fz_H) (hI : fz_Iv h) (a b : Int) (hp0 : 0 ≤ a ∧ a < 8) (hp1 : 0 ≤ b ∧ b < 8) : fz_R 0 mX2_roadsByCarters 0 [(0, fz_r 1), (1, fz_i a), (2, fz_i b)] [] h (qX2_roadsByCarters h a b) := by
  refine fz_knowl (fun hk => ?_)
  have hr_a : -2147483648 ≤ a ∧ a < 2147483648 := hk _ (List.Mem.tail _ (List.Mem.head _))
  have hr_b : -2147483648 ≤ b ∧ b < 2147483648 := hk _ (List.Mem.tail _ (List.Mem.tail _ (List.Mem.head _)))
  clear hk
  refine fz_aload_n kX2_roadsByCarters rfl rfl ?_
  refine fz_getR (t := 8) kX2_roadsByCarters rfl rfl ?_
  refine fz_iload_n kX2_roadsByCarters rfl rfl ?_
  refine fz_bipush ⟨by decide, by decide⟩ kX2_roadsByCarters rfl ?_
  refine fz_imulN kX2_roadsByCarters rfl (by omega) ?_
  refine fz_iload_n kX2_roadsByCarters rfl rfl ?_
  refine fz_iaddN kX2_roadsByCarters rfl (by omega) ?_
  refine fz_ialdV (n := 64) (v := h 8 (((a * 8) + b).toNat)) kX2_roadsByCarters rfl rfl (by omega) (by omega) rfl ?_
  have b1 : 0 ≤ h 8 (((a * 8) + b).toNat) ∧ h 8 (((a * 8) + b).toNat) ≤ 1000000 := hI.1 8 _
  refine fz_istore_n (ls' := [(3, fz_i (h 8 (((a * 8) + b).toNat))), (0, fz_r 1), (1, fz_i a), (2, fz_i b)]) kX2_roadsByCarters rfl (by decide) rfl ?_
  refine fz_iload_n kX2_roadsByCarters rfl rfl ?_
  refine fz_ldc (x := 1000000) kX2_roadsByCarters rfl rfl rfl ?_
  refine fz_icmp_lt (tgt := 23) kX2_roadsByCarters rfl (by decide) (fun c2 => ?_) (fun c2 => ?_)
  · refine fz_iload_n kX2_roadsByCarters rfl rfl ?_
    refine fz_bipush ⟨by decide, by decide⟩ kX2_roadsByCarters rfl ?_
    refine fz_iremN kX2_roadsByCarters rfl (by omega) (by omega) (by omega) ?_
    exact fz_iret kX2_roadsByCarters rfl rfl (fun _ => ⟨rfl, _, rfl, (by omega)⟩)
  · refine fz_bipush ⟨by decide, by decide⟩ kX2_roadsByCarters rfl ?_
    refine fz_goto (tgt := 27) kX2_roadsByCarters rfl (by decide) ?_
    exact fz_iret kX2_roadsByCarters rfl rfl (fun _ => ⟨rfl, _, rfl, (by omega)⟩)

abbrev qJ7_fill_53178_7 (h : fz_H) (v : Int) : fz_H → Option fz_V → Prop := fun h' r0 => fz_Iv h' ∧ fz_fr [(7, 99999)] h h' ∧ r0 = none
set_option maxHeartbeats 1000000 in
set_option maxRecDepth 100000 in
theorem sJ7_fill_53178_7 (h : fz_H) (hI : fz_Iv h) (v : Int) (hp0 : 0 ≤ v ∧ v ≤ 1000000) : fz_R 0 mJ7_fill_53178 0 [(0, fz_r 7), (1, fz_i v)] [] h (qJ7_fill_53178_7 h v) := by
  refine fz_knowl (fun hk => ?_)
  have hr_v : -2147483648 ≤ v ∧ v < 2147483648 := hk _ (List.Mem.tail _ (List.Mem.head _))
  clear hk
  have hf : fz_fr [(7, 99999)] h h := fz_fr_rf
  refine fz_iconst ⟨by decide, by decide⟩ kJ7_fill_53178 rfl ?_
  refine fz_istore_n (ls' := [(2, fz_i 0), (0, fz_r 7), (1, fz_i v)]) kJ7_fill_53178 rfl (by decide) rfl ?_
  refine fz_aload_n kJ7_fill_53178 rfl rfl ?_
  refine fz_alen (n := 64) kJ7_fill_53178 rfl rfl (Or.inl rfl) (by decide) ?_
  refine fz_istore_n (ls' := [(3, fz_i 64), (2, fz_i 0), (0, fz_r 7), (1, fz_i v)]) kJ7_fill_53178 rfl (by decide) rfl ?_
  have lp6 : ∀ (n5 : Nat) (x1 : Int) (H2 : fz_H), fz_Iv H2 → fz_fr [(7, 99999)] h H2 → (0 ≤ x1 ∧ x1 ≤ 2147483647) → (64 - x1).toNat < n5 → fz_R 0 mJ7_fill_53178 5 [(3, fz_i 64), (2, fz_i x1), (0, fz_r 7), (1, fz_i v)] [] H2 (qJ7_fill_53178_7 h v) := by
    intro n5
    induction n5 with
    | zero => intro x1 H2 hI3 hf4 hv9 hm8; exact absurd hm8 (by omega)
    | succ n5 ih7 =>
      intro x1 H2 hI3 hf4 hv9 hm8
      refine fz_iload_n kJ7_fill_53178 rfl rfl ?_
      refine fz_iload_n kJ7_fill_53178 rfl rfl ?_
      refine fz_icmp_ge (tgt := 20) kJ7_fill_53178 rfl (by decide) (fun c10 => ?_) (fun c10 => ?_)
      · exact fz_vret kJ7_fill_53178 rfl rfl ⟨hI3, hf4, rfl⟩
      · refine fz_aload_n kJ7_fill_53178 rfl rfl ?_
        refine fz_iload_n kJ7_fill_53178 rfl rfl ?_
        refine fz_iload_n kJ7_fill_53178 rfl rfl ?_
        refine fz_iast (n := 64) kJ7_fill_53178 rfl rfl (by omega) (by omega) ?_
        refine fz_nmu (S := [(7, 99999)]) (h0 := h) (fz_Iv_up hI3 (by decide) (show (0 : Int) ≤ v by omega) (show (v : Int) ≤ 1000000 by omega)) (fz_fr_up hf4 rfl) (fun H11 hI12 hf13 e14 => ?_)
        clear e14
        refine fz_iincN (ls' := [(2, fz_i (x1 + 1)), (3, fz_i 64), (0, fz_r 7), (1, fz_i v)]) kJ7_fill_53178 rfl (by decide) rfl (by omega) rfl ?_
        refine fz_goto (tgt := 5) kJ7_fill_53178 rfl (by decide) ?_
        refine fz_sub (fz_pk_sub (ls' := [(3, fz_i 64), (2, fz_i (x1 + 1)), (0, fz_r 7), (1, fz_i v)]) [1, 0, 2, 3] rfl) ?_
        exact ih7 (x1 + 1) H11 hI12 hf13 (by omega) (by omega)
  exact lp6 _ 0 h hI hf (by omega) (Nat.lt_succ_self _)

abbrev qJ7_fill_53178_8 (h : fz_H) (v : Int) : fz_H → Option fz_V → Prop := fun h' r0 => fz_Iv h' ∧ fz_fr [(8, 99999)] h h' ∧ r0 = none
set_option maxHeartbeats 1000000 in
set_option maxRecDepth 100000 in
theorem sJ7_fill_53178_8 (h : fz_H) (hI : fz_Iv h) (v : Int) (hp0 : 0 ≤ v ∧ v ≤ 1000000) : fz_R 0 mJ7_fill_53178 0 [(0, fz_r 8), (1, fz_i v)] [] h (qJ7_fill_53178_8 h v) := by
  refine fz_knowl (fun hk => ?_)
  have hr_v : -2147483648 ≤ v ∧ v < 2147483648 := hk _ (List.Mem.tail _ (List.Mem.head _))
  clear hk
  have hf : fz_fr [(8, 99999)] h h := fz_fr_rf
  refine fz_iconst ⟨by decide, by decide⟩ kJ7_fill_53178 rfl ?_
  refine fz_istore_n (ls' := [(2, fz_i 0), (0, fz_r 8), (1, fz_i v)]) kJ7_fill_53178 rfl (by decide) rfl ?_
  refine fz_aload_n kJ7_fill_53178 rfl rfl ?_
  refine fz_alen (n := 64) kJ7_fill_53178 rfl rfl (Or.inl rfl) (by decide) ?_
  refine fz_istore_n (ls' := [(3, fz_i 64), (2, fz_i 0), (0, fz_r 8), (1, fz_i v)]) kJ7_fill_53178 rfl (by decide) rfl ?_
  have lp6 : ∀ (n5 : Nat) (x1 : Int) (H2 : fz_H), fz_Iv H2 → fz_fr [(8, 99999)] h H2 → (0 ≤ x1 ∧ x1 ≤ 2147483647) → (64 - x1).toNat < n5 → fz_R 0 mJ7_fill_53178 5 [(3, fz_i 64), (2, fz_i x1), (0, fz_r 8), (1, fz_i v)] [] H2 (qJ7_fill_53178_8 h v) := by
    intro n5
    induction n5 with
    | zero => intro x1 H2 hI3 hf4 hv9 hm8; exact absurd hm8 (by omega)
    | succ n5 ih7 =>
      intro x1 H2 hI3 hf4 hv9 hm8
      refine fz_iload_n kJ7_fill_53178 rfl rfl ?_
      refine fz_iload_n kJ7_fill_53178 rfl rfl ?_
      refine fz_icmp_ge (tgt := 20) kJ7_fill_53178 rfl (by decide) (fun c10 => ?_) (fun c10 => ?_)
      · exact fz_vret kJ7_fill_53178 rfl rfl ⟨hI3, hf4, rfl⟩
      · refine fz_aload_n kJ7_fill_53178 rfl rfl ?_
        refine fz_iload_n kJ7_fill_53178 rfl rfl ?_
        refine fz_iload_n kJ7_fill_53178 rfl rfl ?_
        refine fz_iast (n := 64) kJ7_fill_53178 rfl rfl (by omega) (by omega) ?_
        refine fz_nmu (S := [(8, 99999)]) (h0 := h) (fz_Iv_up hI3 (by decide) (show (0 : Int) ≤ v by omega) (show (v : Int) ≤ 1000000 by omega)) (fz_fr_up hf4 rfl) (fun H11 hI12 hf13 e14 => ?_)
        clear e14
        refine fz_iincN (ls' := [(2, fz_i (x1 + 1)), (3, fz_i 64), (0, fz_r 8), (1, fz_i v)]) kJ7_fill_53178 rfl (by decide) rfl (by omega) rfl ?_
        refine fz_goto (tgt := 5) kJ7_fill_53178 rfl (by decide) ?_
        refine fz_sub (fz_pk_sub (ls' := [(3, fz_i 64), (2, fz_i (x1 + 1)), (0, fz_r 8), (1, fz_i v)]) [1, 0, 2, 3] rfl) ?_
        exact ih7 (x1 + 1) H11 hI12 hf13 (by omega) (by omega)
  exact lp6 _ 0 h hI hf (by omega) (Nat.lt_succ_self _)

abbrev qJ7_fill_53178_29 (h : fz_H) (v : Int) : fz_H → Option fz_V → Prop := fun h' r0 => fz_Iv h' ∧ fz_fr [(29, 99999)] h h' ∧ r0 = none
set_option maxHeartbeats 1000000 in
set_option maxRecDepth 100000 in
theorem sJ7_fill_53178_29 (h : fz_H) (hI : fz_Iv h) (v : Int) : fz_R 0 mJ7_fill_53178 0 [(0, fz_r 29), (1, fz_i v)] [] h (qJ7_fill_53178_29 h v) := by
  refine fz_knowl (fun hk => ?_)
  have hr_v : -2147483648 ≤ v ∧ v < 2147483648 := hk _ (List.Mem.tail _ (List.Mem.head _))
  clear hk
  have hf : fz_fr [(29, 99999)] h h := fz_fr_rf
  refine fz_iconst ⟨by decide, by decide⟩ kJ7_fill_53178 rfl ?_
  refine fz_istore_n (ls' := [(2, fz_i 0), (0, fz_r 29), (1, fz_i v)]) kJ7_fill_53178 rfl (by decide) rfl ?_
  refine fz_aload_n kJ7_fill_53178 rfl rfl ?_
  refine fz_alen (n := 5) kJ7_fill_53178 rfl rfl (Or.inl rfl) (by decide) ?_
  refine fz_istore_n (ls' := [(3, fz_i 5), (2, fz_i 0), (0, fz_r 29), (1, fz_i v)]) kJ7_fill_53178 rfl (by decide) rfl ?_
  have lp6 : ∀ (n5 : Nat) (x1 : Int) (H2 : fz_H), fz_Iv H2 → fz_fr [(29, 99999)] h H2 → (0 ≤ x1 ∧ x1 ≤ 2147483647) → (5 - x1).toNat < n5 → fz_R 0 mJ7_fill_53178 5 [(3, fz_i 5), (2, fz_i x1), (0, fz_r 29), (1, fz_i v)] [] H2 (qJ7_fill_53178_29 h v) := by
    intro n5
    induction n5 with
    | zero => intro x1 H2 hI3 hf4 hv9 hm8; exact absurd hm8 (by omega)
    | succ n5 ih7 =>
      intro x1 H2 hI3 hf4 hv9 hm8
      refine fz_iload_n kJ7_fill_53178 rfl rfl ?_
      refine fz_iload_n kJ7_fill_53178 rfl rfl ?_
      refine fz_icmp_ge (tgt := 20) kJ7_fill_53178 rfl (by decide) (fun c10 => ?_) (fun c10 => ?_)
      · exact fz_vret kJ7_fill_53178 rfl rfl ⟨hI3, hf4, rfl⟩
      · refine fz_aload_n kJ7_fill_53178 rfl rfl ?_
        refine fz_iload_n kJ7_fill_53178 rfl rfl ?_
        refine fz_iload_n kJ7_fill_53178 rfl rfl ?_
        refine fz_iast (n := 5) kJ7_fill_53178 rfl rfl (by omega) (by omega) ?_
        refine fz_nmu (S := [(29, 99999)]) (h0 := h) (fz_Iv_up hI3 (by decide) (show ((-2147483648) : Int) ≤ v by omega) (show (v : Int) ≤ 2147483647 by omega)) (fz_fr_up hf4 rfl) (fun H11 hI12 hf13 e14 => ?_)
        clear e14
        refine fz_iincN (ls' := [(2, fz_i (x1 + 1)), (3, fz_i 5), (0, fz_r 29), (1, fz_i v)]) kJ7_fill_53178 rfl (by decide) rfl (by omega) rfl ?_
        refine fz_goto (tgt := 5) kJ7_fill_53178 rfl (by decide) ?_
        refine fz_sub (fz_pk_sub (ls' := [(3, fz_i 5), (2, fz_i (x1 + 1)), (0, fz_r 29), (1, fz_i v)]) [1, 0, 2, 3] rfl) ?_
        exact ih7 (x1 + 1) H11 hI12 hf13 (by omega) (by omega)
  exact lp6 _ 0 h hI hf (by omega) (Nat.lt_succ_self _)

abbrev qJ7_fill_53178_34 (h : fz_H) (v : Int) : fz_H → Option fz_V → Prop := fun h' r0 => fz_Iv h' ∧ fz_fr [(34, 99999)] h h' ∧ r0 = none
set_option maxHeartbeats 1000000 in
set_option maxRecDepth 100000 in
theorem sJ7_fill_53178_34 (h : fz_H) (hI : fz_Iv h) (v : Int) : fz_R 0 mJ7_fill_53178 0 [(0, fz_r 34), (1, fz_i v)] [] h (qJ7_fill_53178_34 h v) := by
  refine fz_knowl (fun hk => ?_)
  have hr_v : -2147483648 ≤ v ∧ v < 2147483648 := hk _ (List.Mem.tail _ (List.Mem.head _))
  clear hk
  have hf : fz_fr [(34, 99999)] h h := fz_fr_rf
  refine fz_iconst ⟨by decide, by decide⟩ kJ7_fill_53178 rfl ?_
  refine fz_istore_n (ls' := [(2, fz_i 0), (0, fz_r 34), (1, fz_i v)]) kJ7_fill_53178 rfl (by decide) rfl ?_
  refine fz_aload_n kJ7_fill_53178 rfl rfl ?_
  refine fz_alen (n := 776) kJ7_fill_53178 rfl rfl (Or.inl rfl) (by decide) ?_
  refine fz_istore_n (ls' := [(3, fz_i 776), (2, fz_i 0), (0, fz_r 34), (1, fz_i v)]) kJ7_fill_53178 rfl (by decide) rfl ?_
  have lp6 : ∀ (n5 : Nat) (x1 : Int) (H2 : fz_H), fz_Iv H2 → fz_fr [(34, 99999)] h H2 → (0 ≤ x1 ∧ x1 ≤ 2147483647) → (776 - x1).toNat < n5 → fz_R 0 mJ7_fill_53178 5 [(3, fz_i 776), (2, fz_i x1), (0, fz_r 34), (1, fz_i v)] [] H2 (qJ7_fill_53178_34 h v) := by
    intro n5
    induction n5 with
    | zero => intro x1 H2 hI3 hf4 hv9 hm8; exact absurd hm8 (by omega)
    | succ n5 ih7 =>
      intro x1 H2 hI3 hf4 hv9 hm8
      refine fz_iload_n kJ7_fill_53178 rfl rfl ?_
      refine fz_iload_n kJ7_fill_53178 rfl rfl ?_
      refine fz_icmp_ge (tgt := 20) kJ7_fill_53178 rfl (by decide) (fun c10 => ?_) (fun c10 => ?_)
      · exact fz_vret kJ7_fill_53178 rfl rfl ⟨hI3, hf4, rfl⟩
      · refine fz_aload_n kJ7_fill_53178 rfl rfl ?_
        refine fz_iload_n kJ7_fill_53178 rfl rfl ?_
        refine fz_iload_n kJ7_fill_53178 rfl rfl ?_
        refine fz_iast (n := 776) kJ7_fill_53178 rfl rfl (by omega) (by omega) ?_
        refine fz_nmu (S := [(34, 99999)]) (h0 := h) (fz_Iv_up hI3 (by decide) (show ((-2147483648) : Int) ≤ v by omega) (show (v : Int) ≤ 2147483647 by omega)) (fz_fr_up hf4 rfl) (fun H11 hI12 hf13 e14 => ?_)
        clear e14
        refine fz_iincN (ls' := [(2, fz_i (x1 + 1)), (3, fz_i 776), (0, fz_r 34), (1, fz_i v)]) kJ7_fill_53178 rfl (by decide) rfl (by omega) rfl ?_
        refine fz_goto (tgt := 5) kJ7_fill_53178 rfl (by decide) ?_
        refine fz_sub (fz_pk_sub (ls' := [(3, fz_i 776), (2, fz_i (x1 + 1)), (0, fz_r 34), (1, fz_i v)]) [1, 0, 2, 3] rfl) ?_
        exact ih7 (x1 + 1) H11 hI12 hf13 (by omega) (by omega)
  exact lp6 _ 0 h hI hf (by omega) (Nat.lt_succ_self _)

abbrev qJ7_fill_d0a16_32 (h : fz_H) (v : Int) : fz_H → Option fz_V → Prop := fun h' r0 => fz_Iv h' ∧ fz_fr [(32, 99999)] h h' ∧ r0 = none
set_option maxHeartbeats 1000000 in
set_option maxRecDepth 100000 in
theorem sJ7_fill_d0a16_32 (h : fz_H) (hI : fz_Iv h) (v : Int) : fz_R 0 mJ7_fill_d0a16 0 [(0, fz_r 32), (1, fz_l v)] [] h (qJ7_fill_d0a16_32 h v) := by
  refine fz_knowl (fun hk => ?_)
  have hr_v : -9223372036854775808 ≤ v ∧ v < 9223372036854775808 := hk _ (List.Mem.tail _ (List.Mem.head _))
  clear hk
  have hf : fz_fr [(32, 99999)] h h := fz_fr_rf
  refine fz_iconst ⟨by decide, by decide⟩ kJ7_fill_d0a16 rfl ?_
  refine fz_istore_n (ls' := [(3, fz_i 0), (0, fz_r 32), (1, fz_l v)]) kJ7_fill_d0a16 rfl (by decide) rfl ?_
  refine fz_aload_n kJ7_fill_d0a16 rfl rfl ?_
  refine fz_alen (n := 5) kJ7_fill_d0a16 rfl rfl (Or.inr rfl) (by decide) ?_
  refine fz_istore (ls' := [(4, fz_i 5), (3, fz_i 0), (0, fz_r 32), (1, fz_l v)]) kJ7_fill_d0a16 rfl (by decide) rfl ?_
  have lp6 : ∀ (n5 : Nat) (x1 : Int) (H2 : fz_H), fz_Iv H2 → fz_fr [(32, 99999)] h H2 → (0 ≤ x1 ∧ x1 ≤ 2147483647) → (5 - x1).toNat < n5 → fz_R 0 mJ7_fill_d0a16 6 [(4, fz_i 5), (3, fz_i x1), (0, fz_r 32), (1, fz_l v)] [] H2 (qJ7_fill_d0a16_32 h v) := by
    intro n5
    induction n5 with
    | zero => intro x1 H2 hI3 hf4 hv9 hm8; exact absurd hm8 (by omega)
    | succ n5 ih7 =>
      intro x1 H2 hI3 hf4 hv9 hm8
      refine fz_iload_n kJ7_fill_d0a16 rfl rfl ?_
      refine fz_iload kJ7_fill_d0a16 rfl rfl ?_
      refine fz_icmp_ge (tgt := 22) kJ7_fill_d0a16 rfl (by decide) (fun c10 => ?_) (fun c10 => ?_)
      · exact fz_vret kJ7_fill_d0a16 rfl rfl ⟨hI3, hf4, rfl⟩
      · refine fz_aload_n kJ7_fill_d0a16 rfl rfl ?_
        refine fz_iload_n kJ7_fill_d0a16 rfl rfl ?_
        refine fz_lload_n kJ7_fill_d0a16 rfl rfl ?_
        refine fz_last (n := 5) kJ7_fill_d0a16 rfl rfl (by omega) (by omega) ?_
        refine fz_nmu (S := [(32, 99999)]) (h0 := h) (fz_Iv_up hI3 (by decide) (show ((-9223372036854775808) : Int) ≤ v by omega) (show (v : Int) ≤ 9223372036854775807 by omega)) (fz_fr_up hf4 rfl) (fun H11 hI12 hf13 e14 => ?_)
        clear e14
        refine fz_iincN (ls' := [(3, fz_i (x1 + 1)), (4, fz_i 5), (0, fz_r 32), (1, fz_l v)]) kJ7_fill_d0a16 rfl (by decide) rfl (by omega) rfl ?_
        refine fz_goto (tgt := 6) kJ7_fill_d0a16 rfl (by decide) ?_
        refine fz_sub (fz_pk_sub (ls' := [(4, fz_i 5), (3, fz_i (x1 + 1)), (0, fz_r 32), (1, fz_l v)]) [1, 0, 2, 3] rfl) ?_
        exact ih7 (x1 + 1) H11 hI12 hf13 (by omega) (by omega)
  exact lp6 _ 0 h hI hf (by omega) (Nat.lt_succ_self _)

abbrev qJ7_rangeCheck_23922 (h : fz_H) (n a b : Int) : fz_H → Option fz_V → Prop := fun h' r0 => h' = h ∧ r0 = none
set_option maxHeartbeats 1000000 in
set_option maxRecDepth 100000 in
theorem sJ7_rangeCheck_23922 (h : fz_H) (hI : fz_Iv h) (n a b : Int) (hp0 : 0 ≤ a ∧ a ≤ b ∧ b ≤ n) : fz_R 0 mJ7_rangeCheck_23922 0 [(0, fz_i n), (1, fz_i a), (2, fz_i b)] [] h (qJ7_rangeCheck_23922 h n a b) := by
  refine fz_knowl (fun hk => ?_)
  have hr_n : -2147483648 ≤ n ∧ n < 2147483648 := hk _ (List.Mem.head _)
  have hr_a : -2147483648 ≤ a ∧ a < 2147483648 := hk _ (List.Mem.tail _ (List.Mem.head _))
  have hr_b : -2147483648 ≤ b ∧ b < 2147483648 := hk _ (List.Mem.tail _ (List.Mem.tail _ (List.Mem.head _)))
  clear hk
  refine fz_iload_n kJ7_rangeCheck_23922 rfl rfl ?_
  refine fz_iload_n kJ7_rangeCheck_23922 rfl rfl ?_
  refine fz_icmp_le (tgt := 46) kJ7_rangeCheck_23922 rfl (by decide) (fun c1 => ?_) (fun c1 => ?_)
  · refine fz_iload_n kJ7_rangeCheck_23922 rfl rfl ?_
    refine fz_if_ge (tgt := 59) kJ7_rangeCheck_23922 rfl (by decide) (fun c2 => ?_) (fun c2 => ?_)
    · refine fz_iload_n kJ7_rangeCheck_23922 rfl rfl ?_
      refine fz_iload_n kJ7_rangeCheck_23922 rfl rfl ?_
      refine fz_icmp_le (tgt := 73) kJ7_rangeCheck_23922 rfl (by decide) (fun c3 => ?_) (fun c3 => ?_)
      · exact fz_vret kJ7_rangeCheck_23922 rfl rfl ⟨rfl, rfl⟩
      · exfalso; omega
    · exfalso; omega
  · exfalso; omega

abbrev qJ7_fill_bad5a_52 (h : fz_H) (a b v : Int) : fz_H → Option fz_V → Prop := fun h' r0 => fz_Iv h' ∧ fz_fr [(52, 99999)] h h' ∧ r0 = none ∧ h' = fz_fill h 52 a.toNat b.toNat v
set_option maxHeartbeats 1000000 in
set_option maxRecDepth 100000 in
theorem sJ7_fill_bad5a_52 (h : fz_H) (hI : fz_Iv h) (a b v : Int) (hp0 : 0 ≤ a ∧ a ≤ b ∧ b ≤ 360) : fz_R 1 mJ7_fill_bad5a 0 [(0, fz_r 52), (1, fz_i a), (2, fz_i b), (3, fz_l v)] [] h (qJ7_fill_bad5a_52 h a b v) := by
  refine fz_knowl (fun hk => ?_)
  have hr_a : -2147483648 ≤ a ∧ a < 2147483648 := hk _ (List.Mem.tail _ (List.Mem.head _))
  have hr_b : -2147483648 ≤ b ∧ b < 2147483648 := hk _ (List.Mem.tail _ (List.Mem.tail _ (List.Mem.head _)))
  have hr_v : -9223372036854775808 ≤ v ∧ v < 9223372036854775808 := hk _ (List.Mem.tail _ (List.Mem.tail _ (List.Mem.tail _ (List.Mem.head _))))
  clear hk
  have hf : fz_fr [(52, 99999)] h h := fz_fr_rf
  refine fz_aload_n kJ7_fill_bad5a rfl rfl ?_
  refine fz_alen (n := 360) kJ7_fill_bad5a rfl rfl (Or.inr rfl) (by decide) ?_
  refine fz_iload_n kJ7_fill_bad5a rfl rfl ?_
  refine fz_iload_n kJ7_fill_bad5a rfl rfl ?_
  refine fz_callS (d' := 0) (M' := mJ7_rangeCheck_23922) (As := [fz_i 360, fz_i a, fz_i b]) (st := []) kJ7_fill_bad5a rfl rfl vJ7_rangeCheck_23922 rfl rfl (Nat.le_of_ble_eq_true rfl) (Nat.le_of_ble_eq_true rfl) (by decide) (sJ7_rangeCheck_23922 h hI 360 a b (by omega)) (fun H1 r2 q3 o4 => ?_)
  obtain ⟨e5, rfl⟩ := q3
  subst H1
  clear o4
  refine fz_iload_n kJ7_fill_bad5a rfl rfl ?_
  refine fz_istore (ls' := [(5, fz_i a), (0, fz_r 52), (1, fz_i a), (2, fz_i b), (3, fz_l v)]) kJ7_fill_bad5a rfl (by decide) rfl ?_
  have lp11 : ∀ (n10 : Nat) (x6 : Int) (H7 : fz_H), fz_Iv H7 → fz_fr [(52, 99999)] h H7 → (0 ≤ x6 ∧ x6 ≤ 2147483647) → (a ≤ x6) → (x6 ≤ b) → (H7 = fz_fill h 52 a.toNat (x6 : Int).toNat v) → (b - x6).toNat < n10 → fz_R 1 mJ7_fill_bad5a 10 [(5, fz_i x6), (0, fz_r 52), (1, fz_i a), (2, fz_i b), (3, fz_l v)] [] H7 (qJ7_fill_bad5a_52 h a b v) := by
    intro n10
    induction n10 with
    | zero => intro x6 H7 hI8 hf9 hv14 hv15 hv16 hv17 hm13; exact absurd hm13 (by omega)
    | succ n10 ih12 =>
      intro x6 H7 hI8 hf9 hv14 hv15 hv16 hv17 hm13
      refine fz_iload kJ7_fill_bad5a rfl rfl ?_
      refine fz_iload_n kJ7_fill_bad5a rfl rfl ?_
      refine fz_icmp_ge (tgt := 27) kJ7_fill_bad5a rfl (by decide) (fun c18 => ?_) (fun c18 => ?_)
      · exact fz_vret kJ7_fill_bad5a rfl rfl ⟨hI8, hf9, rfl, (by exact fz_fill_e hv17 (by omega))⟩
      · refine fz_aload_n kJ7_fill_bad5a rfl rfl ?_
        refine fz_iload kJ7_fill_bad5a rfl rfl ?_
        refine fz_lload_n kJ7_fill_bad5a rfl rfl ?_
        refine fz_last (n := 360) kJ7_fill_bad5a rfl rfl (by omega) (by omega) ?_
        refine fz_nmu (S := [(52, 99999)]) (h0 := h) (fz_Iv_up hI8 (by decide) (show ((-9223372036854775808) : Int) ≤ v by omega) (show (v : Int) ≤ 9223372036854775807 by omega)) (fz_fr_up hf9 rfl) (fun H20 hI21 hf22 e23 => ?_)
        refine fz_iincN (ls' := [(5, fz_i (x6 + 1)), (0, fz_r 52), (1, fz_i a), (2, fz_i b), (3, fz_l v)]) kJ7_fill_bad5a rfl (by decide) rfl (by omega) rfl ?_
        refine fz_goto (tgt := 10) kJ7_fill_bad5a rfl (by decide) ?_
        exact ih12 (x6 + 1) H20 hI21 hf22 (by omega) (by omega) (by omega) (fz_fill_st hv17 e23 rfl rfl (by omega) (by omega)) (by omega)
  exact lp11 _ a h hI hf (by omega) (by omega) (by omega) (fz_fill_0.symm) (Nat.lt_succ_self _)

abbrev qX2_shorten_7 (h : fz_H) (rd hr : Int) : fz_H → Option fz_V → Prop := fun h' r0 => fz_Iv h' ∧ fz_fr [(7, 99999)] h h' ∧ r0 = none
set_option maxHeartbeats 1000000 in
set_option maxRecDepth 100000 in
theorem sX2_shorten_7 (h : fz_H) (hI : fz_Iv h) (rd hr : Int) (hp0 : 0 ≤ rd ∧ rd < 12) (hp1 : 0 ≤ hr ∧ hr ≤ 24) : fz_R 1 mX2_shorten 0 [(0, fz_r 1), (1, fz_r 7), (2, fz_i rd), (3, fz_i hr)] [] h (qX2_shorten_7 h rd hr) := by
  refine fz_knowl (fun hk => ?_)
  have hr_rd : -2147483648 ≤ rd ∧ rd < 2147483648 := hk _ (List.Mem.tail _ (List.Mem.tail _ (List.Mem.head _)))
  have hr_hr : -2147483648 ≤ hr ∧ hr < 2147483648 := hk _ (List.Mem.tail _ (List.Mem.tail _ (List.Mem.tail _ (List.Mem.head _))))
  clear hk
  have hf : fz_fr [(7, 99999)] h h := fz_fr_rf
  refine fz_aload_n kX2_shorten rfl rfl ?_
  refine fz_getR (t := 5) kX2_shorten rfl rfl ?_
  refine fz_iload_n kX2_shorten rfl rfl ?_
  refine fz_ialdV (n := 12) (v := h 5 (rd.toNat)) kX2_shorten rfl rfl (by omega) (by omega) rfl ?_
  have b1 : 0 ≤ h 5 (rd.toNat) ∧ h 5 (rd.toNat) ≤ 7 := hI.1 5 _
  refine fz_bipush ⟨by decide, by decide⟩ kX2_shorten rfl ?_
  refine fz_imulN kX2_shorten rfl (by omega) ?_
  refine fz_aload_n kX2_shorten rfl rfl ?_
  refine fz_getR (t := 6) kX2_shorten rfl rfl ?_
  refine fz_iload_n kX2_shorten rfl rfl ?_
  refine fz_ialdV (n := 12) (v := h 6 (rd.toNat)) kX2_shorten rfl rfl (by omega) (by omega) rfl ?_
  have b2 : 0 ≤ h 6 (rd.toNat) ∧ h 6 (rd.toNat) ≤ 7 := hI.1 6 _
  refine fz_iaddN kX2_shorten rfl (by omega) ?_
  refine fz_istore (ls' := [(4, fz_i (((h 5 (rd.toNat)) * 8) + (h 6 (rd.toNat)))), (0, fz_r 1), (1, fz_r 7), (2, fz_i rd), (3, fz_i hr)]) kX2_shorten rfl (by decide) rfl ?_
  refine fz_aload_n kX2_shorten rfl rfl ?_
  refine fz_getR (t := 6) kX2_shorten rfl rfl ?_
  refine fz_iload_n kX2_shorten rfl rfl ?_
  refine fz_ialdV (n := 12) (v := h 6 (rd.toNat)) kX2_shorten rfl rfl (by omega) (by omega) rfl ?_
  refine fz_bipush ⟨by decide, by decide⟩ kX2_shorten rfl ?_
  refine fz_imulN kX2_shorten rfl (by omega) ?_
  refine fz_aload_n kX2_shorten rfl rfl ?_
  refine fz_getR (t := 5) kX2_shorten rfl rfl ?_
  refine fz_iload_n kX2_shorten rfl rfl ?_
  refine fz_ialdV (n := 12) (v := h 5 (rd.toNat)) kX2_shorten rfl rfl (by omega) (by omega) rfl ?_
  refine fz_iaddN kX2_shorten rfl (by omega) ?_
  refine fz_istore (ls' := [(5, fz_i (((h 6 (rd.toNat)) * 8) + (h 5 (rd.toNat)))), (4, fz_i (((h 5 (rd.toNat)) * 8) + (h 6 (rd.toNat)))), (0, fz_r 1), (1, fz_r 7), (2, fz_i rd), (3, fz_i hr)]) kX2_shorten rfl (by decide) rfl ?_
  refine fz_aload_n kX2_shorten rfl rfl ?_
  refine fz_iload kX2_shorten rfl rfl ?_
  refine fz_ialdV (n := 64) (v := h 7 ((((h 5 (rd.toNat)) * 8) + (h 6 (rd.toNat))).toNat)) kX2_shorten rfl rfl (by omega) (by omega) rfl ?_
  have b3 : 0 ≤ h 7 ((((h 5 (rd.toNat)) * 8) + (h 6 (rd.toNat))).toNat) ∧ h 7 ((((h 5 (rd.toNat)) * 8) + (h 6 (rd.toNat))).toNat) ≤ 1000000 := hI.1 7 _
  refine fz_iload_n kX2_shorten rfl rfl ?_
  refine fz_bipush ⟨by decide, by decide⟩ kX2_shorten rfl ?_
  refine fz_imulN kX2_shorten rfl (by omega) ?_
  refine fz_iconst ⟨by decide, by decide⟩ kX2_shorten rfl ?_
  refine fz_iaddN kX2_shorten rfl (by omega) ?_
  refine fz_min kX2_shorten rfl rfl fz_sMn fz_iMm fz_cMn (by decide) (Nat.le_of_ble_eq_true rfl) ?_
  refine fz_istore (ls' := [(6, fz_i (min (h 7 ((((h 5 (rd.toNat)) * 8) + (h 6 (rd.toNat))).toNat)) ((hr * 100) + 1))), (5, fz_i (((h 6 (rd.toNat)) * 8) + (h 5 (rd.toNat)))), (4, fz_i (((h 5 (rd.toNat)) * 8) + (h 6 (rd.toNat)))), (0, fz_r 1), (1, fz_r 7), (2, fz_i rd), (3, fz_i hr)]) kX2_shorten rfl (by decide) rfl ?_
  refine fz_aload_n kX2_shorten rfl rfl ?_
  refine fz_iload kX2_shorten rfl rfl ?_
  refine fz_iload kX2_shorten rfl rfl ?_
  refine fz_iast (n := 64) kX2_shorten rfl rfl (by omega) (by omega) ?_
  refine fz_nmu (S := [(7, 99999)]) (h0 := h) (fz_Iv_up hI (by decide) (show (0 : Int) ≤ (min (h 7 ((((h 5 (rd.toNat)) * 8) + (h 6 (rd.toNat))).toNat)) ((hr * 100) + 1)) by omega) (show ((min (h 7 ((((h 5 (rd.toNat)) * 8) + (h 6 (rd.toNat))).toNat)) ((hr * 100) + 1)) : Int) ≤ 1000000 by omega)) (fz_fr_up hf rfl) (fun H4 hI5 hf6 e7 => ?_)
  clear e7
  refine fz_aload_n kX2_shorten rfl rfl ?_
  refine fz_iload kX2_shorten rfl rfl ?_
  refine fz_iload kX2_shorten rfl rfl ?_
  refine fz_iast (n := 64) kX2_shorten rfl rfl (by omega) (by omega) ?_
  refine fz_nmu (S := [(7, 99999)]) (h0 := h) (fz_Iv_up hI5 (by decide) (show (0 : Int) ≤ (min (h 7 ((((h 5 (rd.toNat)) * 8) + (h 6 (rd.toNat))).toNat)) ((hr * 100) + 1)) by omega) (show ((min (h 7 ((((h 5 (rd.toNat)) * 8) + (h 6 (rd.toNat))).toNat)) ((hr * 100) + 1)) : Int) ≤ 1000000 by omega)) (fz_fr_up hf6 rfl) (fun H8 hI9 hf10 e11 => ?_)
  clear e11
  exact fz_vret kX2_shorten rfl rfl ⟨hI9, hf10, rfl⟩

abbrev qX2_join_7 (h : fz_H) : fz_H → Option fz_V → Prop := fun h' r0 => fz_Iv h' ∧ fz_fr [(7, 99999)] h h' ∧ r0 = none
set_option maxHeartbeats 1000000 in
set_option maxRecDepth 100000 in
theorem sX2_join_7 (h : fz_H) (hI : fz_Iv h) : fz_R 0 mX2_join 0 [(0, fz_r 1), (1, fz_r 7)] [] h (qX2_join_7 h) := by
  have hf : fz_fr [(7, 99999)] h h := fz_fr_rf
  refine fz_iconst ⟨by decide, by decide⟩ kX2_join rfl ?_
  refine fz_istore_n (ls' := [(2, fz_i 0), (0, fz_r 1), (1, fz_r 7)]) kX2_join rfl (by decide) rfl ?_
  have lp6 : ∀ (n5 : Nat) (x1 : Int) (H2 : fz_H), fz_Iv H2 → fz_fr [(7, 99999)] h H2 → (0 ≤ x1 ∧ x1 ≤ 2147483647) → ((h 1 7) - x1).toNat < n5 → fz_R 0 mX2_join 2 [(2, fz_i x1), (0, fz_r 1), (1, fz_r 7)] [] H2 (qX2_join_7 h) := by
    intro n5
    induction n5 with
    | zero => intro x1 H2 hI3 hf4 hv9 hm8; exact absurd hm8 (by omega)
    | succ n5 ih7 =>
      intro x1 H2 hI3 hf4 hv9 hm8
      refine fz_iload_n kX2_join rfl rfl ?_
      refine fz_aload_n kX2_join rfl rfl ?_
      refine fz_getV (v := h 1 7) kX2_join rfl rfl (hf4 1 7 rfl) ?_
      have b10 : 0 ≤ h 1 7 ∧ h 1 7 ≤ 8 := hI.1 1 _
      refine fz_icmp_ge (tgt := 95) kX2_join rfl (by decide) (fun c11 => ?_) (fun c11 => ?_)
      · exact fz_vret kX2_join rfl rfl ⟨hI3, hf4, rfl⟩
      · refine fz_iconst ⟨by decide, by decide⟩ kX2_join rfl ?_
        refine fz_istore_n (ls' := [(3, fz_i 0), (2, fz_i x1), (0, fz_r 1), (1, fz_r 7)]) kX2_join rfl (by decide) rfl ?_
        have lp17 : ∀ (n16 : Nat) (x12 : Int) (H13 : fz_H), fz_Iv H13 → fz_fr [(7, 99999)] h H13 → (0 ≤ x12 ∧ x12 ≤ 2147483647) → ((h 1 7) - x12).toNat < n16 → fz_R 0 mX2_join 12 [(3, fz_i x12), (2, fz_i x1), (0, fz_r 1), (1, fz_r 7)] [] H13 (qX2_join_7 h) := by
          intro n16
          induction n16 with
          | zero => intro x12 H13 hI14 hf15 hv20 hm19; exact absurd hm19 (by omega)
          | succ n16 ih18 =>
            intro x12 H13 hI14 hf15 hv20 hm19
            refine fz_iload_n kX2_join rfl rfl ?_
            refine fz_aload_n kX2_join rfl rfl ?_
            refine fz_getV (v := h 1 7) kX2_join rfl rfl (hf15 1 7 rfl) ?_
            refine fz_icmp_ge (tgt := 89) kX2_join rfl (by decide) (fun c21 => ?_) (fun c21 => ?_)
            · refine fz_iincN (ls' := [(2, fz_i (x1 + 1)), (3, fz_i x12), (0, fz_r 1), (1, fz_r 7)]) kX2_join rfl (by decide) rfl (by omega) rfl ?_
              refine fz_goto (tgt := 2) kX2_join rfl (by decide) ?_
              refine fz_sub (fz_pk_sub (ls' := [(2, fz_i (x1 + 1)), (0, fz_r 1), (1, fz_r 7)]) [0, 2, 3] rfl) ?_
              exact ih7 (x1 + 1) H13 hI14 hf15 (by omega) (by omega)
            · refine fz_iconst ⟨by decide, by decide⟩ kX2_join rfl ?_
              refine fz_istore (ls' := [(4, fz_i 0), (3, fz_i x12), (2, fz_i x1), (0, fz_r 1), (1, fz_r 7)]) kX2_join rfl (by decide) rfl ?_
              have lp27 : ∀ (n26 : Nat) (x22 : Int) (H23 : fz_H), fz_Iv H23 → fz_fr [(7, 99999)] h H23 → (0 ≤ x22 ∧ x22 ≤ 2147483647) → ((h 1 7) - x22).toNat < n26 → fz_R 0 mX2_join 23 [(4, fz_i x22), (3, fz_i x12), (2, fz_i x1), (0, fz_r 1), (1, fz_r 7)] [] H23 (qX2_join_7 h) := by
                intro n26
                induction n26 with
                | zero => intro x22 H23 hI24 hf25 hv30 hm29; exact absurd hm29 (by omega)
                | succ n26 ih28 =>
                  intro x22 H23 hI24 hf25 hv30 hm29
                  refine fz_iload kX2_join rfl rfl ?_
                  refine fz_aload_n kX2_join rfl rfl ?_
                  refine fz_getV (v := h 1 7) kX2_join rfl rfl (hf25 1 7 rfl) ?_
                  refine fz_icmp_ge (tgt := 83) kX2_join rfl (by decide) (fun c31 => ?_) (fun c31 => ?_)
                  · refine fz_iincN (ls' := [(3, fz_i (x12 + 1)), (4, fz_i x22), (2, fz_i x1), (0, fz_r 1), (1, fz_r 7)]) kX2_join rfl (by decide) rfl (by omega) rfl ?_
                    refine fz_goto (tgt := 12) kX2_join rfl (by decide) ?_
                    refine fz_sub (fz_pk_sub (ls' := [(3, fz_i (x12 + 1)), (2, fz_i x1), (0, fz_r 1), (1, fz_r 7)]) [0, 2, 3, 4] rfl) ?_
                    exact ih18 (x12 + 1) H23 hI24 hf25 (by omega) (by omega)
                  · refine fz_aload_n kX2_join rfl rfl ?_
                    refine fz_iload_n kX2_join rfl rfl ?_
                    refine fz_bipush ⟨by decide, by decide⟩ kX2_join rfl ?_
                    refine fz_imulN kX2_join rfl (by omega) ?_
                    refine fz_iload_n kX2_join rfl rfl ?_
                    refine fz_iaddN kX2_join rfl (by omega) ?_
                    obtain ⟨v32, e33⟩ : ∃ z, H23 7 (((x12 * 8) + x1).toNat) = z := ⟨_, rfl⟩
                    refine fz_ialdV (n := 64) (v := v32) kX2_join rfl rfl (by omega) (by omega) e33 ?_
                    have b34 : 0 ≤ v32 ∧ v32 ≤ 1000000 := by rw [← e33]; exact hI24.1 7 _
                    refine fz_aload_n kX2_join rfl rfl ?_
                    refine fz_iload_n kX2_join rfl rfl ?_
                    refine fz_bipush ⟨by decide, by decide⟩ kX2_join rfl ?_
                    refine fz_imulN kX2_join rfl (by omega) ?_
                    refine fz_iload kX2_join rfl rfl ?_
                    refine fz_iaddN kX2_join rfl (by omega) ?_
                    obtain ⟨v35, e36⟩ : ∃ z, H23 7 (((x1 * 8) + x22).toNat) = z := ⟨_, rfl⟩
                    refine fz_ialdV (n := 64) (v := v35) kX2_join rfl rfl (by omega) (by omega) e36 ?_
                    have b37 : 0 ≤ v35 ∧ v35 ≤ 1000000 := by rw [← e36]; exact hI24.1 7 _
                    refine fz_iaddN kX2_join rfl (by omega) ?_
                    refine fz_istore (ls' := [(5, fz_i (v32 + v35)), (4, fz_i x22), (3, fz_i x12), (2, fz_i x1), (0, fz_r 1), (1, fz_r 7)]) kX2_join rfl (by decide) rfl ?_
                    refine fz_iload kX2_join rfl rfl ?_
                    refine fz_aload_n kX2_join rfl rfl ?_
                    refine fz_iload_n kX2_join rfl rfl ?_
                    refine fz_bipush ⟨by decide, by decide⟩ kX2_join rfl ?_
                    refine fz_imulN kX2_join rfl (by omega) ?_
                    refine fz_iload kX2_join rfl rfl ?_
                    refine fz_iaddN kX2_join rfl (by omega) ?_
                    obtain ⟨v38, e39⟩ : ∃ z, H23 7 (((x12 * 8) + x22).toNat) = z := ⟨_, rfl⟩
                    refine fz_ialdV (n := 64) (v := v38) kX2_join rfl rfl (by omega) (by omega) e39 ?_
                    have b40 : 0 ≤ v38 ∧ v38 ≤ 1000000 := by rw [← e39]; exact hI24.1 7 _
                    refine fz_icmp_ge (tgt := 77) kX2_join rfl (by decide) (fun c41 => ?_) (fun c41 => ?_)
                    · refine fz_iincN (ls' := [(4, fz_i (x22 + 1)), (5, fz_i (v32 + v35)), (3, fz_i x12), (2, fz_i x1), (0, fz_r 1), (1, fz_r 7)]) kX2_join rfl (by decide) rfl (by omega) rfl ?_
                      refine fz_goto (tgt := 23) kX2_join rfl (by decide) ?_
                      refine fz_sub (fz_pk_sub (ls' := [(4, fz_i (x22 + 1)), (3, fz_i x12), (2, fz_i x1), (0, fz_r 1), (1, fz_r 7)]) [0, 2, 3, 4, 5] rfl) ?_
                      exact ih28 (x22 + 1) H23 hI24 hf25 (by omega) (by omega)
                    · refine fz_aload_n kX2_join rfl rfl ?_
                      refine fz_iload_n kX2_join rfl rfl ?_
                      refine fz_bipush ⟨by decide, by decide⟩ kX2_join rfl ?_
                      refine fz_imulN kX2_join rfl (by omega) ?_
                      refine fz_iload kX2_join rfl rfl ?_
                      refine fz_iaddN kX2_join rfl (by omega) ?_
                      refine fz_iload kX2_join rfl rfl ?_
                      refine fz_iast (n := 64) kX2_join rfl rfl (by omega) (by omega) ?_
                      refine fz_nmu (S := [(7, 99999)]) (h0 := h) (fz_Iv_up hI24 (by decide) (show (0 : Int) ≤ (v32 + v35) by omega) (show ((v32 + v35) : Int) ≤ 1000000 by omega)) (fz_fr_up hf25 rfl) (fun H42 hI43 hf44 e45 => ?_)
                      clear e45
                      refine fz_iincN (ls' := [(4, fz_i (x22 + 1)), (5, fz_i (v32 + v35)), (3, fz_i x12), (2, fz_i x1), (0, fz_r 1), (1, fz_r 7)]) kX2_join rfl (by decide) rfl (by omega) rfl ?_
                      refine fz_goto (tgt := 23) kX2_join rfl (by decide) ?_
                      refine fz_sub (fz_pk_sub (ls' := [(4, fz_i (x22 + 1)), (3, fz_i x12), (2, fz_i x1), (0, fz_r 1), (1, fz_r 7)]) [0, 2, 3, 4, 5] rfl) ?_
                      exact ih28 (x22 + 1) H42 hI43 hf44 (by omega) (by omega)
              exact lp27 _ 0 H13 hI14 hf15 (by omega) (Nat.lt_succ_self _)
        exact lp17 _ 0 H2 hI3 hf4 (by omega) (Nat.lt_succ_self _)
  exact lp6 _ 0 h hI hf (by omega) (Nat.lt_succ_self _)

abbrev qX2_shorten_8 (h : fz_H) (rd hr : Int) : fz_H → Option fz_V → Prop := fun h' r0 => fz_Iv h' ∧ fz_fr [(8, 99999)] h h' ∧ r0 = none
set_option maxHeartbeats 1000000 in
set_option maxRecDepth 100000 in
theorem sX2_shorten_8 (h : fz_H) (hI : fz_Iv h) (rd hr : Int) (hp0 : 0 ≤ rd ∧ rd < 12) (hp1 : 0 ≤ hr ∧ hr ≤ 24) : fz_R 1 mX2_shorten 0 [(0, fz_r 1), (1, fz_r 8), (2, fz_i rd), (3, fz_i hr)] [] h (qX2_shorten_8 h rd hr) := by
  refine fz_knowl (fun hk => ?_)
  have hr_rd : -2147483648 ≤ rd ∧ rd < 2147483648 := hk _ (List.Mem.tail _ (List.Mem.tail _ (List.Mem.head _)))
  have hr_hr : -2147483648 ≤ hr ∧ hr < 2147483648 := hk _ (List.Mem.tail _ (List.Mem.tail _ (List.Mem.tail _ (List.Mem.head _))))
  clear hk
  have hf : fz_fr [(8, 99999)] h h := fz_fr_rf
  refine fz_aload_n kX2_shorten rfl rfl ?_
  refine fz_getR (t := 5) kX2_shorten rfl rfl ?_
  refine fz_iload_n kX2_shorten rfl rfl ?_
  refine fz_ialdV (n := 12) (v := h 5 (rd.toNat)) kX2_shorten rfl rfl (by omega) (by omega) rfl ?_
  have b1 : 0 ≤ h 5 (rd.toNat) ∧ h 5 (rd.toNat) ≤ 7 := hI.1 5 _
  refine fz_bipush ⟨by decide, by decide⟩ kX2_shorten rfl ?_
  refine fz_imulN kX2_shorten rfl (by omega) ?_
  refine fz_aload_n kX2_shorten rfl rfl ?_
  refine fz_getR (t := 6) kX2_shorten rfl rfl ?_
  refine fz_iload_n kX2_shorten rfl rfl ?_
  refine fz_ialdV (n := 12) (v := h 6 (rd.toNat)) kX2_shorten rfl rfl (by omega) (by omega) rfl ?_
  have b2 : 0 ≤ h 6 (rd.toNat) ∧ h 6 (rd.toNat) ≤ 7 := hI.1 6 _
  refine fz_iaddN kX2_shorten rfl (by omega) ?_
  refine fz_istore (ls' := [(4, fz_i (((h 5 (rd.toNat)) * 8) + (h 6 (rd.toNat)))), (0, fz_r 1), (1, fz_r 8), (2, fz_i rd), (3, fz_i hr)]) kX2_shorten rfl (by decide) rfl ?_
  refine fz_aload_n kX2_shorten rfl rfl ?_
  refine fz_getR (t := 6) kX2_shorten rfl rfl ?_
  refine fz_iload_n kX2_shorten rfl rfl ?_
  refine fz_ialdV (n := 12) (v := h 6 (rd.toNat)) kX2_shorten rfl rfl (by omega) (by omega) rfl ?_
  refine fz_bipush ⟨by decide, by decide⟩ kX2_shorten rfl ?_
  refine fz_imulN kX2_shorten rfl (by omega) ?_
  refine fz_aload_n kX2_shorten rfl rfl ?_
  refine fz_getR (t := 5) kX2_shorten rfl rfl ?_
  refine fz_iload_n kX2_shorten rfl rfl ?_
  refine fz_ialdV (n := 12) (v := h 5 (rd.toNat)) kX2_shorten rfl rfl (by omega) (by omega) rfl ?_
  refine fz_iaddN kX2_shorten rfl (by omega) ?_
  refine fz_istore (ls' := [(5, fz_i (((h 6 (rd.toNat)) * 8) + (h 5 (rd.toNat)))), (4, fz_i (((h 5 (rd.toNat)) * 8) + (h 6 (rd.toNat)))), (0, fz_r 1), (1, fz_r 8), (2, fz_i rd), (3, fz_i hr)]) kX2_shorten rfl (by decide) rfl ?_
  refine fz_aload_n kX2_shorten rfl rfl ?_
  refine fz_iload kX2_shorten rfl rfl ?_
  refine fz_ialdV (n := 64) (v := h 8 ((((h 5 (rd.toNat)) * 8) + (h 6 (rd.toNat))).toNat)) kX2_shorten rfl rfl (by omega) (by omega) rfl ?_
  have b3 : 0 ≤ h 8 ((((h 5 (rd.toNat)) * 8) + (h 6 (rd.toNat))).toNat) ∧ h 8 ((((h 5 (rd.toNat)) * 8) + (h 6 (rd.toNat))).toNat) ≤ 1000000 := hI.1 8 _
  refine fz_iload_n kX2_shorten rfl rfl ?_
  refine fz_bipush ⟨by decide, by decide⟩ kX2_shorten rfl ?_
  refine fz_imulN kX2_shorten rfl (by omega) ?_
  refine fz_iconst ⟨by decide, by decide⟩ kX2_shorten rfl ?_
  refine fz_iaddN kX2_shorten rfl (by omega) ?_
  refine fz_min kX2_shorten rfl rfl fz_sMn fz_iMm fz_cMn (by decide) (Nat.le_of_ble_eq_true rfl) ?_
  refine fz_istore (ls' := [(6, fz_i (min (h 8 ((((h 5 (rd.toNat)) * 8) + (h 6 (rd.toNat))).toNat)) ((hr * 100) + 1))), (5, fz_i (((h 6 (rd.toNat)) * 8) + (h 5 (rd.toNat)))), (4, fz_i (((h 5 (rd.toNat)) * 8) + (h 6 (rd.toNat)))), (0, fz_r 1), (1, fz_r 8), (2, fz_i rd), (3, fz_i hr)]) kX2_shorten rfl (by decide) rfl ?_
  refine fz_aload_n kX2_shorten rfl rfl ?_
  refine fz_iload kX2_shorten rfl rfl ?_
  refine fz_iload kX2_shorten rfl rfl ?_
  refine fz_iast (n := 64) kX2_shorten rfl rfl (by omega) (by omega) ?_
  refine fz_nmu (S := [(8, 99999)]) (h0 := h) (fz_Iv_up hI (by decide) (show (0 : Int) ≤ (min (h 8 ((((h 5 (rd.toNat)) * 8) + (h 6 (rd.toNat))).toNat)) ((hr * 100) + 1)) by omega) (show ((min (h 8 ((((h 5 (rd.toNat)) * 8) + (h 6 (rd.toNat))).toNat)) ((hr * 100) + 1)) : Int) ≤ 1000000 by omega)) (fz_fr_up hf rfl) (fun H4 hI5 hf6 e7 => ?_)
  clear e7
  refine fz_aload_n kX2_shorten rfl rfl ?_
  refine fz_iload kX2_shorten rfl rfl ?_
  refine fz_iload kX2_shorten rfl rfl ?_
  refine fz_iast (n := 64) kX2_shorten rfl rfl (by omega) (by omega) ?_
  refine fz_nmu (S := [(8, 99999)]) (h0 := h) (fz_Iv_up hI5 (by decide) (show (0 : Int) ≤ (min (h 8 ((((h 5 (rd.toNat)) * 8) + (h 6 (rd.toNat))).toNat)) ((hr * 100) + 1)) by omega) (show ((min (h 8 ((((h 5 (rd.toNat)) * 8) + (h 6 (rd.toNat))).toNat)) ((hr * 100) + 1)) : Int) ≤ 1000000 by omega)) (fz_fr_up hf6 rfl) (fun H8 hI9 hf10 e11 => ?_)
  clear e11
  exact fz_vret kX2_shorten rfl rfl ⟨hI9, hf10, rfl⟩

abbrev qX2_join_8 (h : fz_H) : fz_H → Option fz_V → Prop := fun h' r0 => fz_Iv h' ∧ fz_fr [(8, 99999)] h h' ∧ r0 = none
set_option maxHeartbeats 1000000 in
set_option maxRecDepth 100000 in
theorem sX2_join_8 (h : fz_H) (hI : fz_Iv h) : fz_R 0 mX2_join 0 [(0, fz_r 1), (1, fz_r 8)] [] h (qX2_join_8 h) := by
  have hf : fz_fr [(8, 99999)] h h := fz_fr_rf
  refine fz_iconst ⟨by decide, by decide⟩ kX2_join rfl ?_
  refine fz_istore_n (ls' := [(2, fz_i 0), (0, fz_r 1), (1, fz_r 8)]) kX2_join rfl (by decide) rfl ?_
  have lp6 : ∀ (n5 : Nat) (x1 : Int) (H2 : fz_H), fz_Iv H2 → fz_fr [(8, 99999)] h H2 → (0 ≤ x1 ∧ x1 ≤ 2147483647) → ((h 1 7) - x1).toNat < n5 → fz_R 0 mX2_join 2 [(2, fz_i x1), (0, fz_r 1), (1, fz_r 8)] [] H2 (qX2_join_8 h) := by
    intro n5
    induction n5 with
    | zero => intro x1 H2 hI3 hf4 hv9 hm8; exact absurd hm8 (by omega)
    | succ n5 ih7 =>
      intro x1 H2 hI3 hf4 hv9 hm8
      refine fz_iload_n kX2_join rfl rfl ?_
      refine fz_aload_n kX2_join rfl rfl ?_
      refine fz_getV (v := h 1 7) kX2_join rfl rfl (hf4 1 7 rfl) ?_
      have b10 : 0 ≤ h 1 7 ∧ h 1 7 ≤ 8 := hI.1 1 _
      refine fz_icmp_ge (tgt := 95) kX2_join rfl (by decide) (fun c11 => ?_) (fun c11 => ?_)
      · exact fz_vret kX2_join rfl rfl ⟨hI3, hf4, rfl⟩
      · refine fz_iconst ⟨by decide, by decide⟩ kX2_join rfl ?_
        refine fz_istore_n (ls' := [(3, fz_i 0), (2, fz_i x1), (0, fz_r 1), (1, fz_r 8)]) kX2_join rfl (by decide) rfl ?_
        have lp17 : ∀ (n16 : Nat) (x12 : Int) (H13 : fz_H), fz_Iv H13 → fz_fr [(8, 99999)] h H13 → (0 ≤ x12 ∧ x12 ≤ 2147483647) → ((h 1 7) - x12).toNat < n16 → fz_R 0 mX2_join 12 [(3, fz_i x12), (2, fz_i x1), (0, fz_r 1), (1, fz_r 8)] [] H13 (qX2_join_8 h) := by
          intro n16
          induction n16 with
          | zero => intro x12 H13 hI14 hf15 hv20 hm19; exact absurd hm19 (by omega)
          | succ n16 ih18 =>
            intro x12 H13 hI14 hf15 hv20 hm19
            refine fz_iload_n kX2_join rfl rfl ?_
            refine fz_aload_n kX2_join rfl rfl ?_
            refine fz_getV (v := h 1 7) kX2_join rfl rfl (hf15 1 7 rfl) ?_
            refine fz_icmp_ge (tgt := 89) kX2_join rfl (by decide) (fun c21 => ?_) (fun c21 => ?_)
            · refine fz_iincN (ls' := [(2, fz_i (x1 + 1)), (3, fz_i x12), (0, fz_r 1), (1, fz_r 8)]) kX2_join rfl (by decide) rfl (by omega) rfl ?_
              refine fz_goto (tgt := 2) kX2_join rfl (by decide) ?_
              refine fz_sub (fz_pk_sub (ls' := [(2, fz_i (x1 + 1)), (0, fz_r 1), (1, fz_r 8)]) [0, 2, 3] rfl) ?_
              exact ih7 (x1 + 1) H13 hI14 hf15 (by omega) (by omega)
            · refine fz_iconst ⟨by decide, by decide⟩ kX2_join rfl ?_
              refine fz_istore (ls' := [(4, fz_i 0), (3, fz_i x12), (2, fz_i x1), (0, fz_r 1), (1, fz_r 8)]) kX2_join rfl (by decide) rfl ?_
              have lp27 : ∀ (n26 : Nat) (x22 : Int) (H23 : fz_H), fz_Iv H23 → fz_fr [(8, 99999)] h H23 → (0 ≤ x22 ∧ x22 ≤ 2147483647) → ((h 1 7) - x22).toNat < n26 → fz_R 0 mX2_join 23 [(4, fz_i x22), (3, fz_i x12), (2, fz_i x1), (0, fz_r 1), (1, fz_r 8)] [] H23 (qX2_join_8 h) := by
                intro n26
                induction n26 with
                | zero => intro x22 H23 hI24 hf25 hv30 hm29; exact absurd hm29 (by omega)
                | succ n26 ih28 =>
                  intro x22 H23 hI24 hf25 hv30 hm29
                  refine fz_iload kX2_join rfl rfl ?_
                  refine fz_aload_n kX2_join rfl rfl ?_
                  refine fz_getV (v := h 1 7) kX2_join rfl rfl (hf25 1 7 rfl) ?_
                  refine fz_icmp_ge (tgt := 83) kX2_join rfl (by decide) (fun c31 => ?_) (fun c31 => ?_)
                  · refine fz_iincN (ls' := [(3, fz_i (x12 + 1)), (4, fz_i x22), (2, fz_i x1), (0, fz_r 1), (1, fz_r 8)]) kX2_join rfl (by decide) rfl (by omega) rfl ?_
                    refine fz_goto (tgt := 12) kX2_join rfl (by decide) ?_
                    refine fz_sub (fz_pk_sub (ls' := [(3, fz_i (x12 + 1)), (2, fz_i x1), (0, fz_r 1), (1, fz_r 8)]) [0, 2, 3, 4] rfl) ?_
                    exact ih18 (x12 + 1) H23 hI24 hf25 (by omega) (by omega)
                  · refine fz_aload_n kX2_join rfl rfl ?_
                    refine fz_iload_n kX2_join rfl rfl ?_
                    refine fz_bipush ⟨by decide, by decide⟩ kX2_join rfl ?_
                    refine fz_imulN kX2_join rfl (by omega) ?_
                    refine fz_iload_n kX2_join rfl rfl ?_
                    refine fz_iaddN kX2_join rfl (by omega) ?_
                    obtain ⟨v32, e33⟩ : ∃ z, H23 8 (((x12 * 8) + x1).toNat) = z := ⟨_, rfl⟩
                    refine fz_ialdV (n := 64) (v := v32) kX2_join rfl rfl (by omega) (by omega) e33 ?_
                    have b34 : 0 ≤ v32 ∧ v32 ≤ 1000000 := by rw [← e33]; exact hI24.1 8 _
                    refine fz_aload_n kX2_join rfl rfl ?_
                    refine fz_iload_n kX2_join rfl rfl ?_
                    refine fz_bipush ⟨by decide, by decide⟩ kX2_join rfl ?_
                    refine fz_imulN kX2_join rfl (by omega) ?_
                    refine fz_iload kX2_join rfl rfl ?_
                    refine fz_iaddN kX2_join rfl (by omega) ?_
                    obtain ⟨v35, e36⟩ : ∃ z, H23 8 (((x1 * 8) + x22).toNat) = z := ⟨_, rfl⟩
                    refine fz_ialdV (n := 64) (v := v35) kX2_join rfl rfl (by omega) (by omega) e36 ?_
                    have b37 : 0 ≤ v35 ∧ v35 ≤ 1000000 := by rw [← e36]; exact hI24.1 8 _
                    refine fz_iaddN kX2_join rfl (by omega) ?_
                    refine fz_istore (ls' := [(5, fz_i (v32 + v35)), (4, fz_i x22), (3, fz_i x12), (2, fz_i x1), (0, fz_r 1), (1, fz_r 8)]) kX2_join rfl (by decide) rfl ?_
                    refine fz_iload kX2_join rfl rfl ?_
                    refine fz_aload_n kX2_join rfl rfl ?_
                    refine fz_iload_n kX2_join rfl rfl ?_
                    refine fz_bipush ⟨by decide, by decide⟩ kX2_join rfl ?_
                    refine fz_imulN kX2_join rfl (by omega) ?_
                    refine fz_iload kX2_join rfl rfl ?_
                    refine fz_iaddN kX2_join rfl (by omega) ?_
                    obtain ⟨v38, e39⟩ : ∃ z, H23 8 (((x12 * 8) + x22).toNat) = z := ⟨_, rfl⟩
                    refine fz_ialdV (n := 64) (v := v38) kX2_join rfl rfl (by omega) (by omega) e39 ?_
                    have b40 : 0 ≤ v38 ∧ v38 ≤ 1000000 := by rw [← e39]; exact hI24.1 8 _
                    refine fz_icmp_ge (tgt := 77) kX2_join rfl (by decide) (fun c41 => ?_) (fun c41 => ?_)
                    · refine fz_iincN (ls' := [(4, fz_i (x22 + 1)), (5, fz_i (v32 + v35)), (3, fz_i x12), (2, fz_i x1), (0, fz_r 1), (1, fz_r 8)]) kX2_join rfl (by decide) rfl (by omega) rfl ?_
                      refine fz_goto (tgt := 23) kX2_join rfl (by decide) ?_
                      refine fz_sub (fz_pk_sub (ls' := [(4, fz_i (x22 + 1)), (3, fz_i x12), (2, fz_i x1), (0, fz_r 1), (1, fz_r 8)]) [0, 2, 3, 4, 5] rfl) ?_
                      exact ih28 (x22 + 1) H23 hI24 hf25 (by omega) (by omega)
                    · refine fz_aload_n kX2_join rfl rfl ?_
                      refine fz_iload_n kX2_join rfl rfl ?_
                      refine fz_bipush ⟨by decide, by decide⟩ kX2_join rfl ?_
                      refine fz_imulN kX2_join rfl (by omega) ?_
                      refine fz_iload kX2_join rfl rfl ?_
                      refine fz_iaddN kX2_join rfl (by omega) ?_
                      refine fz_iload kX2_join rfl rfl ?_
                      refine fz_iast (n := 64) kX2_join rfl rfl (by omega) (by omega) ?_
                      refine fz_nmu (S := [(8, 99999)]) (h0 := h) (fz_Iv_up hI24 (by decide) (show (0 : Int) ≤ (v32 + v35) by omega) (show ((v32 + v35) : Int) ≤ 1000000 by omega)) (fz_fr_up hf25 rfl) (fun H42 hI43 hf44 e45 => ?_)
                      clear e45
                      refine fz_iincN (ls' := [(4, fz_i (x22 + 1)), (5, fz_i (v32 + v35)), (3, fz_i x12), (2, fz_i x1), (0, fz_r 1), (1, fz_r 8)]) kX2_join rfl (by decide) rfl (by omega) rfl ?_
                      refine fz_goto (tgt := 23) kX2_join rfl (by decide) ?_
                      refine fz_sub (fz_pk_sub (ls' := [(4, fz_i (x22 + 1)), (3, fz_i x12), (2, fz_i x1), (0, fz_r 1), (1, fz_r 8)]) [0, 2, 3, 4, 5] rfl) ?_
                      exact ih28 (x22 + 1) H42 hI43 hf44 (by omega) (by omega)
              exact lp27 _ 0 H13 hI14 hf15 (by omega) (Nat.lt_succ_self _)
        exact lp17 _ 0 H2 hI3 hf4 (by omega) (Nat.lt_succ_self _)
  exact lp6 _ 0 h hI hf (by omega) (Nat.lt_succ_self _)

abbrev qX2_measure (h : fz_H) : fz_H → Option fz_V → Prop := fun h' r0 => fz_Iv h' ∧ fz_fr [(7, 99999), (8, 99999)] h h' ∧ r0 = none
set_option maxHeartbeats 1000000 in
set_option maxRecDepth 100000 in
theorem sX2_measure (h : fz_H) (hI : fz_Iv h) : fz_R 2 mX2_measure 0 [(0, fz_r 1)] [] h (qX2_measure h) := by
  have hf : fz_fr [(7, 99999), (8, 99999)] h h := fz_fr_rf
  refine fz_aload_n kX2_measure rfl rfl ?_
  refine fz_getR (t := 7) kX2_measure rfl rfl ?_
  refine fz_ldc (x := 1000000) kX2_measure rfl rfl rfl ?_
  refine fz_callS (d' := 0) (M' := mJ7_fill_53178) (As := [fz_r 7, fz_i 1000000]) (st := []) kX2_measure rfl rfl vJ7_fill_53178 rfl rfl (Nat.le_of_ble_eq_true rfl) (Nat.le_of_ble_eq_true rfl) (by decide) (sJ7_fill_53178_7 h hI 1000000 (by omega)) (fun H1 r2 q3 o4 => ?_)
  obtain ⟨hI5, hf6, rfl⟩ := q3
  clear o4
  have hf7 := fz_fr_tr hf hf6 (show fz_su [(7, 99999)] [(7, 99999), (8, 99999)] = true from rfl)
  refine fz_aload_n kX2_measure rfl rfl ?_
  refine fz_getR (t := 8) kX2_measure rfl rfl ?_
  refine fz_ldc (x := 1000000) kX2_measure rfl rfl rfl ?_
  refine fz_callS (d' := 0) (M' := mJ7_fill_53178) (As := [fz_r 8, fz_i 1000000]) (st := []) kX2_measure rfl rfl vJ7_fill_53178 rfl rfl (Nat.le_of_ble_eq_true rfl) (Nat.le_of_ble_eq_true rfl) (by decide) (sJ7_fill_53178_8 H1 hI5 1000000 (by omega)) (fun H8 r9 q10 o11 => ?_)
  obtain ⟨hI12, hf13, rfl⟩ := q10
  clear o11
  have hf14 := fz_fr_tr hf7 hf13 (show fz_su [(8, 99999)] [(7, 99999), (8, 99999)] = true from rfl)
  refine fz_iconst ⟨by decide, by decide⟩ kX2_measure rfl ?_
  refine fz_istore_n (ls' := [(1, fz_i 0), (0, fz_r 1)]) kX2_measure rfl (by decide) rfl ?_
  have lp20 : ∀ (n19 : Nat) (x15 : Int) (H16 : fz_H), fz_Iv H16 → fz_fr [(7, 99999), (8, 99999)] h H16 → (0 ≤ x15 ∧ x15 ≤ 2147483647) → ((h 1 7) - x15).toNat < n19 → fz_R 2 mX2_measure 20 [(1, fz_i x15), (0, fz_r 1)] [] H16 (qX2_measure h) := by
    intro n19
    induction n19 with
    | zero => intro x15 H16 hI17 hf18 hv23 hm22; exact absurd hm22 (by omega)
    | succ n19 ih21 =>
      intro x15 H16 hI17 hf18 hv23 hm22
      refine fz_iload_n kX2_measure rfl rfl ?_
      refine fz_aload_n kX2_measure rfl rfl ?_
      refine fz_getV (v := h 1 7) kX2_measure rfl rfl (hf18 1 7 rfl) ?_
      have b24 : 0 ≤ h 1 7 ∧ h 1 7 ≤ 8 := hI.1 1 _
      refine fz_icmp_ge (tgt := 58) kX2_measure rfl (by decide) (fun c25 => ?_) (fun c25 => ?_)
      · refine fz_iconst ⟨by decide, by decide⟩ kX2_measure rfl ?_
        refine fz_istore_n (ls' := [(1, fz_i 0), (0, fz_r 1)]) kX2_measure rfl (by decide) rfl ?_
        have lp31 : ∀ (n30 : Nat) (x26 : Int) (H27 : fz_H), fz_Iv H27 → fz_fr [(7, 99999), (8, 99999)] h H27 → (0 ≤ x26 ∧ x26 ≤ 2147483647) → ((h 1 8) - x26).toNat < n30 → fz_R 2 mX2_measure 60 [(1, fz_i x26), (0, fz_r 1)] [] H27 (qX2_measure h) := by
          intro n30
          induction n30 with
          | zero => intro x26 H27 hI28 hf29 hv34 hm33; exact absurd hm33 (by omega)
          | succ n30 ih32 =>
            intro x26 H27 hI28 hf29 hv34 hm33
            refine fz_iload_n kX2_measure rfl rfl ?_
            refine fz_aload_n kX2_measure rfl rfl ?_
            refine fz_getV (v := h 1 8) kX2_measure rfl rfl (hf29 1 8 rfl) ?_
            have b35 : 0 ≤ h 1 8 ∧ h 1 8 ≤ 12 := hI.1 1 _
            refine fz_icmp_ge (tgt := 118) kX2_measure rfl (by decide) (fun c36 => ?_) (fun c36 => ?_)
            · refine fz_aload_n kX2_measure rfl rfl ?_
              refine fz_aload_n kX2_measure rfl rfl ?_
              refine fz_getR (t := 7) kX2_measure rfl rfl ?_
              refine fz_callV (d' := 0) (M' := mX2_join) (As := [fz_r 7]) (st := []) kX2_measure rfl rfl vX2_join rfl rfl rfl rfl (Nat.le_of_ble_eq_true rfl) (Nat.le_of_ble_eq_true rfl) (by decide) (sX2_join_7 H27 hI28  ) (fun H37 r38 q39 o40 => ?_)
              obtain ⟨hI41, hf42, rfl⟩ := q39
              clear o40
              have hf43 := fz_fr_tr hf29 hf42 (show fz_su [(7, 99999)] [(7, 99999), (8, 99999)] = true from rfl)
              refine fz_aload_n kX2_measure rfl rfl ?_
              refine fz_aload_n kX2_measure rfl rfl ?_
              refine fz_getR (t := 8) kX2_measure rfl rfl ?_
              refine fz_callV (d' := 0) (M' := mX2_join) (As := [fz_r 8]) (st := []) kX2_measure rfl rfl vX2_join rfl rfl rfl rfl (Nat.le_of_ble_eq_true rfl) (Nat.le_of_ble_eq_true rfl) (by decide) (sX2_join_8 H37 hI41  ) (fun H44 r45 q46 o47 => ?_)
              obtain ⟨hI48, hf49, rfl⟩ := q46
              clear o47
              have hf50 := fz_fr_tr hf43 hf49 (show fz_su [(8, 99999)] [(7, 99999), (8, 99999)] = true from rfl)
              exact fz_vret kX2_measure rfl rfl ⟨hI48, hf50, rfl⟩
            · refine fz_aload_n kX2_measure rfl rfl ?_
              refine fz_aload_n kX2_measure rfl rfl ?_
              refine fz_getR (t := 7) kX2_measure rfl rfl ?_
              refine fz_iload_n kX2_measure rfl rfl ?_
              refine fz_aload_n kX2_measure rfl rfl ?_
              refine fz_getR (t := 3) kX2_measure rfl rfl ?_
              refine fz_iload_n kX2_measure rfl rfl ?_
              refine fz_ialdV (n := 12) (v := h 3 (x26.toNat)) kX2_measure rfl rfl (by omega) (by omega) (hf29 3 _ rfl) ?_
              have b51 : 0 ≤ h 3 (x26.toNat) ∧ h 3 (x26.toNat) ≤ 24 := hI.1 3 _
              refine fz_callV (d' := 1) (M' := mX2_shorten) (As := [fz_r 7, fz_i x26, fz_i (h 3 (x26.toNat))]) (st := []) kX2_measure rfl rfl vX2_shorten rfl rfl rfl rfl (Nat.le_of_ble_eq_true rfl) (Nat.le_of_ble_eq_true rfl) (by decide) (sX2_shorten_7 H27 hI28 x26 (h 3 (x26.toNat)) (by omega) (by omega)) (fun H52 r53 q54 o55 => ?_)
              obtain ⟨hI56, hf57, rfl⟩ := q54
              clear o55
              have hf58 := fz_fr_tr hf29 hf57 (show fz_su [(7, 99999)] [(7, 99999), (8, 99999)] = true from rfl)
              refine fz_aload_n kX2_measure rfl rfl ?_
              refine fz_getR (t := 4) kX2_measure rfl rfl ?_
              refine fz_iload_n kX2_measure rfl rfl ?_
              refine fz_ialdV (n := 12) (v := h 4 (x26.toNat)) kX2_measure rfl rfl (by omega) (by omega) (hf58 4 _ rfl) ?_
              have b59 : 0 ≤ h 4 (x26.toNat) ∧ h 4 (x26.toNat) ≤ 1 := hI.1 4 _
              refine fz_iconst ⟨by decide, by decide⟩ kX2_measure rfl ?_
              refine fz_icmp_ne (tgt := 112) kX2_measure rfl (by decide) (fun c60 => ?_) (fun c60 => ?_)
              · refine fz_iincN (ls' := [(1, fz_i (x26 + 1)), (0, fz_r 1)]) kX2_measure rfl (by decide) rfl (by omega) rfl ?_
                refine fz_goto (tgt := 60) kX2_measure rfl (by decide) ?_
                exact ih32 (x26 + 1) H52 hI56 hf58 (by omega) (by omega)
              · refine fz_aload_n kX2_measure rfl rfl ?_
                refine fz_aload_n kX2_measure rfl rfl ?_
                refine fz_getR (t := 8) kX2_measure rfl rfl ?_
                refine fz_iload_n kX2_measure rfl rfl ?_
                refine fz_aload_n kX2_measure rfl rfl ?_
                refine fz_getR (t := 3) kX2_measure rfl rfl ?_
                refine fz_iload_n kX2_measure rfl rfl ?_
                refine fz_ialdV (n := 12) (v := h 3 (x26.toNat)) kX2_measure rfl rfl (by omega) (by omega) (hf58 3 _ rfl) ?_
                refine fz_iconst ⟨by decide, by decide⟩ kX2_measure rfl ?_
                refine fz_iaddN kX2_measure rfl (by omega) ?_
                refine fz_iconst ⟨by decide, by decide⟩ kX2_measure rfl ?_
                refine fz_idivN kX2_measure rfl (by omega) (by omega) (by omega) ?_
                refine fz_callV (d' := 1) (M' := mX2_shorten) (As := [fz_r 8, fz_i x26, fz_i (((h 3 (x26.toNat)) + 1) / 2)]) (st := []) kX2_measure rfl rfl vX2_shorten rfl rfl rfl rfl (Nat.le_of_ble_eq_true rfl) (Nat.le_of_ble_eq_true rfl) (by decide) (sX2_shorten_8 H52 hI56 x26 (((h 3 (x26.toNat)) + 1) / 2) (by omega) (by omega)) (fun H61 r62 q63 o64 => ?_)
                obtain ⟨hI65, hf66, rfl⟩ := q63
                clear o64
                have hf67 := fz_fr_tr hf58 hf66 (show fz_su [(8, 99999)] [(7, 99999), (8, 99999)] = true from rfl)
                refine fz_iincN (ls' := [(1, fz_i (x26 + 1)), (0, fz_r 1)]) kX2_measure rfl (by decide) rfl (by omega) rfl ?_
                refine fz_goto (tgt := 60) kX2_measure rfl (by decide) ?_
                exact ih32 (x26 + 1) H61 hI65 hf67 (by omega) (by omega)
        exact lp31 _ 0 H16 hI17 hf18 (by omega) (Nat.lt_succ_self _)
      · refine fz_aload_n kX2_measure rfl rfl ?_
        refine fz_getR (t := 7) kX2_measure rfl rfl ?_
        refine fz_iload_n kX2_measure rfl rfl ?_
        refine fz_bipush ⟨by decide, by decide⟩ kX2_measure rfl ?_
        refine fz_imulN kX2_measure rfl (by omega) ?_
        refine fz_iload_n kX2_measure rfl rfl ?_
        refine fz_iaddN kX2_measure rfl (by omega) ?_
        refine fz_iconst ⟨by decide, by decide⟩ kX2_measure rfl ?_
        refine fz_iast (n := 64) kX2_measure rfl rfl (by omega) (by omega) ?_
        refine fz_nmu (S := [(7, 99999), (8, 99999)]) (h0 := h) (fz_Iv_up hI17 (by decide) (show (0 : Int) ≤ 0 by decide) (show (0 : Int) ≤ 1000000 by decide)) (fz_fr_up hf18 rfl) (fun H68 hI69 hf70 e71 => ?_)
        clear e71
        refine fz_aload_n kX2_measure rfl rfl ?_
        refine fz_getR (t := 8) kX2_measure rfl rfl ?_
        refine fz_iload_n kX2_measure rfl rfl ?_
        refine fz_bipush ⟨by decide, by decide⟩ kX2_measure rfl ?_
        refine fz_imulN kX2_measure rfl (by omega) ?_
        refine fz_iload_n kX2_measure rfl rfl ?_
        refine fz_iaddN kX2_measure rfl (by omega) ?_
        refine fz_iconst ⟨by decide, by decide⟩ kX2_measure rfl ?_
        refine fz_iast (n := 64) kX2_measure rfl rfl (by omega) (by omega) ?_
        refine fz_nmu (S := [(7, 99999), (8, 99999)]) (h0 := h) (fz_Iv_up hI69 (by decide) (show (0 : Int) ≤ 0 by decide) (show (0 : Int) ≤ 1000000 by decide)) (fz_fr_up hf70 rfl) (fun H72 hI73 hf74 e75 => ?_)
        clear e75
        refine fz_iincN (ls' := [(1, fz_i (x15 + 1)), (0, fz_r 1)]) kX2_measure rfl (by decide) rfl (by omega) rfl ?_
        refine fz_goto (tgt := 20) kX2_measure rfl (by decide) ?_
        exact ih21 (x15 + 1) H72 hI73 hf74 (by omega) (by omega)
  exact lp20 _ 0 H8 hI12 hf14 (by omega) (Nat.lt_succ_self _)

abbrev qX2_addTown (h : fz_H) (df : Int) : fz_H → Option fz_V → Prop := fun h' r0 => fz_Iv h' ∧ fz_fr [(1, 7), (2, 99999), (7, 99999), (8, 99999)] h h' ∧ ∃ r : Int, r0 = some (fz_i r) ∧ ((-3) ≤ r ∧ r ≤ 7) ∧ ((h 1 7 < 8 ∧ r = h 1 7 ∧ h' 1 7 = h 1 7 + 1) ∨ (8 ≤ h 1 7 ∧ r = -3 ∧ h' 1 7 = h 1 7)) ∧ (fz_tnC h h' df)
set_option maxHeartbeats 1000000 in
set_option maxRecDepth 100000 in
theorem sX2_addTown (h : fz_H) (hI : fz_Iv h) (df : Int) (hp0 : 0 ≤ df ∧ df ≤ 9) : fz_R 3 mX2_addTown 0 [(0, fz_r 1), (1, fz_i df)] [] h (qX2_addTown h df) := by
  refine fz_knowl (fun hk => ?_)
  have hr_df : -2147483648 ≤ df ∧ df < 2147483648 := hk _ (List.Mem.tail _ (List.Mem.head _))
  clear hk
  have hf : fz_fr [(1, 7), (2, 99999), (7, 99999), (8, 99999)] h h := fz_fr_rf
  have b1 : 0 ≤ h 1 7 ∧ h 1 7 ≤ 8 := hI.1 1 _
  refine fz_aload_n kX2_addTown rfl rfl ?_
  refine fz_getV (v := h 1 7) kX2_addTown rfl rfl rfl ?_
  have b2 : 0 ≤ h 1 7 ∧ h 1 7 ≤ 8 := hI.1 1 _
  refine fz_bipush ⟨by decide, by decide⟩ kX2_addTown rfl ?_
  refine fz_icmp_lt (tgt := 12) kX2_addTown rfl (by decide) (fun c3 => ?_) (fun c3 => ?_)
  · refine fz_aload_n kX2_addTown rfl rfl ?_
    refine fz_getR (t := 2) kX2_addTown rfl rfl ?_
    refine fz_aload_n kX2_addTown rfl rfl ?_
    refine fz_getV (v := h 1 7) kX2_addTown rfl rfl rfl ?_
    refine fz_iload_n kX2_addTown rfl rfl ?_
    refine fz_iast (n := 8) kX2_addTown rfl rfl (by omega) (by omega) ?_
    refine fz_nmu (S := [(1, 7), (2, 99999), (7, 99999), (8, 99999)]) (h0 := h) (fz_Iv_up hI (by decide) (show (0 : Int) ≤ df by omega) (show (df : Int) ≤ 9 by omega)) (fz_fr_up hf rfl) (fun H4 hI5 hf6 e7 => ?_)
    have k8 : H4 1 7 = (h 1 7) := by rw [e7]; exact (fz_up_o (by decide)).trans rfl
    have t9 : H4 1 7 = h 1 7 := by rw [e7]; exact fz_up_o (by decide)
    refine fz_aload_n kX2_addTown rfl rfl ?_
    refine fz_dup rfl kX2_addTown rfl ?_
    refine fz_getV (v := (h 1 7)) kX2_addTown rfl rfl k8 ?_
    refine fz_iconst ⟨by decide, by decide⟩ kX2_addTown rfl ?_
    refine fz_iaddN kX2_addTown rfl (by omega) ?_
    refine fz_putI kX2_addTown rfl rfl rfl ?_
    refine fz_nmu (S := [(1, 7), (2, 99999), (7, 99999), (8, 99999)]) (h0 := h) (fz_Iv_up hI5 (by decide) (show (0 : Int) ≤ ((h 1 7) + 1) by omega) (show (((h 1 7) + 1) : Int) ≤ 8 by omega)) (fz_fr_up hf6 rfl) (fun H10 hI11 hf12 e13 => ?_)
    have k14 : H10 1 7 = ((h 1 7) + 1) := by rw [e13]; exact fz_up_e
    refine fz_aload_n kX2_addTown rfl rfl ?_
    refine fz_callV (d' := 2) (M' := mX2_measure) (As := []) (st := []) kX2_addTown rfl rfl vX2_measure rfl rfl rfl rfl (Nat.le_of_ble_eq_true rfl) (Nat.le_of_ble_eq_true rfl) (by decide) (sX2_measure H10 hI11  ) (fun H15 r16 q17 o18 => ?_)
    obtain ⟨hI19, hf20, rfl⟩ := q17
    clear o18
    have hf21 := fz_fr_tr hf12 hf20 (show fz_su [(7, 99999), (8, 99999)] [(1, 7), (2, 99999), (7, 99999), (8, 99999)] = true from rfl)
    have k22 : H15 1 7 = ((h 1 7) + 1) := (hf20 1 7 rfl).trans k14
    have t23 : H15 1 7 = H10 1 7 := hf20 1 7 rfl
    refine fz_aload_n kX2_addTown rfl rfl ?_
    refine fz_getV (v := ((h 1 7) + 1)) kX2_addTown rfl rfl k22 ?_
    refine fz_iconst ⟨by decide, by decide⟩ kX2_addTown rfl ?_
    refine fz_isubN kX2_addTown rfl (by omega) ?_
    exact fz_iret kX2_addTown rfl rfl (fun _ => ⟨hI19, hf21, _, rfl, (by omega), (by omega), (by first | exact fz_tnC_in e7 e13 (funext fun s => hf20 2 s rfl) (by omega) | exact Or.inr ⟨by omega, rfl⟩)⟩)
  · refine fz_bipush ⟨by decide, by decide⟩ kX2_addTown rfl ?_
    exact fz_iret kX2_addTown rfl rfl (fun _ => ⟨hI, hf, _, rfl, (by omega), (by omega), (by first | exact fz_tnC_in lost lost (funext fun s => lost 2 s rfl) (by omega) | exact Or.inr ⟨by omega, rfl⟩)⟩)

abbrev qX2_addRoad (h : fz_H) (a b hr : Int) : fz_H → Option fz_V → Prop := fun h' r0 => fz_Iv h' ∧ fz_fr [(1, 8), (3, 99999), (4, 99999), (5, 99999), (6, 99999), (7, 99999), (8, 99999)] h h' ∧ fz_RE h' ∧ ∃ r : Int, r0 = some (fz_i r) ∧ ((-3) ≤ r ∧ r ≤ 11) ∧ ((h 1 8 < 12 ∧ r = h 1 8 ∧ h' 1 8 = h 1 8 + 1) ∨ (12 ≤ h 1 8 ∧ r = -3 ∧ h' 1 8 = h 1 8)) ∧ (fz_rnC h h' a b hr)
set_option maxHeartbeats 1000000 in
set_option maxRecDepth 100000 in
theorem sX2_addRoad (h : fz_H) (hI : fz_Iv h) (a b hr : Int) (hRE : fz_RE h) (hp0 : 0 ≤ a ∧ a < 8) (hp1 : 0 ≤ b ∧ b < 8) (hp2 : 1 ≤ hr ∧ hr ≤ 24) (hp3 : a < h 1 7 ∧ b < h 1 7) : fz_R 3 mX2_addRoad 0 [(0, fz_r 1), (1, fz_i a), (2, fz_i b), (3, fz_i hr)] [] h (qX2_addRoad h a b hr) := by
  refine fz_knowl (fun hk => ?_)
  have hr_a : -2147483648 ≤ a ∧ a < 2147483648 := hk _ (List.Mem.tail _ (List.Mem.head _))
  have hr_b : -2147483648 ≤ b ∧ b < 2147483648 := hk _ (List.Mem.tail _ (List.Mem.tail _ (List.Mem.head _)))
  have hr_hr : -2147483648 ≤ hr ∧ hr < 2147483648 := hk _ (List.Mem.tail _ (List.Mem.tail _ (List.Mem.tail _ (List.Mem.head _))))
  clear hk
  have hf : fz_fr [(1, 8), (3, 99999), (4, 99999), (5, 99999), (6, 99999), (7, 99999), (8, 99999)] h h := fz_fr_rf
  have b1 : 0 ≤ h 1 7 ∧ h 1 7 ≤ 8 := hI.1 1 _
  have b2 : 0 ≤ h 1 8 ∧ h 1 8 ≤ 12 := hI.1 1 _
  refine fz_aload_n kX2_addRoad rfl rfl ?_
  refine fz_getV (v := h 1 8) kX2_addRoad rfl rfl rfl ?_
  have b3 : 0 ≤ h 1 8 ∧ h 1 8 ≤ 12 := hI.1 1 _
  refine fz_bipush ⟨by decide, by decide⟩ kX2_addRoad rfl ?_
  refine fz_icmp_lt (tgt := 12) kX2_addRoad rfl (by decide) (fun c4 => ?_) (fun c4 => ?_)
  · refine fz_aload_n kX2_addRoad rfl rfl ?_
    refine fz_getR (t := 5) kX2_addRoad rfl rfl ?_
    refine fz_aload_n kX2_addRoad rfl rfl ?_
    refine fz_getV (v := h 1 8) kX2_addRoad rfl rfl rfl ?_
    refine fz_iload_n kX2_addRoad rfl rfl ?_
    refine fz_iast (n := 12) kX2_addRoad rfl rfl (by omega) (by omega) ?_
    refine fz_nmu (S := [(1, 8), (3, 99999), (4, 99999), (5, 99999), (6, 99999), (7, 99999), (8, 99999)]) (h0 := h) (fz_Iv_up hI (by decide) (show (0 : Int) ≤ a by omega) (show (a : Int) ≤ 7 by omega)) (fz_fr_up hf rfl) (fun H5 hI6 hf7 e8 => ?_)
    have k9 : H5 1 8 = (h 1 8) := by rw [e8]; exact (fz_up_o (by decide)).trans rfl
    have t10 : H5 1 8 = h 1 8 := by rw [e8]; exact fz_up_o (by decide)
    refine fz_aload_n kX2_addRoad rfl rfl ?_
    refine fz_getR (t := 6) kX2_addRoad rfl rfl ?_
    refine fz_aload_n kX2_addRoad rfl rfl ?_
    refine fz_getV (v := (h 1 8)) kX2_addRoad rfl rfl k9 ?_
    refine fz_iload_n kX2_addRoad rfl rfl ?_
    refine fz_iast (n := 12) kX2_addRoad rfl rfl (by omega) (by omega) ?_
    refine fz_nmu (S := [(1, 8), (3, 99999), (4, 99999), (5, 99999), (6, 99999), (7, 99999), (8, 99999)]) (h0 := h) (fz_Iv_up hI6 (by decide) (show (0 : Int) ≤ b by omega) (show (b : Int) ≤ 7 by omega)) (fz_fr_up hf7 rfl) (fun H12 hI13 hf14 e15 => ?_)
    have k16 : H12 1 8 = (h 1 8) := by rw [e15]; exact (fz_up_o (by decide)).trans k9
    have t17 : H12 1 8 = H5 1 8 := by rw [e15]; exact fz_up_o (by decide)
    refine fz_aload_n kX2_addRoad rfl rfl ?_
    refine fz_getR (t := 3) kX2_addRoad rfl rfl ?_
    refine fz_aload_n kX2_addRoad rfl rfl ?_
    refine fz_getV (v := (h 1 8)) kX2_addRoad rfl rfl k16 ?_
    refine fz_iload_n kX2_addRoad rfl rfl ?_
    refine fz_iast (n := 12) kX2_addRoad rfl rfl (by omega) (by omega) ?_
    refine fz_nmu (S := [(1, 8), (3, 99999), (4, 99999), (5, 99999), (6, 99999), (7, 99999), (8, 99999)]) (h0 := h) (fz_Iv_up hI13 (by decide) (show (0 : Int) ≤ hr by omega) (show (hr : Int) ≤ 24 by omega)) (fz_fr_up hf14 rfl) (fun H18 hI19 hf20 e21 => ?_)
    have k22 : H18 1 8 = (h 1 8) := by rw [e21]; exact (fz_up_o (by decide)).trans k16
    have t23 : H18 1 8 = H12 1 8 := by rw [e21]; exact fz_up_o (by decide)
    refine fz_aload_n kX2_addRoad rfl rfl ?_
    refine fz_getR (t := 4) kX2_addRoad rfl rfl ?_
    refine fz_aload_n kX2_addRoad rfl rfl ?_
    refine fz_getV (v := (h 1 8)) kX2_addRoad rfl rfl k22 ?_
    refine fz_iconst ⟨by decide, by decide⟩ kX2_addRoad rfl ?_
    refine fz_iast (n := 12) kX2_addRoad rfl rfl (by omega) (by omega) ?_
    refine fz_nmu (S := [(1, 8), (3, 99999), (4, 99999), (5, 99999), (6, 99999), (7, 99999), (8, 99999)]) (h0 := h) (fz_Iv_up hI19 (by decide) (show (0 : Int) ≤ 1 by decide) (show (1 : Int) ≤ 1 by decide)) (fz_fr_up hf20 rfl) (fun H24 hI25 hf26 e27 => ?_)
    have k28 : H24 1 8 = (h 1 8) := by rw [e27]; exact (fz_up_o (by decide)).trans k22
    have t29 : H24 1 8 = H18 1 8 := by rw [e27]; exact fz_up_o (by decide)
    refine fz_aload_n kX2_addRoad rfl rfl ?_
    refine fz_dup rfl kX2_addRoad rfl ?_
    refine fz_getV (v := (h 1 8)) kX2_addRoad rfl rfl k28 ?_
    refine fz_iconst ⟨by decide, by decide⟩ kX2_addRoad rfl ?_
    refine fz_iaddN kX2_addRoad rfl (by omega) ?_
    refine fz_putI kX2_addRoad rfl rfl rfl ?_
    refine fz_nmu (S := [(1, 8), (3, 99999), (4, 99999), (5, 99999), (6, 99999), (7, 99999), (8, 99999)]) (h0 := h) (fz_Iv_up hI25 (by decide) (show (0 : Int) ≤ ((h 1 8) + 1) by omega) (show (((h 1 8) + 1) : Int) ≤ 12 by omega)) (fz_fr_up hf26 rfl) (fun H30 hI31 hf32 e33 => ?_)
    have k34 : H30 1 8 = ((h 1 8) + 1) := by rw [e33]; exact fz_up_e
    have hRE35 : fz_RE H30 := by exact fz_RE_in e8 e15 e21 e27 e33 (by omega) (by omega) (by omega) (by omega) hRE
    refine fz_aload_n kX2_addRoad rfl rfl ?_
    refine fz_callV (d' := 2) (M' := mX2_measure) (As := []) (st := []) kX2_addRoad rfl rfl vX2_measure rfl rfl rfl rfl (Nat.le_of_ble_eq_true rfl) (Nat.le_of_ble_eq_true rfl) (by decide) (sX2_measure H30 hI31  ) (fun H37 r38 q39 o40 => ?_)
    obtain ⟨hI41, hf42, rfl⟩ := q39
    clear o40
    have hf43 := fz_fr_tr hf32 hf42 (show fz_su [(7, 99999), (8, 99999)] [(1, 8), (3, 99999), (4, 99999), (5, 99999), (6, 99999), (7, 99999), (8, 99999)] = true from rfl)
    have k44 : H37 1 8 = ((h 1 8) + 1) := (hf42 1 8 rfl).trans k34
    have hRE45 : fz_RE H37 := fz_RE_eq (funext fun s => hf42 5 s rfl) (funext fun s => hf42 6 s rfl) (hf42 1 8 rfl) (hf42 1 7 rfl) hRE35
    have t46 : H37 1 8 = H30 1 8 := hf42 1 8 rfl
    refine fz_aload_n kX2_addRoad rfl rfl ?_
    refine fz_getV (v := ((h 1 8) + 1)) kX2_addRoad rfl rfl k44 ?_
    refine fz_iconst ⟨by decide, by decide⟩ kX2_addRoad rfl ?_
    refine fz_isubN kX2_addRoad rfl (by omega) ?_
    exact fz_iret kX2_addRoad rfl rfl (fun _ => ⟨hI41, hf43, hRE45, _, rfl, (by omega), (by omega), (by first | exact fz_rnC_in e8 e15 e21 e27 e33 (funext fun s => hf42 5 s rfl) (funext fun s => hf42 6 s rfl) (funext fun s => hf42 3 s rfl) (funext fun s => hf42 4 s rfl) (by omega) | exact Or.inr ⟨by omega, rfl, rfl, rfl, rfl⟩)⟩)
  · refine fz_bipush ⟨by decide, by decide⟩ kX2_addRoad rfl ?_
    exact fz_iret kX2_addRoad rfl rfl (fun _ => ⟨hI, hf, hRE, _, rfl, (by omega), (by omega), (by first | exact fz_rnC_in lost lost lost lost lost (funext fun s => lost 5 s rfl) (funext fun s => lost 6 s rfl) (funext fun s => lost 3 s rfl) (funext fun s => lost 4 s rfl) (by omega) | exact Or.inr ⟨by omega, rfl, rfl, rfl, rfl⟩)⟩)

abbrev qX2_isCartedTo (h : fz_H) (a b wo : Int) : fz_H → Option fz_V → Prop := fun h' r0 => h' = h ∧ ∃ r : Int, r0 = some (fz_i r) ∧ (r = 0 ∨ r = 1)
set_option maxHeartbeats 1000000 in
set_option maxRecDepth 100000 in
theorem sX2_isCartedTo (h : fz_H) (hI : fz_Iv h) (a b wo : Int) : fz_R 0 mX2_isCartedTo 0 [(0, fz_r 1), (1, fz_i a), (2, fz_i b), (3, fz_i wo)] [] h (qX2_isCartedTo h a b wo) := by
  refine fz_knowl (fun hk => ?_)
  have hr_a : -2147483648 ≤ a ∧ a < 2147483648 := hk _ (List.Mem.tail _ (List.Mem.head _))
  have hr_b : -2147483648 ≤ b ∧ b < 2147483648 := hk _ (List.Mem.tail _ (List.Mem.tail _ (List.Mem.head _)))
  have hr_wo : -2147483648 ≤ wo ∧ wo < 2147483648 := hk _ (List.Mem.tail _ (List.Mem.tail _ (List.Mem.tail _ (List.Mem.head _))))
  clear hk
  refine fz_iconst ⟨by decide, by decide⟩ kX2_isCartedTo rfl ?_
  refine fz_iload_n kX2_isCartedTo rfl rfl ?_
  refine fz_ishl kX2_isCartedTo rfl ?_
  have b1 : -2147483648 ≤ (fz_shl 1 a) ∧ (fz_shl 1 a) < 2147483648 := fz_b32 _
  refine fz_istore (ls' := [(4, fz_i (fz_shl 1 a)), (0, fz_r 1), (1, fz_i a), (2, fz_i b), (3, fz_i wo)]) kX2_isCartedTo rfl (by decide) rfl ?_
  refine fz_iconst ⟨by decide, by decide⟩ kX2_isCartedTo rfl ?_
  refine fz_istore (ls' := [(5, fz_i 0), (4, fz_i (fz_shl 1 a)), (0, fz_r 1), (1, fz_i a), (2, fz_i b), (3, fz_i wo)]) kX2_isCartedTo rfl (by decide) rfl ?_
  have lp5 : ∀ (n4 : Nat) (x2 : Int) (x3 : Int), (0 ≤ x2 ∧ x2 ≤ 2147483647) → ((-2147483648) ≤ x3 ∧ x3 ≤ 2147483647) → ((h 1 7) - x2).toNat < n4 → fz_R 0 mX2_isCartedTo 8 [(5, fz_i x2), (4, fz_i x3), (0, fz_r 1), (1, fz_i a), (2, fz_i b), (3, fz_i wo)] [] h (qX2_isCartedTo h a b wo) := by
    intro n4
    induction n4 with
    | zero => intro x2 x3 hv8 hv9 hm7; exact absurd hm7 (by omega)
    | succ n4 ih6 =>
      intro x2 x3 hv8 hv9 hm7
      refine fz_iload kX2_isCartedTo rfl rfl ?_
      refine fz_aload_n kX2_isCartedTo rfl rfl ?_
      refine fz_getV (v := h 1 7) kX2_isCartedTo rfl rfl rfl ?_
      have b10 : 0 ≤ h 1 7 ∧ h 1 7 ≤ 8 := hI.1 1 _
      refine fz_icmp_ge (tgt := 111) kX2_isCartedTo rfl (by decide) (fun c11 => ?_) (fun c11 => ?_)
      · refine fz_iload kX2_isCartedTo rfl rfl ?_
        refine fz_iload_n kX2_isCartedTo rfl rfl ?_
        refine fz_ishr kX2_isCartedTo rfl ?_
        have b12 : -2147483648 ≤ (fz_shr x3 b) ∧ (fz_shr x3 b) < 2147483648 := fz_b32 _
        refine fz_iconst ⟨by decide, by decide⟩ kX2_isCartedTo rfl ?_
        refine fz_iand kX2_isCartedTo rfl ?_
        have b13 : -2147483648 ≤ (fz_and (fz_shr x3 b) 1) ∧ (fz_and (fz_shr x3 b) 1) < 2147483648 := fz_b32 _
        refine fz_iconst ⟨by decide, by decide⟩ kX2_isCartedTo rfl ?_
        refine fz_icmp_ne (tgt := 125) kX2_isCartedTo rfl (by decide) (fun c14 => ?_) (fun c14 => ?_)
        · refine fz_iconst ⟨by decide, by decide⟩ kX2_isCartedTo rfl ?_
          exact fz_zret kX2_isCartedTo rfl rfl (by omega) ⟨rfl, _, rfl, (by omega)⟩
        · refine fz_iconst ⟨by decide, by decide⟩ kX2_isCartedTo rfl ?_
          refine fz_goto (tgt := 126) kX2_isCartedTo rfl (by decide) ?_
          exact fz_zret kX2_isCartedTo rfl rfl (by omega) ⟨rfl, _, rfl, (by omega)⟩
      · refine fz_iload kX2_isCartedTo rfl rfl ?_
        refine fz_istore (ls' := [(6, fz_i x3), (5, fz_i x2), (4, fz_i x3), (0, fz_r 1), (1, fz_i a), (2, fz_i b), (3, fz_i wo)]) kX2_isCartedTo rfl (by decide) rfl ?_
        refine fz_iconst ⟨by decide, by decide⟩ kX2_isCartedTo rfl ?_
        refine fz_istore (ls' := [(7, fz_i 0), (6, fz_i x3), (5, fz_i x2), (4, fz_i x3), (0, fz_r 1), (1, fz_i a), (2, fz_i b), (3, fz_i wo)]) kX2_isCartedTo rfl (by decide) rfl ?_
        have lp18 : ∀ (n17 : Nat) (x15 : Int) (x16 : Int), (0 ≤ x15 ∧ x15 ≤ 2147483647) → ((-2147483648) ≤ x16 ∧ x16 ≤ 2147483647) → ((h 1 8) - x15).toNat < n17 → fz_R 0 mX2_isCartedTo 24 [(7, fz_i x15), (6, fz_i x3), (5, fz_i x2), (4, fz_i x16), (0, fz_r 1), (1, fz_i a), (2, fz_i b), (3, fz_i wo)] [] h (qX2_isCartedTo h a b wo) := by
          intro n17
          induction n17 with
          | zero => intro x15 x16 hv21 hv22 hm20; exact absurd hm20 (by omega)
          | succ n17 ih19 =>
            intro x15 x16 hv21 hv22 hm20
            refine fz_iload kX2_isCartedTo rfl rfl ?_
            refine fz_aload_n kX2_isCartedTo rfl rfl ?_
            refine fz_getV (v := h 1 8) kX2_isCartedTo rfl rfl rfl ?_
            have b23 : 0 ≤ h 1 8 ∧ h 1 8 ≤ 12 := hI.1 1 _
            refine fz_icmp_ge (tgt := 95) kX2_isCartedTo rfl (by decide) (fun c24 => ?_) (fun c24 => ?_)
            · refine fz_iload kX2_isCartedTo rfl rfl ?_
              refine fz_iload kX2_isCartedTo rfl rfl ?_
              refine fz_icmp_ne (tgt := 105) kX2_isCartedTo rfl (by decide) (fun c25 => ?_) (fun c25 => ?_)
              · refine fz_iincN (ls' := [(5, fz_i (x2 + 1)), (7, fz_i x15), (6, fz_i x3), (4, fz_i x16), (0, fz_r 1), (1, fz_i a), (2, fz_i b), (3, fz_i wo)]) kX2_isCartedTo rfl (by decide) rfl (by omega) rfl ?_
                refine fz_goto (tgt := 8) kX2_isCartedTo rfl (by decide) ?_
                refine fz_sub (fz_pk_sub (ls' := [(5, fz_i (x2 + 1)), (4, fz_i x16), (0, fz_r 1), (1, fz_i a), (2, fz_i b), (3, fz_i wo)]) [0, 3, 4, 5, 6, 7] rfl) ?_
                exact ih6 (x2 + 1) x16 (by omega) (by omega) (by omega)
              · refine fz_goto (tgt := 111) kX2_isCartedTo rfl (by decide) ?_
                refine fz_iload kX2_isCartedTo rfl rfl ?_
                refine fz_iload_n kX2_isCartedTo rfl rfl ?_
                refine fz_ishr kX2_isCartedTo rfl ?_
                have b26 : -2147483648 ≤ (fz_shr x16 b) ∧ (fz_shr x16 b) < 2147483648 := fz_b32 _
                refine fz_iconst ⟨by decide, by decide⟩ kX2_isCartedTo rfl ?_
                refine fz_iand kX2_isCartedTo rfl ?_
                have b27 : -2147483648 ≤ (fz_and (fz_shr x16 b) 1) ∧ (fz_and (fz_shr x16 b) 1) < 2147483648 := fz_b32 _
                refine fz_iconst ⟨by decide, by decide⟩ kX2_isCartedTo rfl ?_
                refine fz_icmp_ne (tgt := 125) kX2_isCartedTo rfl (by decide) (fun c28 => ?_) (fun c28 => ?_)
                · refine fz_iconst ⟨by decide, by decide⟩ kX2_isCartedTo rfl ?_
                  exact fz_zret kX2_isCartedTo rfl rfl (by omega) ⟨rfl, _, rfl, (by omega)⟩
                · refine fz_iconst ⟨by decide, by decide⟩ kX2_isCartedTo rfl ?_
                  refine fz_goto (tgt := 126) kX2_isCartedTo rfl (by decide) ?_
                  exact fz_zret kX2_isCartedTo rfl rfl (by omega) ⟨rfl, _, rfl, (by omega)⟩
            · refine fz_iconst ⟨by decide, by decide⟩ kX2_isCartedTo rfl ?_
              refine fz_aload_n kX2_isCartedTo rfl rfl ?_
              refine fz_getR (t := 5) kX2_isCartedTo rfl rfl ?_
              refine fz_iload kX2_isCartedTo rfl rfl ?_
              refine fz_ialdV (n := 12) (v := h 5 (x15.toNat)) kX2_isCartedTo rfl rfl (by omega) (by omega) rfl ?_
              have b29 : 0 ≤ h 5 (x15.toNat) ∧ h 5 (x15.toNat) ≤ 7 := hI.1 5 _
              refine fz_ishl kX2_isCartedTo rfl ?_
              have b30 : -2147483648 ≤ (fz_shl 1 (h 5 (x15.toNat))) ∧ (fz_shl 1 (h 5 (x15.toNat))) < 2147483648 := fz_b32 _
              refine fz_iconst ⟨by decide, by decide⟩ kX2_isCartedTo rfl ?_
              refine fz_aload_n kX2_isCartedTo rfl rfl ?_
              refine fz_getR (t := 6) kX2_isCartedTo rfl rfl ?_
              refine fz_iload kX2_isCartedTo rfl rfl ?_
              refine fz_ialdV (n := 12) (v := h 6 (x15.toNat)) kX2_isCartedTo rfl rfl (by omega) (by omega) rfl ?_
              have b31 : 0 ≤ h 6 (x15.toNat) ∧ h 6 (x15.toNat) ≤ 7 := hI.1 6 _
              refine fz_ishl kX2_isCartedTo rfl ?_
              have b32 : -2147483648 ≤ (fz_shl 1 (h 6 (x15.toNat))) ∧ (fz_shl 1 (h 6 (x15.toNat))) < 2147483648 := fz_b32 _
              refine fz_ior kX2_isCartedTo rfl ?_
              have b33 : -2147483648 ≤ (fz_or (fz_shl 1 (h 5 (x15.toNat))) (fz_shl 1 (h 6 (x15.toNat)))) ∧ (fz_or (fz_shl 1 (h 5 (x15.toNat))) (fz_shl 1 (h 6 (x15.toNat)))) < 2147483648 := fz_b32 _
              refine fz_istore (ls' := [(8, fz_i (fz_or (fz_shl 1 (h 5 (x15.toNat))) (fz_shl 1 (h 6 (x15.toNat))))), (7, fz_i x15), (6, fz_i x3), (5, fz_i x2), (4, fz_i x16), (0, fz_r 1), (1, fz_i a), (2, fz_i b), (3, fz_i wo)]) kX2_isCartedTo rfl (by decide) rfl ?_
              refine fz_aload_n kX2_isCartedTo rfl rfl ?_
              refine fz_getR (t := 4) kX2_isCartedTo rfl rfl ?_
              refine fz_iload kX2_isCartedTo rfl rfl ?_
              refine fz_ialdV (n := 12) (v := h 4 (x15.toNat)) kX2_isCartedTo rfl rfl (by omega) (by omega) rfl ?_
              have b34 : 0 ≤ h 4 (x15.toNat) ∧ h 4 (x15.toNat) ≤ 1 := hI.1 4 _
              refine fz_iconst ⟨by decide, by decide⟩ kX2_isCartedTo rfl ?_
              refine fz_icmp_ne (tgt := 89) kX2_isCartedTo rfl (by decide) (fun c35 => ?_) (fun c35 => ?_)
              · refine fz_iincN (ls' := [(7, fz_i (x15 + 1)), (8, fz_i (fz_or (fz_shl 1 (h 5 (x15.toNat))) (fz_shl 1 (h 6 (x15.toNat))))), (6, fz_i x3), (5, fz_i x2), (4, fz_i x16), (0, fz_r 1), (1, fz_i a), (2, fz_i b), (3, fz_i wo)]) kX2_isCartedTo rfl (by decide) rfl (by omega) rfl ?_
                refine fz_goto (tgt := 24) kX2_isCartedTo rfl (by decide) ?_
                refine fz_sub (fz_pk_sub (ls' := [(7, fz_i (x15 + 1)), (6, fz_i x3), (5, fz_i x2), (4, fz_i x16), (0, fz_r 1), (1, fz_i a), (2, fz_i b), (3, fz_i wo)]) [0, 2, 3, 4, 5, 6, 7, 8] rfl) ?_
                exact ih19 (x15 + 1) x16 (by omega) (by omega) (by omega)
              · refine fz_iload_n kX2_isCartedTo rfl rfl ?_
                refine fz_iload kX2_isCartedTo rfl rfl ?_
                refine fz_ishr kX2_isCartedTo rfl ?_
                have b36 : -2147483648 ≤ (fz_shr wo x15) ∧ (fz_shr wo x15) < 2147483648 := fz_b32 _
                refine fz_iconst ⟨by decide, by decide⟩ kX2_isCartedTo rfl ?_
                refine fz_iand kX2_isCartedTo rfl ?_
                have b37 : -2147483648 ≤ (fz_and (fz_shr wo x15) 1) ∧ (fz_and (fz_shr wo x15) 1) < 2147483648 := fz_b32 _
                refine fz_if_ne (tgt := 89) kX2_isCartedTo rfl (by decide) (fun c38 => ?_) (fun c38 => ?_)
                · refine fz_iincN (ls' := [(7, fz_i (x15 + 1)), (8, fz_i (fz_or (fz_shl 1 (h 5 (x15.toNat))) (fz_shl 1 (h 6 (x15.toNat))))), (6, fz_i x3), (5, fz_i x2), (4, fz_i x16), (0, fz_r 1), (1, fz_i a), (2, fz_i b), (3, fz_i wo)]) kX2_isCartedTo rfl (by decide) rfl (by omega) rfl ?_
                  refine fz_goto (tgt := 24) kX2_isCartedTo rfl (by decide) ?_
                  refine fz_sub (fz_pk_sub (ls' := [(7, fz_i (x15 + 1)), (6, fz_i x3), (5, fz_i x2), (4, fz_i x16), (0, fz_r 1), (1, fz_i a), (2, fz_i b), (3, fz_i wo)]) [0, 2, 3, 4, 5, 6, 7, 8] rfl) ?_
                  exact ih19 (x15 + 1) x16 (by omega) (by omega) (by omega)
                · refine fz_iload kX2_isCartedTo rfl rfl ?_
                  refine fz_iload kX2_isCartedTo rfl rfl ?_
                  refine fz_iand kX2_isCartedTo rfl ?_
                  have b39 : -2147483648 ≤ (fz_and x16 (fz_or (fz_shl 1 (h 5 (x15.toNat))) (fz_shl 1 (h 6 (x15.toNat))))) ∧ (fz_and x16 (fz_or (fz_shl 1 (h 5 (x15.toNat))) (fz_shl 1 (h 6 (x15.toNat))))) < 2147483648 := fz_b32 _
                  refine fz_if_eq (tgt := 89) kX2_isCartedTo rfl (by decide) (fun c40 => ?_) (fun c40 => ?_)
                  · refine fz_iincN (ls' := [(7, fz_i (x15 + 1)), (8, fz_i (fz_or (fz_shl 1 (h 5 (x15.toNat))) (fz_shl 1 (h 6 (x15.toNat))))), (6, fz_i x3), (5, fz_i x2), (4, fz_i x16), (0, fz_r 1), (1, fz_i a), (2, fz_i b), (3, fz_i wo)]) kX2_isCartedTo rfl (by decide) rfl (by omega) rfl ?_
                    refine fz_goto (tgt := 24) kX2_isCartedTo rfl (by decide) ?_
                    refine fz_sub (fz_pk_sub (ls' := [(7, fz_i (x15 + 1)), (6, fz_i x3), (5, fz_i x2), (4, fz_i x16), (0, fz_r 1), (1, fz_i a), (2, fz_i b), (3, fz_i wo)]) [0, 2, 3, 4, 5, 6, 7, 8] rfl) ?_
                    exact ih19 (x15 + 1) x16 (by omega) (by omega) (by omega)
                  · refine fz_iload kX2_isCartedTo rfl rfl ?_
                    refine fz_iload kX2_isCartedTo rfl rfl ?_
                    refine fz_ior kX2_isCartedTo rfl ?_
                    have b41 : -2147483648 ≤ (fz_or x16 (fz_or (fz_shl 1 (h 5 (x15.toNat))) (fz_shl 1 (h 6 (x15.toNat))))) ∧ (fz_or x16 (fz_or (fz_shl 1 (h 5 (x15.toNat))) (fz_shl 1 (h 6 (x15.toNat))))) < 2147483648 := fz_b32 _
                    refine fz_istore (ls' := [(4, fz_i (fz_or x16 (fz_or (fz_shl 1 (h 5 (x15.toNat))) (fz_shl 1 (h 6 (x15.toNat)))))), (8, fz_i (fz_or (fz_shl 1 (h 5 (x15.toNat))) (fz_shl 1 (h 6 (x15.toNat))))), (7, fz_i x15), (6, fz_i x3), (5, fz_i x2), (0, fz_r 1), (1, fz_i a), (2, fz_i b), (3, fz_i wo)]) kX2_isCartedTo rfl (by decide) rfl ?_
                    refine fz_iincN (ls' := [(7, fz_i (x15 + 1)), (4, fz_i (fz_or x16 (fz_or (fz_shl 1 (h 5 (x15.toNat))) (fz_shl 1 (h 6 (x15.toNat)))))), (8, fz_i (fz_or (fz_shl 1 (h 5 (x15.toNat))) (fz_shl 1 (h 6 (x15.toNat))))), (6, fz_i x3), (5, fz_i x2), (0, fz_r 1), (1, fz_i a), (2, fz_i b), (3, fz_i wo)]) kX2_isCartedTo rfl (by decide) rfl (by omega) rfl ?_
                    refine fz_goto (tgt := 24) kX2_isCartedTo rfl (by decide) ?_
                    refine fz_sub (fz_pk_sub (ls' := [(7, fz_i (x15 + 1)), (6, fz_i x3), (5, fz_i x2), (4, fz_i (fz_or x16 (fz_or (fz_shl 1 (h 5 (x15.toNat))) (fz_shl 1 (h 6 (x15.toNat)))))), (0, fz_r 1), (1, fz_i a), (2, fz_i b), (3, fz_i wo)]) [0, 3, 4, 1, 5, 6, 7, 8] rfl) ?_
                    exact ih19 (x15 + 1) (fz_or x16 (fz_or (fz_shl 1 (h 5 (x15.toNat))) (fz_shl 1 (h 6 (x15.toNat))))) (by omega) (by omega) (by omega)
        exact lp18 _ 0 x3 (by omega) (by omega) (Nat.lt_succ_self _)
  exact lp5 _ 0 (fz_shl 1 a) (by omega) (by omega) (Nat.lt_succ_self _)
