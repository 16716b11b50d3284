/-! ===== what the methods keep ===== -/
abbrev qX2_isTown (h : fz_H) (t : Int) : fz_H → Option fz_V → Prop := fun h' r0 => h' = h ∧ ∃ r : Int, r0 = some (fz_i r) ∧ ((r = 1 ∧ (0 ≤ t ∧ t ≤ 7 ∧ t < h 1 7)) ∨ (r = 0 ∧ ¬ (0 ≤ t ∧ t ≤ 7 ∧ t < h 1 7)))
set_option maxHeartbeats 1000000 in
set_option maxRecDepth 100000 in
theorem sX2_isTown (h : fz_H) (hI : fz_Iv h) (t : Int) : fz_R 0 mX2_isTown 0 [(0, fz_r 1), (1, fz_i t)] [] h (qX2_isTown h t) := by
  refine fz_knowl (fun hk => ?_)
  have hr_t : -2147483648 ≤ t ∧ t < 2147483648 := hk _ (List.Mem.tail _ (List.Mem.head _))
  clear hk
  have b1 : 0 ≤ h 1 7 ∧ h 1 7 ≤ 8 := hI.1 1 _
  refine fz_iload_n kX2_isTown rfl rfl ?_
  refine fz_if_lt (tgt := 16) kX2_isTown rfl (by decide) (fun c2 => ?_) (fun c2 => ?_)
  · refine fz_iconst ⟨by decide, by decide⟩ kX2_isTown rfl ?_
    exact fz_zret kX2_isTown rfl rfl (by omega) ⟨rfl, _, rfl, Or.inr ⟨rfl, by omega⟩⟩
  · refine fz_iload_n kX2_isTown rfl rfl ?_
    refine fz_aload_n kX2_isTown rfl rfl ?_
    refine fz_getV (v := h 1 7) kX2_isTown rfl rfl rfl ?_
    have b3 : 0 ≤ h 1 7 ∧ h 1 7 ≤ 8 := hI.1 1 _
    refine fz_icmp_ge (tgt := 16) kX2_isTown rfl (by decide) (fun c4 => ?_) (fun c4 => ?_)
    · refine fz_iconst ⟨by decide, by decide⟩ kX2_isTown rfl ?_
      exact fz_zret kX2_isTown rfl rfl (by omega) ⟨rfl, _, rfl, Or.inr ⟨rfl, by omega⟩⟩
    · refine fz_iconst ⟨by decide, by decide⟩ kX2_isTown rfl ?_
      refine fz_goto (tgt := 17) kX2_isTown rfl (by decide) ?_
      exact fz_zret kX2_isTown rfl rfl (by omega) ⟨rfl, _, rfl, Or.inl ⟨rfl, by omega⟩⟩

abbrev qX2_isRoad (h : fz_H) (t : Int) : fz_H → Option fz_V → Prop := fun h' r0 => h' = h ∧ ∃ r : Int, r0 = some (fz_i r) ∧ ((r = 1 ∧ (0 ≤ t ∧ t ≤ 11 ∧ t < h 1 8)) ∨ (r = 0 ∧ ¬ (0 ≤ t ∧ t ≤ 11 ∧ t < h 1 8)))
set_option maxHeartbeats 1000000 in
set_option maxRecDepth 100000 in
theorem sX2_isRoad (h : fz_H) (hI : fz_Iv h) (t : Int) : fz_R 0 mX2_isRoad 0 [(0, fz_r 1), (1, fz_i t)] [] h (qX2_isRoad h t) := by
  refine fz_knowl (fun hk => ?_)
  have hr_t : -2147483648 ≤ t ∧ t < 2147483648 := hk _ (List.Mem.tail _ (List.Mem.head _))
  clear hk
  have b1 : 0 ≤ h 1 8 ∧ h 1 8 ≤ 12 := hI.1 1 _
  refine fz_iload_n kX2_isRoad rfl rfl ?_
  refine fz_if_lt (tgt := 16) kX2_isRoad rfl (by decide) (fun c2 => ?_) (fun c2 => ?_)
  · refine fz_iconst ⟨by decide, by decide⟩ kX2_isRoad rfl ?_
    exact fz_zret kX2_isRoad rfl rfl (by omega) ⟨rfl, _, rfl, Or.inr ⟨rfl, by omega⟩⟩
  · refine fz_iload_n kX2_isRoad rfl rfl ?_
    refine fz_aload_n kX2_isRoad rfl rfl ?_
    refine fz_getV (v := h 1 8) kX2_isRoad rfl rfl rfl ?_
    have b3 : 0 ≤ h 1 8 ∧ h 1 8 ≤ 12 := hI.1 1 _
    refine fz_icmp_ge (tgt := 16) kX2_isRoad rfl (by decide) (fun c4 => ?_) (fun c4 => ?_)
    · refine fz_iconst ⟨by decide, by decide⟩ kX2_isRoad rfl ?_
      exact fz_zret kX2_isRoad rfl rfl (by omega) ⟨rfl, _, rfl, Or.inr ⟨rfl, by omega⟩⟩
    · refine fz_iconst ⟨by decide, by decide⟩ kX2_isRoad rfl ?_
      refine fz_goto (tgt := 17) kX2_isRoad rfl (by decide) ?_
      exact fz_zret kX2_isRoad rfl rfl (by omega) ⟨rfl, _, rfl, Or.inl ⟨rfl, by omega⟩⟩

abbrev qX2_acrossFrom (h : fz_H) (rd t : Int) : fz_H → Option fz_V → Prop := fun h' r0 => h' = h ∧ ∃ r : Int, r0 = some (fz_i r) ∧ ((-2) ≤ r ∧ r ≤ 7) ∧ (r = -2 ∨ r = h 5 rd.toNat ∨ r = h 6 rd.toNat) ∧ (r = fz_ac (h 5 rd.toNat) (h 6 rd.toNat) t)
set_option maxHeartbeats 1000000 in
set_option maxRecDepth 100000 in
theorem sX2_acrossFrom (h : fz_H) (hI : fz_Iv h) (rd t : Int) (hp0 : 0 ≤ rd ∧ rd < 12) : fz_R 0 mX2_acrossFrom 0 [(0, fz_r 1), (1, fz_i rd), (2, fz_i t)] [] h (qX2_acrossFrom h rd t) := by
  refine fz_knowl (fun hk => ?_)
  have hr_rd : -2147483648 ≤ rd ∧ rd < 2147483648 := hk _ (List.Mem.tail _ (List.Mem.head _))
  have hr_t : -2147483648 ≤ t ∧ t < 2147483648 := hk _ (List.Mem.tail _ (List.Mem.tail _ (List.Mem.head _)))
  clear hk
  refine fz_aload_n kX2_acrossFrom rfl rfl ?_
  refine fz_getR (t := 5) kX2_acrossFrom rfl rfl ?_
  refine fz_iload_n kX2_acrossFrom rfl rfl ?_
  refine fz_ialdV (n := 12) (v := h 5 (rd.toNat)) kX2_acrossFrom rfl rfl (by omega) (by omega) rfl ?_
  have b1 : 0 ≤ h 5 (rd.toNat) ∧ h 5 (rd.toNat) ≤ 7 := hI.1 5 _
  refine fz_iload_n kX2_acrossFrom rfl rfl ?_
  refine fz_icmp_ne (tgt := 17) kX2_acrossFrom rfl (by decide) (fun c2 => ?_) (fun c2 => ?_)
  · refine fz_aload_n kX2_acrossFrom rfl rfl ?_
    refine fz_getR (t := 6) kX2_acrossFrom rfl rfl ?_
    refine fz_iload_n kX2_acrossFrom rfl rfl ?_
    refine fz_ialdV (n := 12) (v := h 6 (rd.toNat)) kX2_acrossFrom rfl rfl (by omega) (by omega) rfl ?_
    have b3 : 0 ≤ h 6 (rd.toNat) ∧ h 6 (rd.toNat) ≤ 7 := hI.1 6 _
    refine fz_iload_n kX2_acrossFrom rfl rfl ?_
    refine fz_icmp_ne (tgt := 36) kX2_acrossFrom rfl (by decide) (fun c4 => ?_) (fun c4 => ?_)
    · refine fz_bipush ⟨by decide, by decide⟩ kX2_acrossFrom rfl ?_
      exact fz_iret kX2_acrossFrom rfl rfl (fun _ => ⟨rfl, _, rfl, (by omega), (by omega), (by first | exact fz_ac_1 (by omega) | exact fz_ac_2 (by omega) (by omega) | exact fz_ac_3 (by omega) (by omega))⟩)
    · refine fz_aload_n kX2_acrossFrom rfl rfl ?_
      refine fz_getR (t := 5) kX2_acrossFrom rfl rfl ?_
      refine fz_iload_n kX2_acrossFrom rfl rfl ?_
      refine fz_ialdV (n := 12) (v := h 5 (rd.toNat)) kX2_acrossFrom rfl rfl (by omega) (by omega) rfl ?_
      refine fz_goto (tgt := 38) kX2_acrossFrom rfl (by decide) ?_
      exact fz_iret kX2_acrossFrom rfl rfl (fun _ => ⟨rfl, _, rfl, (by omega), (by omega), (by first | exact fz_ac_1 (by omega) | exact fz_ac_2 (by omega) (by omega) | exact fz_ac_3 (by omega) (by omega))⟩)
  · refine fz_aload_n kX2_acrossFrom rfl rfl ?_
    refine fz_getR (t := 6) kX2_acrossFrom rfl rfl ?_
    refine fz_iload_n kX2_acrossFrom rfl rfl ?_
    refine fz_ialdV (n := 12) (v := h 6 (rd.toNat)) kX2_acrossFrom rfl rfl (by omega) (by omega) rfl ?_
    have b7 : 0 ≤ h 6 (rd.toNat) ∧ h 6 (rd.toNat) ≤ 7 := hI.1 6 _
    exact fz_iret kX2_acrossFrom rfl rfl (fun _ => ⟨rfl, _, rfl, (by omega), (by omega), (by first | exact fz_ac_1 (by omega) | exact fz_ac_2 (by omega) (by omega) | exact fz_ac_3 (by omega) (by omega))⟩)

abbrev qX2_hoursByFeet (h : fz_H) (a b : Int) : fz_H → Option fz_V → Prop := fun h' r0 => h' = h ∧ ∃ r : Int, r0 = some (fz_i r) ∧ ((-2) ≤ r ∧ r ≤ 9999) ∧ (r = fz_hr (h 7 (8 * a + b).toNat))
set_option maxHeartbeats 1000000 in
set_option maxRecDepth 100000 in
theorem sX2_hoursByFeet (h : fz_H) (hI : fz_Iv h) (a b : Int) (hp0 : 0 ≤ a ∧ a < 8) (hp1 : 0 ≤ b ∧ b < 8) : fz_R 0 mX2_hoursByFeet 0 [(0, fz_r 1), (1, fz_i a), (2, fz_i b)] [] h (qX2_hoursByFeet h a b) := by
  refine fz_knowl (fun hk => ?_)
  have hr_a : -2147483648 ≤ a ∧ a < 2147483648 := hk _ (List.Mem.tail _ (List.Mem.head _))
  have hr_b : -2147483648 ≤ b ∧ b < 2147483648 := hk _ (List.Mem.tail _ (List.Mem.tail _ (List.Mem.head _)))
  clear hk
  refine fz_aload_n kX2_hoursByFeet rfl rfl ?_
  refine fz_getR (t := 7) kX2_hoursByFeet rfl rfl ?_
  refine fz_iload_n kX2_hoursByFeet rfl rfl ?_
  refine fz_bipush ⟨by decide, by decide⟩ kX2_hoursByFeet rfl ?_
  refine fz_imulN kX2_hoursByFeet rfl (by omega) ?_
  refine fz_iload_n kX2_hoursByFeet rfl rfl ?_
  refine fz_iaddN kX2_hoursByFeet rfl (by omega) ?_
  refine fz_ialdV (n := 64) (v := h 7 (((a * 8) + b).toNat)) kX2_hoursByFeet rfl rfl (by omega) (by omega) rfl ?_
  have b1 : 0 ≤ h 7 (((a * 8) + b).toNat) ∧ h 7 (((a * 8) + b).toNat) ≤ 1000000 := hI.1 7 _
  refine fz_istore_n (ls' := [(3, fz_i (h 7 (((a * 8) + b).toNat))), (0, fz_r 1), (1, fz_i a), (2, fz_i b)]) kX2_hoursByFeet rfl (by decide) rfl ?_
  refine fz_iload_n kX2_hoursByFeet rfl rfl ?_
  refine fz_ldc (x := 1000000) kX2_hoursByFeet rfl rfl rfl ?_
  refine fz_icmp_lt (tgt := 23) kX2_hoursByFeet rfl (by decide) (fun c2 => ?_) (fun c2 => ?_)
  · refine fz_iload_n kX2_hoursByFeet rfl rfl ?_
    refine fz_bipush ⟨by decide, by decide⟩ kX2_hoursByFeet rfl ?_
    refine fz_idivN kX2_hoursByFeet rfl (by omega) (by omega) (by omega) ?_
    exact fz_iret kX2_hoursByFeet rfl rfl (fun _ => ⟨rfl, _, rfl, (by omega), (by first | exact fz_hr_n (i := a * 8 + b) (by omega) (by omega) | exact fz_hr_y (by omega) (by omega))⟩)
  · refine fz_bipush ⟨by decide, by decide⟩ kX2_hoursByFeet rfl ?_
    refine fz_goto (tgt := 27) kX2_hoursByFeet rfl (by decide) ?_
    exact fz_iret kX2_hoursByFeet rfl rfl (fun _ => ⟨rfl, _, rfl, (by omega), (by first | exact fz_hr_n (i := a * 8 + b) (by omega) (by omega) | exact fz_hr_y (by omega) (by omega))⟩)

abbrev qX2_hoursByCarters (h : fz_H) (a b : Int) : fz_H → Option fz_V → Prop := fun h' r0 => h' = h ∧ ∃ r : Int, r0 = some (fz_i r) ∧ ((-2) ≤ r ∧ r ≤ 9999) ∧ (r = fz_hr (h 8 (8 * a + b).toNat))
set_option maxHeartbeats 1000000 in
set_option maxRecDepth 100000 in
theorem sX2_hoursByCarters (h : fz_H) (hI : fz_Iv h) (a b : Int) (hp0 : 0 ≤ a ∧ a < 8) (hp1 : 0 ≤ b ∧ b < 8) : fz_R 0 mX2_hoursByCarters 0 [(0, fz_r 1), (1, fz_i a), (2, fz_i b)] [] h (qX2_hoursByCarters h a b) := by
  refine fz_knowl (fun hk => ?_)
  have hr_a : -2147483648 ≤ a ∧ a < 2147483648 := hk _ (List.Mem.tail _ (List.Mem.head _))
  have hr_b : -2147483648 ≤ b ∧ b < 2147483648 := hk _ (List.Mem.tail _ (List.Mem.tail _ (List.Mem.head _)))
  clear hk
  refine fz_aload_n kX2_hoursByCarters rfl rfl ?_
  refine fz_getR (t := 8) kX2_hoursByCarters rfl rfl ?_
  refine fz_iload_n kX2_hoursByCarters rfl rfl ?_
  refine fz_bipush ⟨by decide, by decide⟩ kX2_hoursByCarters rfl ?_
  refine fz_imulN kX2_hoursByCarters rfl (by omega) ?_
  refine fz_iload_n kX2_hoursByCarters rfl rfl ?_
  refine fz_iaddN kX2_hoursByCarters rfl (by omega) ?_
  refine fz_ialdV (n := 64) (v := h 8 (((a * 8) + b).toNat)) kX2_hoursByCarters rfl rfl (by omega) (by omega) rfl ?_
  have b1 : 0 ≤ h 8 (((a * 8) + b).toNat) ∧ h 8 (((a * 8) + b).toNat) ≤ 1000000 := hI.1 8 _
  refine fz_istore_n (ls' := [(3, fz_i (h 8 (((a * 8) + b).toNat))), (0, fz_r 1), (1, fz_i a), (2, fz_i b)]) kX2_hoursByCarters rfl (by decide) rfl ?_
  refine fz_iload_n kX2_hoursByCarters rfl rfl ?_
  refine fz_ldc (x := 1000000) kX2_hoursByCarters rfl rfl rfl ?_
  refine fz_icmp_lt (tgt := 23) kX2_hoursByCarters rfl (by decide) (fun c2 => ?_) (fun c2 => ?_)
  · refine fz_iload_n kX2_hoursByCarters rfl rfl ?_
    refine fz_bipush ⟨by decide, by decide⟩ kX2_hoursByCarters rfl ?_
    refine fz_idivN kX2_hoursByCarters rfl (by omega) (by omega) (by omega) ?_
    exact fz_iret kX2_hoursByCarters rfl rfl (fun _ => ⟨rfl, _, rfl, (by omega), (by first | exact fz_hr_n (i := a * 8 + b) (by omega) (by omega) | exact fz_hr_y (by omega) (by omega))⟩)
  · refine fz_bipush ⟨by decide, by decide⟩ kX2_hoursByCarters rfl ?_
    refine fz_goto (tgt := 27) kX2_hoursByCarters rfl (by decide) ?_
    exact fz_iret kX2_hoursByCarters rfl rfl (fun _ => ⟨rfl, _, rfl, (by omega), (by first | exact fz_hr_n (i := a * 8 + b) (by omega) (by omega) | exact fz_hr_y (by omega) (by omega))⟩)

abbrev qX2_roadsByCarters (h : fz_H) (a b : Int) : fz_H → Option fz_V → Prop := fun h' r0 => h' = h ∧ ∃ r : Int, r0 = some (fz_i r) ∧ ((-2) ≤ r ∧ r ≤ 99) ∧ (r = fz_rr (h 8 (8 * a + b).toNat))
set_option maxHeartbeats 1000000 in
set_option maxRecDepth 100000 in
theorem sX2_roadsByCarters (h : fz_H) (hI : fz_Iv h) (a b : Int) (hp0 : 0 ≤ a ∧ a < 8) (hp1 : 0 ≤ b ∧ b < 8) : fz_R 0 mX2_roadsByCarters 0 [(0, fz_r 1), (1, fz_i a), (2, fz_i b)] [] h (qX2_roadsByCarters h a b) := by
  refine fz_knowl (fun hk => ?_)
  have hr_a : -2147483648 ≤ a ∧ a < 2147483648 := hk _ (List.Mem.tail _ (List.Mem.head _))
  have hr_b : -2147483648 ≤ b ∧ b < 2147483648 := hk _ (List.Mem.tail _ (List.Mem.tail _ (List.Mem.head _)))
  clear hk
  refine fz_aload_n kX2_roadsByCarters rfl rfl ?_
  refine fz_getR (t := 8) kX2_roadsByCarters rfl rfl ?_
  refine fz_iload_n kX2_roadsByCarters rfl rfl ?_
  refine fz_bipush ⟨by decide, by decide⟩ kX2_roadsByCarters rfl ?_
  refine fz_imulN kX2_roadsByCarters rfl (by omega) ?_
  refine fz_iload_n kX2_roadsByCarters rfl rfl ?_
  refine fz_iaddN kX2_roadsByCarters rfl (by omega) ?_
  refine fz_ialdV (n := 64) (v := h 8 (((a * 8) + b).toNat)) kX2_roadsByCarters rfl rfl (by omega) (by omega) rfl ?_
  have b1 : 0 ≤ h 8 (((a * 8) + b).toNat) ∧ h 8 (((a * 8) + b).toNat) ≤ 1000000 := hI.1 8 _
  refine fz_istore_n (ls' := [(3, fz_i (h 8 (((a * 8) + b).toNat))), (0, fz_r 1), (1, fz_i a), (2, fz_i b)]) kX2_roadsByCarters rfl (by decide) rfl ?_
  refine fz_iload_n kX2_roadsByCarters rfl rfl ?_
  refine fz_ldc (x := 1000000) kX2_roadsByCarters rfl rfl rfl ?_
  refine fz_icmp_lt (tgt := 23) kX2_roadsByCarters rfl (by decide) (fun c2 => ?_) (fun c2 => ?_)
  · refine fz_iload_n kX2_roadsByCarters rfl rfl ?_
    refine fz_bipush ⟨by decide, by decide⟩ kX2_roadsByCarters rfl ?_
    refine fz_iremN kX2_roadsByCarters rfl (by omega) (by omega) (by omega) ?_
    exact fz_iret kX2_roadsByCarters rfl rfl (fun _ => ⟨rfl, _, rfl, (by omega), (by first | exact fz_rr_n (i := a * 8 + b) (by omega) (by omega) | exact fz_rr_y (by omega) (by omega))⟩)
  · refine fz_bipush ⟨by decide, by decide⟩ kX2_roadsByCarters rfl ?_
    refine fz_goto (tgt := 27) kX2_roadsByCarters rfl (by decide) ?_
    exact fz_iret kX2_roadsByCarters rfl rfl (fun _ => ⟨rfl, _, rfl, (by omega), (by first | exact fz_rr_n (i := a * 8 + b) (by omega) (by omega) | exact fz_rr_y (by omega) (by omega))⟩)

abbrev qJ7_fill_53178_7 (h : fz_H) (v : Int) : fz_H → Option fz_V → Prop := fun h' r0 => fz_Iv h' ∧ fz_fr [(7, 99999)] h h' ∧ r0 = none ∧ ∀ s : Nat, s < 64 → h' 7 s = v
set_option maxHeartbeats 1000000 in
set_option maxRecDepth 100000 in
theorem sJ7_fill_53178_7 (h : fz_H) (hI : fz_Iv h) (v : Int) (hp0 : 0 ≤ v ∧ v ≤ 1000000) : fz_R 0 mJ7_fill_53178 0 [(0, fz_r 7), (1, fz_i v)] [] h (qJ7_fill_53178_7 h v) := by
  refine fz_knowl (fun hk => ?_)
  have hr_v : -2147483648 ≤ v ∧ v < 2147483648 := hk _ (List.Mem.tail _ (List.Mem.head _))
  clear hk
  have hf : fz_fr [(7, 99999)] h h := fz_fr_rf
  refine fz_iconst ⟨by decide, by decide⟩ kJ7_fill_53178 rfl ?_
  refine fz_istore_n (ls' := [(2, fz_i 0), (0, fz_r 7), (1, fz_i v)]) kJ7_fill_53178 rfl (by decide) rfl ?_
  refine fz_aload_n kJ7_fill_53178 rfl rfl ?_
  refine fz_alen (n := 64) kJ7_fill_53178 rfl rfl (Or.inl rfl) (by decide) ?_
  refine fz_istore_n (ls' := [(3, fz_i 64), (2, fz_i 0), (0, fz_r 7), (1, fz_i v)]) kJ7_fill_53178 rfl (by decide) rfl ?_
  have lp6 : ∀ (n5 : Nat) (x1 : Int) (H2 : fz_H), fz_Iv H2 → fz_fr [(7, 99999)] h H2 → (0 ≤ x1 ∧ x1 ≤ 2147483647) → (∀ s : Nat, (s : Int) < x1 → H2 7 s = v) → (64 - x1).toNat < n5 → fz_R 0 mJ7_fill_53178 5 [(3, fz_i 64), (2, fz_i x1), (0, fz_r 7), (1, fz_i v)] [] H2 (qJ7_fill_53178_7 h v) := by
    intro n5
    induction n5 with
    | zero => intro x1 H2 hI3 hf4 hv9 hv10 hm8; exact absurd hm8 (by omega)
    | succ n5 ih7 =>
      intro x1 H2 hI3 hf4 hv9 hv10 hm8
      refine fz_iload_n kJ7_fill_53178 rfl rfl ?_
      refine fz_iload_n kJ7_fill_53178 rfl rfl ?_
      refine fz_icmp_ge (tgt := 20) kJ7_fill_53178 rfl (by decide) (fun c11 => ?_) (fun c11 => ?_)
      · exact fz_vret kJ7_fill_53178 rfl rfl ⟨hI3, hf4, rfl, (by exact fun s hs => hv10 s (by omega))⟩
      · refine fz_aload_n kJ7_fill_53178 rfl rfl ?_
        refine fz_iload_n kJ7_fill_53178 rfl rfl ?_
        refine fz_iload_n kJ7_fill_53178 rfl rfl ?_
        refine fz_iast (n := 64) kJ7_fill_53178 rfl rfl (by omega) (by omega) ?_
        refine fz_nmu (S := [(7, 99999)]) (h0 := h) (fz_Iv_up hI3 (by decide) (show (0 : Int) ≤ v by omega) (show (v : Int) ≤ 1000000 by omega)) (fz_fr_up hf4 rfl) (fun H13 hI14 hf15 e16 => ?_)
        refine fz_iincN (ls' := [(2, fz_i (x1 + 1)), (3, fz_i 64), (0, fz_r 7), (1, fz_i v)]) kJ7_fill_53178 rfl (by decide) rfl (by omega) rfl ?_
        refine fz_goto (tgt := 5) kJ7_fill_53178 rfl (by decide) ?_
        refine fz_sub (fz_pk_sub (ls' := [(3, fz_i 64), (2, fz_i (x1 + 1)), (0, fz_r 7), (1, fz_i v)]) [1, 0, 2, 3] rfl) ?_
        exact ih7 (x1 + 1) H13 hI14 hf15 (by omega) (fz_fi_st hv10 e16 (by omega)) (by omega)
  exact lp6 _ 0 h hI hf (by omega) (fun s hs => (by exfalso; omega)) (Nat.lt_succ_self _)

abbrev qJ7_fill_53178_8 (h : fz_H) (v : Int) : fz_H → Option fz_V → Prop := fun h' r0 => fz_Iv h' ∧ fz_fr [(8, 99999)] h h' ∧ r0 = none ∧ ∀ s : Nat, s < 64 → h' 8 s = v
set_option maxHeartbeats 1000000 in
set_option maxRecDepth 100000 in
theorem sJ7_fill_53178_8 (h : fz_H) (hI : fz_Iv h) (v : Int) (hp0 : 0 ≤ v ∧ v ≤ 1000000) : fz_R 0 mJ7_fill_53178 0 [(0, fz_r 8), (1, fz_i v)] [] h (qJ7_fill_53178_8 h v) := by
  refine fz_knowl (fun hk => ?_)
  have hr_v : -2147483648 ≤ v ∧ v < 2147483648 := hk _ (List.Mem.tail _ (List.Mem.head _))
  clear hk
  have hf : fz_fr [(8, 99999)] h h := fz_fr_rf
  refine fz_iconst ⟨by decide, by decide⟩ kJ7_fill_53178 rfl ?_
  refine fz_istore_n (ls' := [(2, fz_i 0), (0, fz_r 8), (1, fz_i v)]) kJ7_fill_53178 rfl (by decide) rfl ?_
  refine fz_aload_n kJ7_fill_53178 rfl rfl ?_
  refine fz_alen (n := 64) kJ7_fill_53178 rfl rfl (Or.inl rfl) (by decide) ?_
  refine fz_istore_n (ls' := [(3, fz_i 64), (2, fz_i 0), (0, fz_r 8), (1, fz_i v)]) kJ7_fill_53178 rfl (by decide) rfl ?_
  have lp6 : ∀ (n5 : Nat) (x1 : Int) (H2 : fz_H), fz_Iv H2 → fz_fr [(8, 99999)] h H2 → (0 ≤ x1 ∧ x1 ≤ 2147483647) → (∀ s : Nat, (s : Int) < x1 → H2 8 s = v) → (64 - x1).toNat < n5 → fz_R 0 mJ7_fill_53178 5 [(3, fz_i 64), (2, fz_i x1), (0, fz_r 8), (1, fz_i v)] [] H2 (qJ7_fill_53178_8 h v) := by
    intro n5
    induction n5 with
    | zero => intro x1 H2 hI3 hf4 hv9 hv10 hm8; exact absurd hm8 (by omega)
    | succ n5 ih7 =>
      intro x1 H2 hI3 hf4 hv9 hv10 hm8
      refine fz_iload_n kJ7_fill_53178 rfl rfl ?_
      refine fz_iload_n kJ7_fill_53178 rfl rfl ?_
      refine fz_icmp_ge (tgt := 20) kJ7_fill_53178 rfl (by decide) (fun c11 => ?_) (fun c11 => ?_)
      · exact fz_vret kJ7_fill_53178 rfl rfl ⟨hI3, hf4, rfl, (by exact fun s hs => hv10 s (by omega))⟩
      · refine fz_aload_n kJ7_fill_53178 rfl rfl ?_
        refine fz_iload_n kJ7_fill_53178 rfl rfl ?_
        refine fz_iload_n kJ7_fill_53178 rfl rfl ?_
        refine fz_iast (n := 64) kJ7_fill_53178 rfl rfl (by omega) (by omega) ?_
        refine fz_nmu (S := [(8, 99999)]) (h0 := h) (fz_Iv_up hI3 (by decide) (show (0 : Int) ≤ v by omega) (show (v : Int) ≤ 1000000 by omega)) (fz_fr_up hf4 rfl) (fun H13 hI14 hf15 e16 => ?_)
        refine fz_iincN (ls' := [(2, fz_i (x1 + 1)), (3, fz_i 64), (0, fz_r 8), (1, fz_i v)]) kJ7_fill_53178 rfl (by decide) rfl (by omega) rfl ?_
        refine fz_goto (tgt := 5) kJ7_fill_53178 rfl (by decide) ?_
        refine fz_sub (fz_pk_sub (ls' := [(3, fz_i 64), (2, fz_i (x1 + 1)), (0, fz_r 8), (1, fz_i v)]) [1, 0, 2, 3] rfl) ?_
        exact ih7 (x1 + 1) H13 hI14 hf15 (by omega) (fz_fi_st hv10 e16 (by omega)) (by omega)
  exact lp6 _ 0 h hI hf (by omega) (fun s hs => (by exfalso; omega)) (Nat.lt_succ_self _)

abbrev qJ7_fill_53178_29 (h : fz_H) (v : Int) : fz_H → Option fz_V → Prop := fun h' r0 => fz_Iv h' ∧ fz_fr [(29, 99999)] h h' ∧ r0 = none ∧ ∀ s : Nat, s < 5 → h' 29 s = v
set_option maxHeartbeats 1000000 in
set_option maxRecDepth 100000 in
theorem sJ7_fill_53178_29 (h : fz_H) (hI : fz_Iv h) (v : Int) : fz_R 0 mJ7_fill_53178 0 [(0, fz_r 29), (1, fz_i v)] [] h (qJ7_fill_53178_29 h v) := by
  refine fz_knowl (fun hk => ?_)
  have hr_v : -2147483648 ≤ v ∧ v < 2147483648 := hk _ (List.Mem.tail _ (List.Mem.head _))
  clear hk
  have hf : fz_fr [(29, 99999)] h h := fz_fr_rf
  refine fz_iconst ⟨by decide, by decide⟩ kJ7_fill_53178 rfl ?_
  refine fz_istore_n (ls' := [(2, fz_i 0), (0, fz_r 29), (1, fz_i v)]) kJ7_fill_53178 rfl (by decide) rfl ?_
  refine fz_aload_n kJ7_fill_53178 rfl rfl ?_
  refine fz_alen (n := 5) kJ7_fill_53178 rfl rfl (Or.inl rfl) (by decide) ?_
  refine fz_istore_n (ls' := [(3, fz_i 5), (2, fz_i 0), (0, fz_r 29), (1, fz_i v)]) kJ7_fill_53178 rfl (by decide) rfl ?_
  have lp6 : ∀ (n5 : Nat) (x1 : Int) (H2 : fz_H), fz_Iv H2 → fz_fr [(29, 99999)] h H2 → (0 ≤ x1 ∧ x1 ≤ 2147483647) → (∀ s : Nat, (s : Int) < x1 → H2 29 s = v) → (5 - x1).toNat < n5 → fz_R 0 mJ7_fill_53178 5 [(3, fz_i 5), (2, fz_i x1), (0, fz_r 29), (1, fz_i v)] [] H2 (qJ7_fill_53178_29 h v) := by
    intro n5
    induction n5 with
    | zero => intro x1 H2 hI3 hf4 hv9 hv10 hm8; exact absurd hm8 (by omega)
    | succ n5 ih7 =>
      intro x1 H2 hI3 hf4 hv9 hv10 hm8
      refine fz_iload_n kJ7_fill_53178 rfl rfl ?_
      refine fz_iload_n kJ7_fill_53178 rfl rfl ?_
      refine fz_icmp_ge (tgt := 20) kJ7_fill_53178 rfl (by decide) (fun c11 => ?_) (fun c11 => ?_)
      · exact fz_vret kJ7_fill_53178 rfl rfl ⟨hI3, hf4, rfl, (by exact fun s hs => hv10 s (by omega))⟩
      · refine fz_aload_n kJ7_fill_53178 rfl rfl ?_
        refine fz_iload_n kJ7_fill_53178 rfl rfl ?_
        refine fz_iload_n kJ7_fill_53178 rfl rfl ?_
        refine fz_iast (n := 5) kJ7_fill_53178 rfl rfl (by omega) (by omega) ?_
        refine fz_nmu (S := [(29, 99999)]) (h0 := h) (fz_Iv_up hI3 (by decide) (show ((-2147483648) : Int) ≤ v by omega) (show (v : Int) ≤ 2147483647 by omega)) (fz_fr_up hf4 rfl) (fun H13 hI14 hf15 e16 => ?_)
        refine fz_iincN (ls' := [(2, fz_i (x1 + 1)), (3, fz_i 5), (0, fz_r 29), (1, fz_i v)]) kJ7_fill_53178 rfl (by decide) rfl (by omega) rfl ?_
        refine fz_goto (tgt := 5) kJ7_fill_53178 rfl (by decide) ?_
        refine fz_sub (fz_pk_sub (ls' := [(3, fz_i 5), (2, fz_i (x1 + 1)), (0, fz_r 29), (1, fz_i v)]) [1, 0, 2, 3] rfl) ?_
        exact ih7 (x1 + 1) H13 hI14 hf15 (by omega) (fz_fi_st hv10 e16 (by omega)) (by omega)
  exact lp6 _ 0 h hI hf (by omega) (fun s hs => (by exfalso; omega)) (Nat.lt_succ_self _)

abbrev qJ7_fill_53178_34 (h : fz_H) (v : Int) : fz_H → Option fz_V → Prop := fun h' r0 => fz_Iv h' ∧ fz_fr [(34, 99999)] h h' ∧ r0 = none ∧ ∀ s : Nat, s < 776 → h' 34 s = v
set_option maxHeartbeats 1000000 in
set_option maxRecDepth 100000 in
theorem sJ7_fill_53178_34 (h : fz_H) (hI : fz_Iv h) (v : Int) : fz_R 0 mJ7_fill_53178 0 [(0, fz_r 34), (1, fz_i v)] [] h (qJ7_fill_53178_34 h v) := by
  refine fz_knowl (fun hk => ?_)
  have hr_v : -2147483648 ≤ v ∧ v < 2147483648 := hk _ (List.Mem.tail _ (List.Mem.head _))
  clear hk
  have hf : fz_fr [(34, 99999)] h h := fz_fr_rf
  refine fz_iconst ⟨by decide, by decide⟩ kJ7_fill_53178 rfl ?_
  refine fz_istore_n (ls' := [(2, fz_i 0), (0, fz_r 34), (1, fz_i v)]) kJ7_fill_53178 rfl (by decide) rfl ?_
  refine fz_aload_n kJ7_fill_53178 rfl rfl ?_
  refine fz_alen (n := 776) kJ7_fill_53178 rfl rfl (Or.inl rfl) (by decide) ?_
  refine fz_istore_n (ls' := [(3, fz_i 776), (2, fz_i 0), (0, fz_r 34), (1, fz_i v)]) kJ7_fill_53178 rfl (by decide) rfl ?_
  have lp6 : ∀ (n5 : Nat) (x1 : Int) (H2 : fz_H), fz_Iv H2 → fz_fr [(34, 99999)] h H2 → (0 ≤ x1 ∧ x1 ≤ 2147483647) → (∀ s : Nat, (s : Int) < x1 → H2 34 s = v) → (776 - x1).toNat < n5 → fz_R 0 mJ7_fill_53178 5 [(3, fz_i 776), (2, fz_i x1), (0, fz_r 34), (1, fz_i v)] [] H2 (qJ7_fill_53178_34 h v) := by
    intro n5
    induction n5 with
    | zero => intro x1 H2 hI3 hf4 hv9 hv10 hm8; exact absurd hm8 (by omega)
    | succ n5 ih7 =>
      intro x1 H2 hI3 hf4 hv9 hv10 hm8
      refine fz_iload_n kJ7_fill_53178 rfl rfl ?_
      refine fz_iload_n kJ7_fill_53178 rfl rfl ?_
      refine fz_icmp_ge (tgt := 20) kJ7_fill_53178 rfl (by decide) (fun c11 => ?_) (fun c11 => ?_)
      · exact fz_vret kJ7_fill_53178 rfl rfl ⟨hI3, hf4, rfl, (by exact fun s hs => hv10 s (by omega))⟩
      · refine fz_aload_n kJ7_fill_53178 rfl rfl ?_
        refine fz_iload_n kJ7_fill_53178 rfl rfl ?_
        refine fz_iload_n kJ7_fill_53178 rfl rfl ?_
        refine fz_iast (n := 776) kJ7_fill_53178 rfl rfl (by omega) (by omega) ?_
        refine fz_nmu (S := [(34, 99999)]) (h0 := h) (fz_Iv_up hI3 (by decide) (show ((-2147483648) : Int) ≤ v by omega) (show (v : Int) ≤ 2147483647 by omega)) (fz_fr_up hf4 rfl) (fun H13 hI14 hf15 e16 => ?_)
        refine fz_iincN (ls' := [(2, fz_i (x1 + 1)), (3, fz_i 776), (0, fz_r 34), (1, fz_i v)]) kJ7_fill_53178 rfl (by decide) rfl (by omega) rfl ?_
        refine fz_goto (tgt := 5) kJ7_fill_53178 rfl (by decide) ?_
        refine fz_sub (fz_pk_sub (ls' := [(3, fz_i 776), (2, fz_i (x1 + 1)), (0, fz_r 34), (1, fz_i v)]) [1, 0, 2, 3] rfl) ?_
        exact ih7 (x1 + 1) H13 hI14 hf15 (by omega) (fz_fi_st hv10 e16 (by omega)) (by omega)
  exact lp6 _ 0 h hI hf (by omega) (fun s hs => (by exfalso; omega)) (Nat.lt_succ_self _)

abbrev qJ7_fill_d0a16_32 (h : fz_H) (v : Int) : fz_H → Option fz_V → Prop := fun h' r0 => fz_Iv h' ∧ fz_fr [(32, 99999)] h h' ∧ r0 = none ∧ ∀ s : Nat, s < 5 → h' 32 s = v
set_option maxHeartbeats 1000000 in
set_option maxRecDepth 100000 in
theorem sJ7_fill_d0a16_32 (h : fz_H) (hI : fz_Iv h) (v : Int) : fz_R 0 mJ7_fill_d0a16 0 [(0, fz_r 32), (1, fz_l v)] [] h (qJ7_fill_d0a16_32 h v) := by
  refine fz_knowl (fun hk => ?_)
  have hr_v : -9223372036854775808 ≤ v ∧ v < 9223372036854775808 := hk _ (List.Mem.tail _ (List.Mem.head _))
  clear hk
  have hf : fz_fr [(32, 99999)] h h := fz_fr_rf
  refine fz_iconst ⟨by decide, by decide⟩ kJ7_fill_d0a16 rfl ?_
  refine fz_istore_n (ls' := [(3, fz_i 0), (0, fz_r 32), (1, fz_l v)]) kJ7_fill_d0a16 rfl (by decide) rfl ?_
  refine fz_aload_n kJ7_fill_d0a16 rfl rfl ?_
  refine fz_alen (n := 5) kJ7_fill_d0a16 rfl rfl (Or.inr rfl) (by decide) ?_
  refine fz_istore (ls' := [(4, fz_i 5), (3, fz_i 0), (0, fz_r 32), (1, fz_l v)]) kJ7_fill_d0a16 rfl (by decide) rfl ?_
  have lp6 : ∀ (n5 : Nat) (x1 : Int) (H2 : fz_H), fz_Iv H2 → fz_fr [(32, 99999)] h H2 → (0 ≤ x1 ∧ x1 ≤ 2147483647) → (∀ s : Nat, (s : Int) < x1 → H2 32 s = v) → (5 - x1).toNat < n5 → fz_R 0 mJ7_fill_d0a16 6 [(4, fz_i 5), (3, fz_i x1), (0, fz_r 32), (1, fz_l v)] [] H2 (qJ7_fill_d0a16_32 h v) := by
    intro n5
    induction n5 with
    | zero => intro x1 H2 hI3 hf4 hv9 hv10 hm8; exact absurd hm8 (by omega)
    | succ n5 ih7 =>
      intro x1 H2 hI3 hf4 hv9 hv10 hm8
      refine fz_iload_n kJ7_fill_d0a16 rfl rfl ?_
      refine fz_iload kJ7_fill_d0a16 rfl rfl ?_
      refine fz_icmp_ge (tgt := 22) kJ7_fill_d0a16 rfl (by decide) (fun c11 => ?_) (fun c11 => ?_)
      · exact fz_vret kJ7_fill_d0a16 rfl rfl ⟨hI3, hf4, rfl, (by exact fun s hs => hv10 s (by omega))⟩
      · refine fz_aload_n kJ7_fill_d0a16 rfl rfl ?_
        refine fz_iload_n kJ7_fill_d0a16 rfl rfl ?_
        refine fz_lload_n kJ7_fill_d0a16 rfl rfl ?_
        refine fz_last (n := 5) kJ7_fill_d0a16 rfl rfl (by omega) (by omega) ?_
        refine fz_nmu (S := [(32, 99999)]) (h0 := h) (fz_Iv_up hI3 (by decide) (show ((-9223372036854775808) : Int) ≤ v by omega) (show (v : Int) ≤ 9223372036854775807 by omega)) (fz_fr_up hf4 rfl) (fun H13 hI14 hf15 e16 => ?_)
        refine fz_iincN (ls' := [(3, fz_i (x1 + 1)), (4, fz_i 5), (0, fz_r 32), (1, fz_l v)]) kJ7_fill_d0a16 rfl (by decide) rfl (by omega) rfl ?_
        refine fz_goto (tgt := 6) kJ7_fill_d0a16 rfl (by decide) ?_
        refine fz_sub (fz_pk_sub (ls' := [(4, fz_i 5), (3, fz_i (x1 + 1)), (0, fz_r 32), (1, fz_l v)]) [1, 0, 2, 3] rfl) ?_
        exact ih7 (x1 + 1) H13 hI14 hf15 (by omega) (fz_fi_st hv10 e16 (by omega)) (by omega)
  exact lp6 _ 0 h hI hf (by omega) (fun s hs => (by exfalso; omega)) (Nat.lt_succ_self _)

abbrev qJ7_rangeCheck_23922 (h : fz_H) (n a b : Int) : fz_H → Option fz_V → Prop := fun h' r0 => h' = h ∧ r0 = none
set_option maxHeartbeats 1000000 in
set_option maxRecDepth 100000 in
theorem sJ7_rangeCheck_23922 (h : fz_H) (hI : fz_Iv h) (n a b : Int) (hp0 : 0 ≤ a ∧ a ≤ b ∧ b ≤ n) : fz_R 0 mJ7_rangeCheck_23922 0 [(0, fz_i n), (1, fz_i a), (2, fz_i b)] [] h (qJ7_rangeCheck_23922 h n a b) := by
  refine fz_knowl (fun hk => ?_)
  have hr_n : -2147483648 ≤ n ∧ n < 2147483648 := hk _ (List.Mem.head _)
  have hr_a : -2147483648 ≤ a ∧ a < 2147483648 := hk _ (List.Mem.tail _ (List.Mem.head _))
  have hr_b : -2147483648 ≤ b ∧ b < 2147483648 := hk _ (List.Mem.tail _ (List.Mem.tail _ (List.Mem.head _)))
  clear hk
  refine fz_iload_n kJ7_rangeCheck_23922 rfl rfl ?_
  refine fz_iload_n kJ7_rangeCheck_23922 rfl rfl ?_
  refine fz_icmp_le (tgt := 46) kJ7_rangeCheck_23922 rfl (by decide) (fun c1 => ?_) (fun c1 => ?_)
  · refine fz_iload_n kJ7_rangeCheck_23922 rfl rfl ?_
    refine fz_if_ge (tgt := 59) kJ7_rangeCheck_23922 rfl (by decide) (fun c2 => ?_) (fun c2 => ?_)
    · refine fz_iload_n kJ7_rangeCheck_23922 rfl rfl ?_
      refine fz_iload_n kJ7_rangeCheck_23922 rfl rfl ?_
      refine fz_icmp_le (tgt := 73) kJ7_rangeCheck_23922 rfl (by decide) (fun c3 => ?_) (fun c3 => ?_)
      · exact fz_vret kJ7_rangeCheck_23922 rfl rfl ⟨rfl, rfl⟩
      · exfalso; omega
    · exfalso; omega
  · exfalso; omega

abbrev qJ7_fill_bad5a_52 (h : fz_H) (a b v : Int) : fz_H → Option fz_V → Prop := fun h' r0 => fz_Iv h' ∧ fz_fr [(52, 99999)] h h' ∧ r0 = none ∧ h' = fz_fill h 52 a.toNat b.toNat v
set_option maxHeartbeats 1000000 in
set_option maxRecDepth 100000 in
theorem sJ7_fill_bad5a_52 (h : fz_H) (hI : fz_Iv h) (a b v : Int) (hp0 : 0 ≤ a ∧ a ≤ b ∧ b ≤ 360) : fz_R 1 mJ7_fill_bad5a 0 [(0, fz_r 52), (1, fz_i a), (2, fz_i b), (3, fz_l v)] [] h (qJ7_fill_bad5a_52 h a b v) := by
  refine fz_knowl (fun hk => ?_)
  have hr_a : -2147483648 ≤ a ∧ a < 2147483648 := hk _ (List.Mem.tail _ (List.Mem.head _))
  have hr_b : -2147483648 ≤ b ∧ b < 2147483648 := hk _ (List.Mem.tail _ (List.Mem.tail _ (List.Mem.head _)))
  have hr_v : -9223372036854775808 ≤ v ∧ v < 9223372036854775808 := hk _ (List.Mem.tail _ (List.Mem.tail _ (List.Mem.tail _ (List.Mem.head _))))
  clear hk
  have hf : fz_fr [(52, 99999)] h h := fz_fr_rf
  refine fz_aload_n kJ7_fill_bad5a rfl rfl ?_
  refine fz_alen (n := 360) kJ7_fill_bad5a rfl rfl (Or.inr rfl) (by decide) ?_
  refine fz_iload_n kJ7_fill_bad5a rfl rfl ?_
  refine fz_iload_n kJ7_fill_bad5a rfl rfl ?_
  refine fz_callS (d' := 0) (M' := mJ7_rangeCheck_23922) (As := [fz_i 360, fz_i a, fz_i b]) (st := []) kJ7_fill_bad5a rfl rfl vJ7_rangeCheck_23922 rfl rfl (Nat.le_of_ble_eq_true rfl) (Nat.le_of_ble_eq_true rfl) (by decide) (sJ7_rangeCheck_23922 h hI 360 a b (by omega)) (fun H1 r2 q3 o4 => ?_)
  obtain ⟨e5, rfl⟩ := q3
  subst H1
  clear o4
  refine fz_iload_n kJ7_fill_bad5a rfl rfl ?_
  refine fz_istore (ls' := [(5, fz_i a), (0, fz_r 52), (1, fz_i a), (2, fz_i b), (3, fz_l v)]) kJ7_fill_bad5a rfl (by decide) rfl ?_
  have lp11 : ∀ (n10 : Nat) (x6 : Int) (H7 : fz_H), fz_Iv H7 → fz_fr [(52, 99999)] h H7 → (0 ≤ x6 ∧ x6 ≤ 2147483647) → (a ≤ x6) → (x6 ≤ b) → (H7 = fz_fill h 52 a.toNat (x6 : Int).toNat v) → (b - x6).toNat < n10 → fz_R 1 mJ7_fill_bad5a 10 [(5, fz_i x6), (0, fz_r 52), (1, fz_i a), (2, fz_i b), (3, fz_l v)] [] H7 (qJ7_fill_bad5a_52 h a b v) := by
    intro n10
    induction n10 with
    | zero => intro x6 H7 hI8 hf9 hv14 hv15 hv16 hv17 hm13; exact absurd hm13 (by omega)
    | succ n10 ih12 =>
      intro x6 H7 hI8 hf9 hv14 hv15 hv16 hv17 hm13
      refine fz_iload kJ7_fill_bad5a rfl rfl ?_
      refine fz_iload_n kJ7_fill_bad5a rfl rfl ?_
      refine fz_icmp_ge (tgt := 27) kJ7_fill_bad5a rfl (by decide) (fun c18 => ?_) (fun c18 => ?_)
      · exact fz_vret kJ7_fill_bad5a rfl rfl ⟨hI8, hf9, rfl, (by exact fz_fill_e hv17 (by omega))⟩
      · refine fz_aload_n kJ7_fill_bad5a rfl rfl ?_
        refine fz_iload kJ7_fill_bad5a rfl rfl ?_
        refine fz_lload_n kJ7_fill_bad5a rfl rfl ?_
        refine fz_last (n := 360) kJ7_fill_bad5a rfl rfl (by omega) (by omega) ?_
        refine fz_nmu (S := [(52, 99999)]) (h0 := h) (fz_Iv_up hI8 (by decide) (show ((-9223372036854775808) : Int) ≤ v by omega) (show (v : Int) ≤ 9223372036854775807 by omega)) (fz_fr_up hf9 rfl) (fun H20 hI21 hf22 e23 => ?_)
        refine fz_iincN (ls' := [(5, fz_i (x6 + 1)), (0, fz_r 52), (1, fz_i a), (2, fz_i b), (3, fz_l v)]) kJ7_fill_bad5a rfl (by decide) rfl (by omega) rfl ?_
        refine fz_goto (tgt := 10) kJ7_fill_bad5a rfl (by decide) ?_
        exact ih12 (x6 + 1) H20 hI21 hf22 (by omega) (by omega) (by omega) (fz_fill_st hv17 e23 rfl rfl (by omega) (by omega)) (by omega)
  exact lp11 _ a h hI hf (by omega) (by omega) (by omega) (fz_fill_0.symm) (Nat.lt_succ_self _)

abbrev qX2_shorten_7 (h : fz_H) (rd hr : Int) : fz_H → Option fz_V → Prop := fun h' r0 => fz_Iv h' ∧ fz_fr [(7, 99999)] h h' ∧ r0 = none ∧ fz_shC 7 h h' rd hr
set_option maxHeartbeats 1000000 in
set_option maxRecDepth 100000 in
theorem sX2_shorten_7 (h : fz_H) (hI : fz_Iv h) (rd hr : Int) (hp0 : 0 ≤ rd ∧ rd < 12) (hp1 : 0 ≤ hr ∧ hr ≤ 24) : fz_R 1 mX2_shorten 0 [(0, fz_r 1), (1, fz_r 7), (2, fz_i rd), (3, fz_i hr)] [] h (qX2_shorten_7 h rd hr) := by
  refine fz_knowl (fun hk => ?_)
  have hr_rd : -2147483648 ≤ rd ∧ rd < 2147483648 := hk _ (List.Mem.tail _ (List.Mem.tail _ (List.Mem.head _)))
  have hr_hr : -2147483648 ≤ hr ∧ hr < 2147483648 := hk _ (List.Mem.tail _ (List.Mem.tail _ (List.Mem.tail _ (List.Mem.head _))))
  clear hk
  have hf : fz_fr [(7, 99999)] h h := fz_fr_rf
  refine fz_aload_n kX2_shorten rfl rfl ?_
  refine fz_getR (t := 5) kX2_shorten rfl rfl ?_
  refine fz_iload_n kX2_shorten rfl rfl ?_
  refine fz_ialdV (n := 12) (v := h 5 (rd.toNat)) kX2_shorten rfl rfl (by omega) (by omega) rfl ?_
  have b1 : 0 ≤ h 5 (rd.toNat) ∧ h 5 (rd.toNat) ≤ 7 := hI.1 5 _
  refine fz_bipush ⟨by decide, by decide⟩ kX2_shorten rfl ?_
  refine fz_imulN kX2_shorten rfl (by omega) ?_
  refine fz_aload_n kX2_shorten rfl rfl ?_
  refine fz_getR (t := 6) kX2_shorten rfl rfl ?_
  refine fz_iload_n kX2_shorten rfl rfl ?_
  refine fz_ialdV (n := 12) (v := h 6 (rd.toNat)) kX2_shorten rfl rfl (by omega) (by omega) rfl ?_
  have b2 : 0 ≤ h 6 (rd.toNat) ∧ h 6 (rd.toNat) ≤ 7 := hI.1 6 _
  refine fz_iaddN kX2_shorten rfl (by omega) ?_
  refine fz_istore (ls' := [(4, fz_i (((h 5 (rd.toNat)) * 8) + (h 6 (rd.toNat)))), (0, fz_r 1), (1, fz_r 7), (2, fz_i rd), (3, fz_i hr)]) kX2_shorten rfl (by decide) rfl ?_
  refine fz_aload_n kX2_shorten rfl rfl ?_
  refine fz_getR (t := 6) kX2_shorten rfl rfl ?_
  refine fz_iload_n kX2_shorten rfl rfl ?_
  refine fz_ialdV (n := 12) (v := h 6 (rd.toNat)) kX2_shorten rfl rfl (by omega) (by omega) rfl ?_
  refine fz_bipush ⟨by decide, by decide⟩ kX2_shorten rfl ?_
  refine fz_imulN kX2_shorten rfl (by omega) ?_
  refine fz_aload_n kX2_shorten rfl rfl ?_
  refine fz_getR (t := 5) kX2_shorten rfl rfl ?_
  refine fz_iload_n kX2_shorten rfl rfl ?_
  refine fz_ialdV (n := 12) (v := h 5 (rd.toNat)) kX2_shorten rfl rfl (by omega) (by omega) rfl ?_
  refine fz_iaddN kX2_shorten rfl (by omega) ?_
  refine fz_istore (ls' := [(5, fz_i (((h 6 (rd.toNat)) * 8) + (h 5 (rd.toNat)))), (4, fz_i (((h 5 (rd.toNat)) * 8) + (h 6 (rd.toNat)))), (0, fz_r 1), (1, fz_r 7), (2, fz_i rd), (3, fz_i hr)]) kX2_shorten rfl (by decide) rfl ?_
  refine fz_aload_n kX2_shorten rfl rfl ?_
  refine fz_iload kX2_shorten rfl rfl ?_
  refine fz_ialdV (n := 64) (v := h 7 ((((h 5 (rd.toNat)) * 8) + (h 6 (rd.toNat))).toNat)) kX2_shorten rfl rfl (by omega) (by omega) rfl ?_
  have b3 : 0 ≤ h 7 ((((h 5 (rd.toNat)) * 8) + (h 6 (rd.toNat))).toNat) ∧ h 7 ((((h 5 (rd.toNat)) * 8) + (h 6 (rd.toNat))).toNat) ≤ 1000000 := hI.1 7 _
  refine fz_iload_n kX2_shorten rfl rfl ?_
  refine fz_bipush ⟨by decide, by decide⟩ kX2_shorten rfl ?_
  refine fz_imulN kX2_shorten rfl (by omega) ?_
  refine fz_iconst ⟨by decide, by decide⟩ kX2_shorten rfl ?_
  refine fz_iaddN kX2_shorten rfl (by omega) ?_
  refine fz_min kX2_shorten rfl rfl fz_sMn fz_iMm fz_cMn (by decide) (Nat.le_of_ble_eq_true rfl) ?_
  refine fz_istore (ls' := [(6, fz_i (min (h 7 ((((h 5 (rd.toNat)) * 8) + (h 6 (rd.toNat))).toNat)) ((hr * 100) + 1))), (5, fz_i (((h 6 (rd.toNat)) * 8) + (h 5 (rd.toNat)))), (4, fz_i (((h 5 (rd.toNat)) * 8) + (h 6 (rd.toNat)))), (0, fz_r 1), (1, fz_r 7), (2, fz_i rd), (3, fz_i hr)]) kX2_shorten rfl (by decide) rfl ?_
  refine fz_aload_n kX2_shorten rfl rfl ?_
  refine fz_iload kX2_shorten rfl rfl ?_
  refine fz_iload kX2_shorten rfl rfl ?_
  refine fz_iast (n := 64) kX2_shorten rfl rfl (by omega) (by omega) ?_
  refine fz_nmu (S := [(7, 99999)]) (h0 := h) (fz_Iv_up hI (by decide) (show (0 : Int) ≤ (min (h 7 ((((h 5 (rd.toNat)) * 8) + (h 6 (rd.toNat))).toNat)) ((hr * 100) + 1)) by omega) (show ((min (h 7 ((((h 5 (rd.toNat)) * 8) + (h 6 (rd.toNat))).toNat)) ((hr * 100) + 1)) : Int) ≤ 1000000 by omega)) (fz_fr_up hf rfl) (fun H4 hI5 hf6 e7 => ?_)
  refine fz_aload_n kX2_shorten rfl rfl ?_
  refine fz_iload kX2_shorten rfl rfl ?_
  refine fz_iload kX2_shorten rfl rfl ?_
  refine fz_iast (n := 64) kX2_shorten rfl rfl (by omega) (by omega) ?_
  refine fz_nmu (S := [(7, 99999)]) (h0 := h) (fz_Iv_up hI5 (by decide) (show (0 : Int) ≤ (min (h 7 ((((h 5 (rd.toNat)) * 8) + (h 6 (rd.toNat))).toNat)) ((hr * 100) + 1)) by omega) (show ((min (h 7 ((((h 5 (rd.toNat)) * 8) + (h 6 (rd.toNat))).toNat)) ((hr * 100) + 1)) : Int) ≤ 1000000 by omega)) (fz_fr_up hf6 rfl) (fun H8 hI9 hf10 e11 => ?_)
  exact fz_vret kX2_shorten rfl rfl ⟨hI9, hf10, rfl, (by exact fz_shC_in e7 e11 (by omega) (by omega) (congr (congrArg min (congrArg (h 7) (by omega))) (by omega)))⟩

abbrev qX2_join_7 (h : fz_H) : fz_H → Option fz_V → Prop := fun h' r0 => fz_Iv h' ∧ fz_fr [(7, 99999)] h h' ∧ r0 = none ∧ fz_Di (fz_EC h 0) (h 1 7).toNat (h' 7)
set_option maxHeartbeats 1000000 in
set_option maxRecDepth 100000 in
theorem sX2_join_7 (h : fz_H) (hI : fz_Iv h) (hp0 : fz_JI (fz_EC h 0) (h 1 7).toNat (h 7) 0 0 0) : fz_R 0 mX2_join 0 [(0, fz_r 1), (1, fz_r 7)] [] h (qX2_join_7 h) := by
  have hf : fz_fr [(7, 99999)] h h := fz_fr_rf
  have b1 : 0 ≤ h 1 7 ∧ h 1 7 ≤ 8 := hI.1 1 _
  refine fz_iconst ⟨by decide, by decide⟩ kX2_join rfl ?_
  refine fz_istore_n (ls' := [(2, fz_i 0), (0, fz_r 1), (1, fz_r 7)]) kX2_join rfl (by decide) rfl ?_
  have lp7 : ∀ (n6 : Nat) (x2 : Int) (H3 : fz_H), fz_Iv H3 → fz_fr [(7, 99999)] h H3 → (0 ≤ x2 ∧ x2 ≤ 8) → (x2 ≤ h 1 7) → (fz_JI (fz_EC h 0) (h 1 7).toNat (H3 7) x2 0 0) → ((h 1 7) - x2).toNat < n6 → fz_R 0 mX2_join 2 [(2, fz_i x2), (0, fz_r 1), (1, fz_r 7)] [] H3 (qX2_join_7 h) := by
    intro n6
    induction n6 with
    | zero => intro x2 H3 hI4 hf5 hv10 hv11 hv12 hm9; exact absurd hm9 (by omega)
    | succ n6 ih8 =>
      intro x2 H3 hI4 hf5 hv10 hv11 hv12 hm9
      refine fz_iload_n kX2_join rfl rfl ?_
      refine fz_aload_n kX2_join rfl rfl ?_
      refine fz_getV (v := h 1 7) kX2_join rfl rfl (hf5 1 7 rfl) ?_
      have b13 : 0 ≤ h 1 7 ∧ h 1 7 ≤ 8 := hI.1 1 _
      refine fz_icmp_ge (tgt := 95) kX2_join rfl (by decide) (fun c14 => ?_) (fun c14 => ?_)
      · exact fz_vret kX2_join rfl rfl ⟨hI4, hf5, rfl, (by exact fz_Di_in hv12 (by omega) (by omega))⟩
      · refine fz_iconst ⟨by decide, by decide⟩ kX2_join rfl ?_
        refine fz_istore_n (ls' := [(3, fz_i 0), (2, fz_i x2), (0, fz_r 1), (1, fz_r 7)]) kX2_join rfl (by decide) rfl ?_
        have lp21 : ∀ (n20 : Nat) (x16 : Int) (H17 : fz_H), fz_Iv H17 → fz_fr [(7, 99999)] h H17 → (0 ≤ x16 ∧ x16 ≤ 8) → (fz_JI (fz_EC h 0) (h 1 7).toNat (H17 7) x2 x16 0) → ((h 1 7) - x16).toNat < n20 → fz_R 0 mX2_join 12 [(3, fz_i x16), (2, fz_i x2), (0, fz_r 1), (1, fz_r 7)] [] H17 (qX2_join_7 h) := by
          intro n20
          induction n20 with
          | zero => intro x16 H17 hI18 hf19 hv24 hv25 hm23; exact absurd hm23 (by omega)
          | succ n20 ih22 =>
            intro x16 H17 hI18 hf19 hv24 hv25 hm23
            refine fz_iload_n kX2_join rfl rfl ?_
            refine fz_aload_n kX2_join rfl rfl ?_
            refine fz_getV (v := h 1 7) kX2_join rfl rfl (hf19 1 7 rfl) ?_
            refine fz_icmp_ge (tgt := 89) kX2_join rfl (by decide) (fun c26 => ?_) (fun c26 => ?_)
            · refine fz_iincN (ls' := [(2, fz_i (x2 + 1)), (3, fz_i x16), (0, fz_r 1), (1, fz_r 7)]) kX2_join rfl (by decide) rfl (by omega) rfl ?_
              refine fz_goto (tgt := 2) kX2_join rfl (by decide) ?_
              refine fz_sub (fz_pk_sub (ls' := [(2, fz_i (x2 + 1)), (0, fz_r 1), (1, fz_r 7)]) [0, 2, 3] rfl) ?_
              exact ih8 (x2 + 1) H17 hI18 hf19 (by omega) (by omega) (fz_JI_k hv25 (by omega) (by omega)) (by omega)
            · refine fz_iconst ⟨by decide, by decide⟩ kX2_join rfl ?_
              refine fz_istore (ls' := [(4, fz_i 0), (3, fz_i x16), (2, fz_i x2), (0, fz_r 1), (1, fz_r 7)]) kX2_join rfl (by decide) rfl ?_
              have lp33 : ∀ (n32 : Nat) (x28 : Int) (H29 : fz_H), fz_Iv H29 → fz_fr [(7, 99999)] h H29 → (0 ≤ x28 ∧ x28 ≤ 8) → (fz_JI (fz_EC h 0) (h 1 7).toNat (H29 7) x2 x16 x28) → ((h 1 7) - x28).toNat < n32 → fz_R 0 mX2_join 23 [(4, fz_i x28), (3, fz_i x16), (2, fz_i x2), (0, fz_r 1), (1, fz_r 7)] [] H29 (qX2_join_7 h) := by
                intro n32
                induction n32 with
                | zero => intro x28 H29 hI30 hf31 hv36 hv37 hm35; exact absurd hm35 (by omega)
                | succ n32 ih34 =>
                  intro x28 H29 hI30 hf31 hv36 hv37 hm35
                  refine fz_iload kX2_join rfl rfl ?_
                  refine fz_aload_n kX2_join rfl rfl ?_
                  refine fz_getV (v := h 1 7) kX2_join rfl rfl (hf31 1 7 rfl) ?_
                  refine fz_icmp_ge (tgt := 83) kX2_join rfl (by decide) (fun c38 => ?_) (fun c38 => ?_)
                  · refine fz_iincN (ls' := [(3, fz_i (x16 + 1)), (4, fz_i x28), (2, fz_i x2), (0, fz_r 1), (1, fz_r 7)]) kX2_join rfl (by decide) rfl (by omega) rfl ?_
                    refine fz_goto (tgt := 12) kX2_join rfl (by decide) ?_
                    refine fz_sub (fz_pk_sub (ls' := [(3, fz_i (x16 + 1)), (2, fz_i x2), (0, fz_r 1), (1, fz_r 7)]) [0, 2, 3, 4] rfl) ?_
                    exact ih22 (x16 + 1) H29 hI30 hf31 (by omega) (fz_JI_i hv37 (by omega)) (by omega)
                  · refine fz_aload_n kX2_join rfl rfl ?_
                    refine fz_iload_n kX2_join rfl rfl ?_
                    refine fz_bipush ⟨by decide, by decide⟩ kX2_join rfl ?_
                    refine fz_imulN kX2_join rfl (by omega) ?_
                    refine fz_iload_n kX2_join rfl rfl ?_
                    refine fz_iaddN kX2_join rfl (by omega) ?_
                    obtain ⟨v40, e41⟩ : ∃ z, H29 7 (((x16 * 8) + x2).toNat) = z := ⟨_, rfl⟩
                    refine fz_ialdV (n := 64) (v := v40) kX2_join rfl rfl (by omega) (by omega) e41 ?_
                    have b42 : 0 ≤ v40 ∧ v40 ≤ 1000000 := by rw [← e41]; exact hI30.1 7 _
                    refine fz_aload_n kX2_join rfl rfl ?_
                    refine fz_iload_n kX2_join rfl rfl ?_
                    refine fz_bipush ⟨by decide, by decide⟩ kX2_join rfl ?_
                    refine fz_imulN kX2_join rfl (by omega) ?_
                    refine fz_iload kX2_join rfl rfl ?_
                    refine fz_iaddN kX2_join rfl (by omega) ?_
                    obtain ⟨v43, e44⟩ : ∃ z, H29 7 (((x2 * 8) + x28).toNat) = z := ⟨_, rfl⟩
                    refine fz_ialdV (n := 64) (v := v43) kX2_join rfl rfl (by omega) (by omega) e44 ?_
                    have b45 : 0 ≤ v43 ∧ v43 ≤ 1000000 := by rw [← e44]; exact hI30.1 7 _
                    have k46 : v40 = H29 7 (8 * (x16).toNat + (x2).toNat) := by first | exact e41.symm.trans (congrArg (H29 7) (by omega)) | exact congrArg (H29 7) (by omega)
                    have k48 : v43 = H29 7 (8 * (x2).toNat + (x28).toNat) := by first | exact e44.symm.trans (congrArg (H29 7) (by omega)) | exact congrArg (H29 7) (by omega)
                    refine fz_iaddN kX2_join rfl (by omega) ?_
                    refine fz_istore (ls' := [(5, fz_i (v40 + v43)), (4, fz_i x28), (3, fz_i x16), (2, fz_i x2), (0, fz_r 1), (1, fz_r 7)]) kX2_join rfl (by decide) rfl ?_
                    refine fz_iload kX2_join rfl rfl ?_
                    refine fz_aload_n kX2_join rfl rfl ?_
                    refine fz_iload_n kX2_join rfl rfl ?_
                    refine fz_bipush ⟨by decide, by decide⟩ kX2_join rfl ?_
                    refine fz_imulN kX2_join rfl (by omega) ?_
                    refine fz_iload kX2_join rfl rfl ?_
                    refine fz_iaddN kX2_join rfl (by omega) ?_
                    obtain ⟨v50, e51⟩ : ∃ z, H29 7 (((x16 * 8) + x28).toNat) = z := ⟨_, rfl⟩
                    refine fz_ialdV (n := 64) (v := v50) kX2_join rfl rfl (by omega) (by omega) e51 ?_
                    have b52 : 0 ≤ v50 ∧ v50 ≤ 1000000 := by rw [← e51]; exact hI30.1 7 _
                    have k53 : v50 = H29 7 (8 * (x16).toNat + (x28).toNat) := by first | exact e51.symm.trans (congrArg (H29 7) (by omega)) | exact congrArg (H29 7) (by omega)
                    refine fz_icmp_ge (tgt := 77) kX2_join rfl (by decide) (fun c55 => ?_) (fun c55 => ?_)
                    · refine fz_iincN (ls' := [(4, fz_i (x28 + 1)), (5, fz_i (v40 + v43)), (3, fz_i x16), (2, fz_i x2), (0, fz_r 1), (1, fz_r 7)]) kX2_join rfl (by decide) rfl (by omega) rfl ?_
                      refine fz_goto (tgt := 23) kX2_join rfl (by decide) ?_
                      refine fz_sub (fz_pk_sub (ls' := [(4, fz_i (x28 + 1)), (3, fz_i x16), (2, fz_i x2), (0, fz_r 1), (1, fz_r 7)]) [0, 2, 3, 4, 5] rfl) ?_
                      exact ih34 (x28 + 1) H29 hI30 hf31 (by omega) (by first | exact fz_JI_st hv37 (by omega) k46 k48 k53 (by omega) (fz_up_M lost (by omega) rfl) | exact fz_JI_no hv37 (by omega) k46 k48 k53 (by omega)) (by omega)
                    · refine fz_aload_n kX2_join rfl rfl ?_
                      refine fz_iload_n kX2_join rfl rfl ?_
                      refine fz_bipush ⟨by decide, by decide⟩ kX2_join rfl ?_
                      refine fz_imulN kX2_join rfl (by omega) ?_
                      refine fz_iload kX2_join rfl rfl ?_
                      refine fz_iaddN kX2_join rfl (by omega) ?_
                      refine fz_iload kX2_join rfl rfl ?_
                      refine fz_iast (n := 64) kX2_join rfl rfl (by omega) (by omega) ?_
                      refine fz_nmu (S := [(7, 99999)]) (h0 := h) (fz_Iv_up hI30 (by decide) (show (0 : Int) ≤ (v40 + v43) by omega) (show ((v40 + v43) : Int) ≤ 1000000 by omega)) (fz_fr_up hf31 rfl) (fun H57 hI58 hf59 e60 => ?_)
                      refine fz_iincN (ls' := [(4, fz_i (x28 + 1)), (5, fz_i (v40 + v43)), (3, fz_i x16), (2, fz_i x2), (0, fz_r 1), (1, fz_r 7)]) kX2_join rfl (by decide) rfl (by omega) rfl ?_
                      refine fz_goto (tgt := 23) kX2_join rfl (by decide) ?_
                      refine fz_sub (fz_pk_sub (ls' := [(4, fz_i (x28 + 1)), (3, fz_i x16), (2, fz_i x2), (0, fz_r 1), (1, fz_r 7)]) [0, 2, 3, 4, 5] rfl) ?_
                      exact ih34 (x28 + 1) H57 hI58 hf59 (by omega) (by first | exact fz_JI_st hv37 (by omega) k46 k48 k53 (by omega) (fz_up_M e60 (by omega) rfl) | exact fz_JI_no hv37 (by omega) k46 k48 k53 (by omega)) (by omega)
              exact lp33 _ 0 H17 hI18 hf19 (by omega) (hv25) (Nat.lt_succ_self _)
        exact lp21 _ 0 H3 hI4 hf5 (by omega) (hv12) (Nat.lt_succ_self _)
  exact lp7 _ 0 h hI hf (by omega) (by omega) (hp0) (Nat.lt_succ_self _)

abbrev qX2_shorten_8 (h : fz_H) (rd hr : Int) : fz_H → Option fz_V → Prop := fun h' r0 => fz_Iv h' ∧ fz_fr [(8, 99999)] h h' ∧ r0 = none ∧ fz_shC 8 h h' rd hr
set_option maxHeartbeats 1000000 in
set_option maxRecDepth 100000 in
theorem sX2_shorten_8 (h : fz_H) (hI : fz_Iv h) (rd hr : Int) (hp0 : 0 ≤ rd ∧ rd < 12) (hp1 : 0 ≤ hr ∧ hr ≤ 24) : fz_R 1 mX2_shorten 0 [(0, fz_r 1), (1, fz_r 8), (2, fz_i rd), (3, fz_i hr)] [] h (qX2_shorten_8 h rd hr) := by
  refine fz_knowl (fun hk => ?_)
  have hr_rd : -2147483648 ≤ rd ∧ rd < 2147483648 := hk _ (List.Mem.tail _ (List.Mem.tail _ (List.Mem.head _)))
  have hr_hr : -2147483648 ≤ hr ∧ hr < 2147483648 := hk _ (List.Mem.tail _ (List.Mem.tail _ (List.Mem.tail _ (List.Mem.head _))))
  clear hk
  have hf : fz_fr [(8, 99999)] h h := fz_fr_rf
  refine fz_aload_n kX2_shorten rfl rfl ?_
  refine fz_getR (t := 5) kX2_shorten rfl rfl ?_
  refine fz_iload_n kX2_shorten rfl rfl ?_
  refine fz_ialdV (n := 12) (v := h 5 (rd.toNat)) kX2_shorten rfl rfl (by omega) (by omega) rfl ?_
  have b1 : 0 ≤ h 5 (rd.toNat) ∧ h 5 (rd.toNat) ≤ 7 := hI.1 5 _
  refine fz_bipush ⟨by decide, by decide⟩ kX2_shorten rfl ?_
  refine fz_imulN kX2_shorten rfl (by omega) ?_
  refine fz_aload_n kX2_shorten rfl rfl ?_
  refine fz_getR (t := 6) kX2_shorten rfl rfl ?_
  refine fz_iload_n kX2_shorten rfl rfl ?_
  refine fz_ialdV (n := 12) (v := h 6 (rd.toNat)) kX2_shorten rfl rfl (by omega) (by omega) rfl ?_
  have b2 : 0 ≤ h 6 (rd.toNat) ∧ h 6 (rd.toNat) ≤ 7 := hI.1 6 _
  refine fz_iaddN kX2_shorten rfl (by omega) ?_
  refine fz_istore (ls' := [(4, fz_i (((h 5 (rd.toNat)) * 8) + (h 6 (rd.toNat)))), (0, fz_r 1), (1, fz_r 8), (2, fz_i rd), (3, fz_i hr)]) kX2_shorten rfl (by decide) rfl ?_
  refine fz_aload_n kX2_shorten rfl rfl ?_
  refine fz_getR (t := 6) kX2_shorten rfl rfl ?_
  refine fz_iload_n kX2_shorten rfl rfl ?_
  refine fz_ialdV (n := 12) (v := h 6 (rd.toNat)) kX2_shorten rfl rfl (by omega) (by omega) rfl ?_
  refine fz_bipush ⟨by decide, by decide⟩ kX2_shorten rfl ?_
  refine fz_imulN kX2_shorten rfl (by omega) ?_
  refine fz_aload_n kX2_shorten rfl rfl ?_
  refine fz_getR (t := 5) kX2_shorten rfl rfl ?_
  refine fz_iload_n kX2_shorten rfl rfl ?_
  refine fz_ialdV (n := 12) (v := h 5 (rd.toNat)) kX2_shorten rfl rfl (by omega) (by omega) rfl ?_
  refine fz_iaddN kX2_shorten rfl (by omega) ?_
  refine fz_istore (ls' := [(5, fz_i (((h 6 (rd.toNat)) * 8) + (h 5 (rd.toNat)))), (4, fz_i (((h 5 (rd.toNat)) * 8) + (h 6 (rd.toNat)))), (0, fz_r 1), (1, fz_r 8), (2, fz_i rd), (3, fz_i hr)]) kX2_shorten rfl (by decide) rfl ?_
  refine fz_aload_n kX2_shorten rfl rfl ?_
  refine fz_iload kX2_shorten rfl rfl ?_
  refine fz_ialdV (n := 64) (v := h 8 ((((h 5 (rd.toNat)) * 8) + (h 6 (rd.toNat))).toNat)) kX2_shorten rfl rfl (by omega) (by omega) rfl ?_
  have b3 : 0 ≤ h 8 ((((h 5 (rd.toNat)) * 8) + (h 6 (rd.toNat))).toNat) ∧ h 8 ((((h 5 (rd.toNat)) * 8) + (h 6 (rd.toNat))).toNat) ≤ 1000000 := hI.1 8 _
  refine fz_iload_n kX2_shorten rfl rfl ?_
  refine fz_bipush ⟨by decide, by decide⟩ kX2_shorten rfl ?_
  refine fz_imulN kX2_shorten rfl (by omega) ?_
  refine fz_iconst ⟨by decide, by decide⟩ kX2_shorten rfl ?_
  refine fz_iaddN kX2_shorten rfl (by omega) ?_
  refine fz_min kX2_shorten rfl rfl fz_sMn fz_iMm fz_cMn (by decide) (Nat.le_of_ble_eq_true rfl) ?_
  refine fz_istore (ls' := [(6, fz_i (min (h 8 ((((h 5 (rd.toNat)) * 8) + (h 6 (rd.toNat))).toNat)) ((hr * 100) + 1))), (5, fz_i (((h 6 (rd.toNat)) * 8) + (h 5 (rd.toNat)))), (4, fz_i (((h 5 (rd.toNat)) * 8) + (h 6 (rd.toNat)))), (0, fz_r 1), (1, fz_r 8), (2, fz_i rd), (3, fz_i hr)]) kX2_shorten rfl (by decide) rfl ?_
  refine fz_aload_n kX2_shorten rfl rfl ?_
  refine fz_iload kX2_shorten rfl rfl ?_
  refine fz_iload kX2_shorten rfl rfl ?_
  refine fz_iast (n := 64) kX2_shorten rfl rfl (by omega) (by omega) ?_
  refine fz_nmu (S := [(8, 99999)]) (h0 := h) (fz_Iv_up hI (by decide) (show (0 : Int) ≤ (min (h 8 ((((h 5 (rd.toNat)) * 8) + (h 6 (rd.toNat))).toNat)) ((hr * 100) + 1)) by omega) (show ((min (h 8 ((((h 5 (rd.toNat)) * 8) + (h 6 (rd.toNat))).toNat)) ((hr * 100) + 1)) : Int) ≤ 1000000 by omega)) (fz_fr_up hf rfl) (fun H4 hI5 hf6 e7 => ?_)
  refine fz_aload_n kX2_shorten rfl rfl ?_
  refine fz_iload kX2_shorten rfl rfl ?_
  refine fz_iload kX2_shorten rfl rfl ?_
  refine fz_iast (n := 64) kX2_shorten rfl rfl (by omega) (by omega) ?_
  refine fz_nmu (S := [(8, 99999)]) (h0 := h) (fz_Iv_up hI5 (by decide) (show (0 : Int) ≤ (min (h 8 ((((h 5 (rd.toNat)) * 8) + (h 6 (rd.toNat))).toNat)) ((hr * 100) + 1)) by omega) (show ((min (h 8 ((((h 5 (rd.toNat)) * 8) + (h 6 (rd.toNat))).toNat)) ((hr * 100) + 1)) : Int) ≤ 1000000 by omega)) (fz_fr_up hf6 rfl) (fun H8 hI9 hf10 e11 => ?_)
  exact fz_vret kX2_shorten rfl rfl ⟨hI9, hf10, rfl, (by exact fz_shC_in e7 e11 (by omega) (by omega) (congr (congrArg min (congrArg (h 8) (by omega))) (by omega)))⟩

abbrev qX2_join_8 (h : fz_H) : fz_H → Option fz_V → Prop := fun h' r0 => fz_Iv h' ∧ fz_fr [(8, 99999)] h h' ∧ r0 = none ∧ fz_Di (fz_EC h 1) (h 1 7).toNat (h' 8)
set_option maxHeartbeats 1000000 in
set_option maxRecDepth 100000 in
theorem sX2_join_8 (h : fz_H) (hI : fz_Iv h) (hp0 : fz_JI (fz_EC h 1) (h 1 7).toNat (h 8) 0 0 0) : fz_R 0 mX2_join 0 [(0, fz_r 1), (1, fz_r 8)] [] h (qX2_join_8 h) := by
  have hf : fz_fr [(8, 99999)] h h := fz_fr_rf
  have b1 : 0 ≤ h 1 7 ∧ h 1 7 ≤ 8 := hI.1 1 _
  refine fz_iconst ⟨by decide, by decide⟩ kX2_join rfl ?_
  refine fz_istore_n (ls' := [(2, fz_i 0), (0, fz_r 1), (1, fz_r 8)]) kX2_join rfl (by decide) rfl ?_
  have lp7 : ∀ (n6 : Nat) (x2 : Int) (H3 : fz_H), fz_Iv H3 → fz_fr [(8, 99999)] h H3 → (0 ≤ x2 ∧ x2 ≤ 8) → (x2 ≤ h 1 7) → (fz_JI (fz_EC h 1) (h 1 7).toNat (H3 8) x2 0 0) → ((h 1 7) - x2).toNat < n6 → fz_R 0 mX2_join 2 [(2, fz_i x2), (0, fz_r 1), (1, fz_r 8)] [] H3 (qX2_join_8 h) := by
    intro n6
    induction n6 with
    | zero => intro x2 H3 hI4 hf5 hv10 hv11 hv12 hm9; exact absurd hm9 (by omega)
    | succ n6 ih8 =>
      intro x2 H3 hI4 hf5 hv10 hv11 hv12 hm9
      refine fz_iload_n kX2_join rfl rfl ?_
      refine fz_aload_n kX2_join rfl rfl ?_
      refine fz_getV (v := h 1 7) kX2_join rfl rfl (hf5 1 7 rfl) ?_
      have b13 : 0 ≤ h 1 7 ∧ h 1 7 ≤ 8 := hI.1 1 _
      refine fz_icmp_ge (tgt := 95) kX2_join rfl (by decide) (fun c14 => ?_) (fun c14 => ?_)
      · exact fz_vret kX2_join rfl rfl ⟨hI4, hf5, rfl, (by exact fz_Di_in hv12 (by omega) (by omega))⟩
      · refine fz_iconst ⟨by decide, by decide⟩ kX2_join rfl ?_
        refine fz_istore_n (ls' := [(3, fz_i 0), (2, fz_i x2), (0, fz_r 1), (1, fz_r 8)]) kX2_join rfl (by decide) rfl ?_
        have lp21 : ∀ (n20 : Nat) (x16 : Int) (H17 : fz_H), fz_Iv H17 → fz_fr [(8, 99999)] h H17 → (0 ≤ x16 ∧ x16 ≤ 8) → (fz_JI (fz_EC h 1) (h 1 7).toNat (H17 8) x2 x16 0) → ((h 1 7) - x16).toNat < n20 → fz_R 0 mX2_join 12 [(3, fz_i x16), (2, fz_i x2), (0, fz_r 1), (1, fz_r 8)] [] H17 (qX2_join_8 h) := by
          intro n20
          induction n20 with
          | zero => intro x16 H17 hI18 hf19 hv24 hv25 hm23; exact absurd hm23 (by omega)
          | succ n20 ih22 =>
            intro x16 H17 hI18 hf19 hv24 hv25 hm23
            refine fz_iload_n kX2_join rfl rfl ?_
            refine fz_aload_n kX2_join rfl rfl ?_
            refine fz_getV (v := h 1 7) kX2_join rfl rfl (hf19 1 7 rfl) ?_
            refine fz_icmp_ge (tgt := 89) kX2_join rfl (by decide) (fun c26 => ?_) (fun c26 => ?_)
            · refine fz_iincN (ls' := [(2, fz_i (x2 + 1)), (3, fz_i x16), (0, fz_r 1), (1, fz_r 8)]) kX2_join rfl (by decide) rfl (by omega) rfl ?_
              refine fz_goto (tgt := 2) kX2_join rfl (by decide) ?_
              refine fz_sub (fz_pk_sub (ls' := [(2, fz_i (x2 + 1)), (0, fz_r 1), (1, fz_r 8)]) [0, 2, 3] rfl) ?_
              exact ih8 (x2 + 1) H17 hI18 hf19 (by omega) (by omega) (fz_JI_k hv25 (by omega) (by omega)) (by omega)
            · refine fz_iconst ⟨by decide, by decide⟩ kX2_join rfl ?_
              refine fz_istore (ls' := [(4, fz_i 0), (3, fz_i x16), (2, fz_i x2), (0, fz_r 1), (1, fz_r 8)]) kX2_join rfl (by decide) rfl ?_
              have lp33 : ∀ (n32 : Nat) (x28 : Int) (H29 : fz_H), fz_Iv H29 → fz_fr [(8, 99999)] h H29 → (0 ≤ x28 ∧ x28 ≤ 8) → (fz_JI (fz_EC h 1) (h 1 7).toNat (H29 8) x2 x16 x28) → ((h 1 7) - x28).toNat < n32 → fz_R 0 mX2_join 23 [(4, fz_i x28), (3, fz_i x16), (2, fz_i x2), (0, fz_r 1), (1, fz_r 8)] [] H29 (qX2_join_8 h) := by
                intro n32
                induction n32 with
                | zero => intro x28 H29 hI30 hf31 hv36 hv37 hm35; exact absurd hm35 (by omega)
                | succ n32 ih34 =>
                  intro x28 H29 hI30 hf31 hv36 hv37 hm35
                  refine fz_iload kX2_join rfl rfl ?_
                  refine fz_aload_n kX2_join rfl rfl ?_
                  refine fz_getV (v := h 1 7) kX2_join rfl rfl (hf31 1 7 rfl) ?_
                  refine fz_icmp_ge (tgt := 83) kX2_join rfl (by decide) (fun c38 => ?_) (fun c38 => ?_)
                  · refine fz_iincN (ls' := [(3, fz_i (x16 + 1)), (4, fz_i x28), (2, fz_i x2), (0, fz_r 1), (1, fz_r 8)]) kX2_join rfl (by decide) rfl (by omega) rfl ?_
                    refine fz_goto (tgt := 12) kX2_join rfl (by decide) ?_
                    refine fz_sub (fz_pk_sub (ls' := [(3, fz_i (x16 + 1)), (2, fz_i x2), (0, fz_r 1), (1, fz_r 8)]) [0, 2, 3, 4] rfl) ?_
                    exact ih22 (x16 + 1) H29 hI30 hf31 (by omega) (fz_JI_i hv37 (by omega)) (by omega)
                  · refine fz_aload_n kX2_join rfl rfl ?_
                    refine fz_iload_n kX2_join rfl rfl ?_
                    refine fz_bipush ⟨by decide, by decide⟩ kX2_join rfl ?_
                    refine fz_imulN kX2_join rfl (by omega) ?_
                    refine fz_iload_n kX2_join rfl rfl ?_
                    refine fz_iaddN kX2_join rfl (by omega) ?_
                    obtain ⟨v40, e41⟩ : ∃ z, H29 8 (((x16 * 8) + x2).toNat) = z := ⟨_, rfl⟩
                    refine fz_ialdV (n := 64) (v := v40) kX2_join rfl rfl (by omega) (by omega) e41 ?_
                    have b42 : 0 ≤ v40 ∧ v40 ≤ 1000000 := by rw [← e41]; exact hI30.1 8 _
                    refine fz_aload_n kX2_join rfl rfl ?_
                    refine fz_iload_n kX2_join rfl rfl ?_
                    refine fz_bipush ⟨by decide, by decide⟩ kX2_join rfl ?_
                    refine fz_imulN kX2_join rfl (by omega) ?_
                    refine fz_iload kX2_join rfl rfl ?_
                    refine fz_iaddN kX2_join rfl (by omega) ?_
                    obtain ⟨v43, e44⟩ : ∃ z, H29 8 (((x2 * 8) + x28).toNat) = z := ⟨_, rfl⟩
                    refine fz_ialdV (n := 64) (v := v43) kX2_join rfl rfl (by omega) (by omega) e44 ?_
                    have b45 : 0 ≤ v43 ∧ v43 ≤ 1000000 := by rw [← e44]; exact hI30.1 8 _
                    have k46 : v40 = H29 8 (8 * (x16).toNat + (x2).toNat) := by first | exact e41.symm.trans (congrArg (H29 8) (by omega)) | exact congrArg (H29 8) (by omega)
                    have k48 : v43 = H29 8 (8 * (x2).toNat + (x28).toNat) := by first | exact e44.symm.trans (congrArg (H29 8) (by omega)) | exact congrArg (H29 8) (by omega)
                    refine fz_iaddN kX2_join rfl (by omega) ?_
                    refine fz_istore (ls' := [(5, fz_i (v40 + v43)), (4, fz_i x28), (3, fz_i x16), (2, fz_i x2), (0, fz_r 1), (1, fz_r 8)]) kX2_join rfl (by decide) rfl ?_
                    refine fz_iload kX2_join rfl rfl ?_
                    refine fz_aload_n kX2_join rfl rfl ?_
                    refine fz_iload_n kX2_join rfl rfl ?_
                    refine fz_bipush ⟨by decide, by decide⟩ kX2_join rfl ?_
                    refine fz_imulN kX2_join rfl (by omega) ?_
                    refine fz_iload kX2_join rfl rfl ?_
                    refine fz_iaddN kX2_join rfl (by omega) ?_
                    obtain ⟨v50, e51⟩ : ∃ z, H29 8 (((x16 * 8) + x28).toNat) = z := ⟨_, rfl⟩
                    refine fz_ialdV (n := 64) (v := v50) kX2_join rfl rfl (by omega) (by omega) e51 ?_
                    have b52 : 0 ≤ v50 ∧ v50 ≤ 1000000 := by rw [← e51]; exact hI30.1 8 _
                    have k53 : v50 = H29 8 (8 * (x16).toNat + (x28).toNat) := by first | exact e51.symm.trans (congrArg (H29 8) (by omega)) | exact congrArg (H29 8) (by omega)
                    refine fz_icmp_ge (tgt := 77) kX2_join rfl (by decide) (fun c55 => ?_) (fun c55 => ?_)
                    · refine fz_iincN (ls' := [(4, fz_i (x28 + 1)), (5, fz_i (v40 + v43)), (3, fz_i x16), (2, fz_i x2), (0, fz_r 1), (1, fz_r 8)]) kX2_join rfl (by decide) rfl (by omega) rfl ?_
                      refine fz_goto (tgt := 23) kX2_join rfl (by decide) ?_
                      refine fz_sub (fz_pk_sub (ls' := [(4, fz_i (x28 + 1)), (3, fz_i x16), (2, fz_i x2), (0, fz_r 1), (1, fz_r 8)]) [0, 2, 3, 4, 5] rfl) ?_
                      exact ih34 (x28 + 1) H29 hI30 hf31 (by omega) (by first | exact fz_JI_st hv37 (by omega) k46 k48 k53 (by omega) (fz_up_M lost (by omega) rfl) | exact fz_JI_no hv37 (by omega) k46 k48 k53 (by omega)) (by omega)
                    · refine fz_aload_n kX2_join rfl rfl ?_
                      refine fz_iload_n kX2_join rfl rfl ?_
                      refine fz_bipush ⟨by decide, by decide⟩ kX2_join rfl ?_
                      refine fz_imulN kX2_join rfl (by omega) ?_
                      refine fz_iload kX2_join rfl rfl ?_
                      refine fz_iaddN kX2_join rfl (by omega) ?_
                      refine fz_iload kX2_join rfl rfl ?_
                      refine fz_iast (n := 64) kX2_join rfl rfl (by omega) (by omega) ?_
                      refine fz_nmu (S := [(8, 99999)]) (h0 := h) (fz_Iv_up hI30 (by decide) (show (0 : Int) ≤ (v40 + v43) by omega) (show ((v40 + v43) : Int) ≤ 1000000 by omega)) (fz_fr_up hf31 rfl) (fun H57 hI58 hf59 e60 => ?_)
                      refine fz_iincN (ls' := [(4, fz_i (x28 + 1)), (5, fz_i (v40 + v43)), (3, fz_i x16), (2, fz_i x2), (0, fz_r 1), (1, fz_r 8)]) kX2_join rfl (by decide) rfl (by omega) rfl ?_
                      refine fz_goto (tgt := 23) kX2_join rfl (by decide) ?_
                      refine fz_sub (fz_pk_sub (ls' := [(4, fz_i (x28 + 1)), (3, fz_i x16), (2, fz_i x2), (0, fz_r 1), (1, fz_r 8)]) [0, 2, 3, 4, 5] rfl) ?_
                      exact ih34 (x28 + 1) H57 hI58 hf59 (by omega) (by first | exact fz_JI_st hv37 (by omega) k46 k48 k53 (by omega) (fz_up_M e60 (by omega) rfl) | exact fz_JI_no hv37 (by omega) k46 k48 k53 (by omega)) (by omega)
              exact lp33 _ 0 H17 hI18 hf19 (by omega) (hv25) (Nat.lt_succ_self _)
        exact lp21 _ 0 H3 hI4 hf5 (by omega) (hv12) (Nat.lt_succ_self _)
  exact lp7 _ 0 h hI hf (by omega) (by omega) (hp0) (Nat.lt_succ_self _)

abbrev qX2_measure (h : fz_H) : fz_H → Option fz_V → Prop := fun h' r0 => fz_Iv h' ∧ fz_fr [(7, 99999), (8, 99999)] h h' ∧ fz_RE h' ∧ r0 = none ∧ fz_RV h'
set_option maxHeartbeats 1000000 in
set_option maxRecDepth 100000 in
theorem sX2_measure (h : fz_H) (hI : fz_Iv h) (hRE : fz_RE h) : fz_R 2 mX2_measure 0 [(0, fz_r 1)] [] h (qX2_measure h) := by
  have hf : fz_fr [(7, 99999), (8, 99999)] h h := fz_fr_rf
  refine fz_aload_n kX2_measure rfl rfl ?_
  refine fz_getR (t := 7) kX2_measure rfl rfl ?_
  refine fz_ldc (x := 1000000) kX2_measure rfl rfl rfl ?_
  refine fz_callS (d' := 0) (M' := mJ7_fill_53178) (As := [fz_r 7, fz_i 1000000]) (st := []) kX2_measure rfl rfl vJ7_fill_53178 rfl rfl (Nat.le_of_ble_eq_true rfl) (Nat.le_of_ble_eq_true rfl) (by decide) (sJ7_fill_53178_7 h hI 1000000 (by omega)) (fun H1 r2 q3 o4 => ?_)
  obtain ⟨hI5, hf6, rfl, f7⟩ := q3
  clear o4
  have hf8 := fz_fr_tr hf hf6 (show fz_su [(7, 99999)] [(7, 99999), (8, 99999)] = true from rfl)
  have hRE9 : fz_RE H1 := fz_RE_eq (funext fun s => hf6 5 s rfl) (funext fun s => hf6 6 s rfl) (hf6 1 8 rfl) (hf6 1 7 rfl) hRE
  refine fz_aload_n kX2_measure rfl rfl ?_
  refine fz_getR (t := 8) kX2_measure rfl rfl ?_
  refine fz_ldc (x := 1000000) kX2_measure rfl rfl rfl ?_
  refine fz_callS (d' := 0) (M' := mJ7_fill_53178) (As := [fz_r 8, fz_i 1000000]) (st := []) kX2_measure rfl rfl vJ7_fill_53178 rfl rfl (Nat.le_of_ble_eq_true rfl) (Nat.le_of_ble_eq_true rfl) (by decide) (sJ7_fill_53178_8 H1 hI5 1000000 (by omega)) (fun H10 r11 q12 o13 => ?_)
  obtain ⟨hI14, hf15, rfl, f16⟩ := q12
  clear o13
  have hf17 := fz_fr_tr hf8 hf15 (show fz_su [(8, 99999)] [(7, 99999), (8, 99999)] = true from rfl)
  have hRE18 : fz_RE H10 := fz_RE_eq (funext fun s => hf15 5 s rfl) (funext fun s => hf15 6 s rfl) (hf15 1 8 rfl) (hf15 1 7 rfl) hRE9
  refine fz_iconst ⟨by decide, by decide⟩ kX2_measure rfl ?_
  refine fz_istore_n (ls' := [(1, fz_i 0), (0, fz_r 1)]) kX2_measure rfl (by decide) rfl ?_
  have lp25 : ∀ (n24 : Nat) (x19 : Int) (H21 : fz_H), fz_Iv H21 → fz_fr [(7, 99999), (8, 99999)] h H21 → fz_RE H21 → (0 ≤ x19 ∧ x19 ≤ 2147483647) → (fz_Di0 (h 1 7) (H21 7) x19) → (fz_Di0 (h 1 7) (H21 8) x19) → ((h 1 7) - x19).toNat < n24 → fz_R 2 mX2_measure 20 [(1, fz_i x19), (0, fz_r 1)] [] H21 (qX2_measure h) := by
    intro n24
    induction n24 with
    | zero => intro x19 H21 hI22 hf23 hRE20 hv28 hv29 hv30 hm27; exact absurd hm27 (by omega)
    | succ n24 ih26 =>
      intro x19 H21 hI22 hf23 hRE20 hv28 hv29 hv30 hm27
      refine fz_iload_n kX2_measure rfl rfl ?_
      refine fz_aload_n kX2_measure rfl rfl ?_
      refine fz_getV (v := h 1 7) kX2_measure rfl rfl (hf23 1 7 rfl) ?_
      have b31 : 0 ≤ h 1 7 ∧ h 1 7 ≤ 8 := hI.1 1 _
      refine fz_icmp_ge (tgt := 58) kX2_measure rfl (by decide) (fun c32 => ?_) (fun c32 => ?_)
      · refine fz_iconst ⟨by decide, by decide⟩ kX2_measure rfl ?_
        refine fz_istore_n (ls' := [(1, fz_i 0), (0, fz_r 1)]) kX2_measure rfl (by decide) rfl ?_
        have lp39 : ∀ (n38 : Nat) (x33 : Int) (H35 : fz_H), fz_Iv H35 → fz_fr [(7, 99999), (8, 99999)] h H35 → fz_RE H35 → (0 ≤ x33 ∧ x33 ≤ 2147483647) → (fz_Sh (h 1 8) (h 5) (h 6) (h 3) (h 4) 0 (h 1 7).toNat (H35 7) x33) → (fz_Sh (h 1 8) (h 5) (h 6) (h 3) (h 4) 1 (h 1 7).toNat (H35 8) x33) → ((h 1 8) - x33).toNat < n38 → fz_R 2 mX2_measure 60 [(1, fz_i x33), (0, fz_r 1)] [] H35 (qX2_measure h) := by
          intro n38
          induction n38 with
          | zero => intro x33 H35 hI36 hf37 hRE34 hv42 hv43 hv44 hm41; exact absurd hm41 (by omega)
          | succ n38 ih40 =>
            intro x33 H35 hI36 hf37 hRE34 hv42 hv43 hv44 hm41
            refine fz_iload_n kX2_measure rfl rfl ?_
            refine fz_aload_n kX2_measure rfl rfl ?_
            refine fz_getV (v := h 1 8) kX2_measure rfl rfl (hf37 1 8 rfl) ?_
            have b45 : 0 ≤ h 1 8 ∧ h 1 8 ≤ 12 := hI.1 1 _
            refine fz_icmp_ge (tgt := 118) kX2_measure rfl (by decide) (fun c46 => ?_) (fun c46 => ?_)
            · have k47 : fz_JI (fz_EC H35 0) (H35 1 7).toNat (H35 7) 0 0 0 := fz_RV_J ⟨hf37 1 8 rfl, hf37 1 7 rfl, funext fun s => hf37 5 s rfl, funext fun s => hf37 6 s rfl, funext fun s => hf37 3 s rfl, funext fun s => hf37 4 s rfl⟩ hv43 rfl (by omega) (by omega) (fun r => (hI.1 3 r).1) hRE (fun s => hI36.1 7 s) (fun r => ⟨(hI.1 5 r).1, (hI.1 6 r).1⟩)
              have k49 : fz_s5 h H35 := ⟨hf37 1 8 rfl, hf37 1 7 rfl, funext fun s => hf37 5 s rfl, funext fun s => hf37 6 s rfl, funext fun s => hf37 3 s rfl, funext fun s => hf37 4 s rfl⟩
              refine fz_aload_n kX2_measure rfl rfl ?_
              refine fz_aload_n kX2_measure rfl rfl ?_
              refine fz_getR (t := 7) kX2_measure rfl rfl ?_
              have e51 : H35 1 7 = h 1 7 := hf37 1 7 rfl
              refine fz_callV (d' := 0) (M' := mX2_join) (As := [fz_r 7]) (st := []) kX2_measure rfl rfl vX2_join rfl rfl rfl rfl (Nat.le_of_ble_eq_true rfl) (Nat.le_of_ble_eq_true rfl) (by decide) (sX2_join_7 H35 hI36  k47) (fun H52 r53 q54 o55 => ?_)
              obtain ⟨hI56, hf57, rfl, f58⟩ := q54
              clear o55
              have hf59 := fz_fr_tr hf37 hf57 (show fz_su [(7, 99999)] [(7, 99999), (8, 99999)] = true from rfl)
              have hRE60 : fz_RE H52 := fz_RE_eq (funext fun s => hf57 5 s rfl) (funext fun s => hf57 6 s rfl) (hf57 1 8 rfl) (hf57 1 7 rfl) hRE34
              have k61 : fz_JI (fz_EC H52 1) (H52 1 7).toNat (H52 8) 0 0 0 := fz_RV_J ⟨hf59 1 8 rfl, hf59 1 7 rfl, funext fun s => hf59 5 s rfl, funext fun s => hf59 6 s rfl, funext fun s => hf59 3 s rfl, funext fun s => hf59 4 s rfl⟩ (fz_Sh_e hv44 (funext fun s => hf57 8 s rfl)) rfl (by omega) (by omega) (fun r => (hI.1 3 r).1) hRE (fun s => hI56.1 8 s) (fun r => ⟨(hI.1 5 r).1, (hI.1 6 r).1⟩)
              have k63 : fz_s5 h H52 := ⟨hf59 1 8 rfl, hf59 1 7 rfl, funext fun s => hf59 5 s rfl, funext fun s => hf59 6 s rfl, funext fun s => hf59 3 s rfl, funext fun s => hf59 4 s rfl⟩
              refine fz_aload_n kX2_measure rfl rfl ?_
              refine fz_aload_n kX2_measure rfl rfl ?_
              refine fz_getR (t := 8) kX2_measure rfl rfl ?_
              have e65 : H52 1 7 = h 1 7 := hf59 1 7 rfl
              refine fz_callV (d' := 0) (M' := mX2_join) (As := [fz_r 8]) (st := []) kX2_measure rfl rfl vX2_join rfl rfl rfl rfl (Nat.le_of_ble_eq_true rfl) (Nat.le_of_ble_eq_true rfl) (by decide) (sX2_join_8 H52 hI56  k61) (fun H66 r67 q68 o69 => ?_)
              obtain ⟨hI70, hf71, rfl, f72⟩ := q68
              clear o69
              have hf73 := fz_fr_tr hf59 hf71 (show fz_su [(8, 99999)] [(7, 99999), (8, 99999)] = true from rfl)
              have hRE74 : fz_RE H66 := fz_RE_eq (funext fun s => hf71 5 s rfl) (funext fun s => hf71 6 s rfl) (hf71 1 8 rfl) (hf71 1 7 rfl) hRE60
              exact fz_vret kX2_measure rfl rfl ⟨hI70, hf73, hRE74, rfl, (by exact fz_RV_in f58 f72 k49 k63 ⟨hf73 1 8 rfl, hf73 1 7 rfl, funext fun s => hf73 5 s rfl, funext fun s => hf73 6 s rfl, funext fun s => hf73 3 s rfl, funext fun s => hf73 4 s rfl⟩ (funext fun s => hf71 7 s rfl) rfl)⟩
            · have k76 : 0 ≤ h 5 (x33).toNat ∧ h 5 (x33).toNat < ((h 1 7).toNat : Int) ∧ 0 ≤ h 6 (x33).toNat ∧ h 6 (x33).toNat < ((h 1 7).toNat : Int) := (by have := fz_RE_i hRE (x := x33) (by omega); have := hI.1 5 (x33).toNat; have := hI.1 6 (x33).toNat; have a5 : 0 ≤ h 5 (x33).toNat := (hI.1 5 _).1; have a6 : 0 ≤ h 6 (x33).toNat := (hI.1 6 _).1; omega)
              refine fz_aload_n kX2_measure rfl rfl ?_
              refine fz_aload_n kX2_measure rfl rfl ?_
              refine fz_getR (t := 7) kX2_measure rfl rfl ?_
              refine fz_iload_n kX2_measure rfl rfl ?_
              refine fz_aload_n kX2_measure rfl rfl ?_
              refine fz_getR (t := 3) kX2_measure rfl rfl ?_
              refine fz_iload_n kX2_measure rfl rfl ?_
              refine fz_ialdV (n := 12) (v := h 3 (x33.toNat)) kX2_measure rfl rfl (by omega) (by omega) (hf37 3 _ rfl) ?_
              have b78 : 0 ≤ h 3 (x33.toNat) ∧ h 3 (x33.toNat) ≤ 24 := hI.1 3 _
              refine fz_callV (d' := 1) (M' := mX2_shorten) (As := [fz_r 7, fz_i x33, fz_i (h 3 (x33.toNat))]) (st := []) kX2_measure rfl rfl vX2_shorten rfl rfl rfl rfl (Nat.le_of_ble_eq_true rfl) (Nat.le_of_ble_eq_true rfl) (by decide) (sX2_shorten_7 H35 hI36 x33 (h 3 (x33.toNat)) (by omega) (by omega)) (fun H79 r80 q81 o82 => ?_)
              obtain ⟨hI83, hf84, rfl, f85⟩ := q81
              clear o82
              have hf86 := fz_fr_tr hf37 hf84 (show fz_su [(7, 99999)] [(7, 99999), (8, 99999)] = true from rfl)
              have hRE87 : fz_RE H79 := fz_RE_eq (funext fun s => hf84 5 s rfl) (funext fun s => hf84 6 s rfl) (hf84 1 8 rfl) (hf84 1 7 rfl) hRE34
              refine fz_aload_n kX2_measure rfl rfl ?_
              refine fz_getR (t := 4) kX2_measure rfl rfl ?_
              refine fz_iload_n kX2_measure rfl rfl ?_
              refine fz_ialdV (n := 12) (v := h 4 (x33.toNat)) kX2_measure rfl rfl (by omega) (by omega) (hf86 4 _ rfl) ?_
              have b88 : 0 ≤ h 4 (x33.toNat) ∧ h 4 (x33.toNat) ≤ 1 := hI.1 4 _
              refine fz_iconst ⟨by decide, by decide⟩ kX2_measure rfl ?_
              refine fz_icmp_ne (tgt := 112) kX2_measure rfl (by decide) (fun c89 => ?_) (fun c89 => ?_)
              · refine fz_iincN (ls' := [(1, fz_i (x33 + 1)), (0, fz_r 1)]) kX2_measure rfl (by decide) rfl (by omega) rfl ?_
                refine fz_goto (tgt := 60) kX2_measure rfl (by decide) ?_
                exact ih40 (x33 + 1) H79 hI83 hf86 hRE87 (by omega) (by first | exact fz_Sh_e (fz_Sh_sh hv43 f85 (funext fun s => hf37 5 s rfl) (funext fun s => hf37 6 s rfl) (by omega) (by omega) (Or.inl rfl) k76 (hI.1 3 _) (by rw [if_pos rfl])) (funext fun s => lost 7 s rfl) | exact fz_Sh_sh hv43 f85 (funext fun s => hf37 5 s rfl) (funext fun s => hf37 6 s rfl) (by omega) (by omega) (Or.inl rfl) k76 (hI.1 3 _) (by rw [if_pos rfl])) (by first | exact fz_Sh_sh (fz_Sh_e hv44 (funext fun s => hf84 8 s rfl)) lost (funext fun s => lost 5 s rfl) (funext fun s => lost 6 s rfl) (by omega) (by omega) (Or.inr (by omega)) k76 (hI.1 3 _) (by rw [if_neg (by decide)]) | exact fz_Sh_no (fz_Sh_e hv44 (funext fun s => hf84 8 s rfl)) (by omega) ⟨by decide, by omega⟩) (by omega)
              · refine fz_aload_n kX2_measure rfl rfl ?_
                refine fz_aload_n kX2_measure rfl rfl ?_
                refine fz_getR (t := 8) kX2_measure rfl rfl ?_
                refine fz_iload_n kX2_measure rfl rfl ?_
                refine fz_aload_n kX2_measure rfl rfl ?_
                refine fz_getR (t := 3) kX2_measure rfl rfl ?_
                refine fz_iload_n kX2_measure rfl rfl ?_
                refine fz_ialdV (n := 12) (v := h 3 (x33.toNat)) kX2_measure rfl rfl (by omega) (by omega) (hf86 3 _ rfl) ?_
                refine fz_iconst ⟨by decide, by decide⟩ kX2_measure rfl ?_
                refine fz_iaddN kX2_measure rfl (by omega) ?_
                refine fz_iconst ⟨by decide, by decide⟩ kX2_measure rfl ?_
                refine fz_idivN kX2_measure rfl (by omega) (by omega) (by omega) ?_
                refine fz_callV (d' := 1) (M' := mX2_shorten) (As := [fz_r 8, fz_i x33, fz_i (((h 3 (x33.toNat)) + 1) / 2)]) (st := []) kX2_measure rfl rfl vX2_shorten rfl rfl rfl rfl (Nat.le_of_ble_eq_true rfl) (Nat.le_of_ble_eq_true rfl) (by decide) (sX2_shorten_8 H79 hI83 x33 (((h 3 (x33.toNat)) + 1) / 2) (by omega) (by omega)) (fun H92 r93 q94 o95 => ?_)
                obtain ⟨hI96, hf97, rfl, f98⟩ := q94
                clear o95
                have hf99 := fz_fr_tr hf86 hf97 (show fz_su [(8, 99999)] [(7, 99999), (8, 99999)] = true from rfl)
                have hRE100 : fz_RE H92 := fz_RE_eq (funext fun s => hf97 5 s rfl) (funext fun s => hf97 6 s rfl) (hf97 1 8 rfl) (hf97 1 7 rfl) hRE87
                refine fz_iincN (ls' := [(1, fz_i (x33 + 1)), (0, fz_r 1)]) kX2_measure rfl (by decide) rfl (by omega) rfl ?_
                refine fz_goto (tgt := 60) kX2_measure rfl (by decide) ?_
                exact ih40 (x33 + 1) H92 hI96 hf99 hRE100 (by omega) (by first | exact fz_Sh_e (fz_Sh_sh hv43 f85 (funext fun s => hf37 5 s rfl) (funext fun s => hf37 6 s rfl) (by omega) (by omega) (Or.inl rfl) k76 (hI.1 3 _) (by rw [if_pos rfl])) (funext fun s => hf97 7 s rfl) | exact fz_Sh_sh hv43 f85 (funext fun s => hf37 5 s rfl) (funext fun s => hf37 6 s rfl) (by omega) (by omega) (Or.inl rfl) k76 (hI.1 3 _) (by rw [if_pos rfl])) (by first | exact fz_Sh_sh (fz_Sh_e hv44 (funext fun s => hf84 8 s rfl)) f98 (funext fun s => hf86 5 s rfl) (funext fun s => hf86 6 s rfl) (by omega) (by omega) (Or.inr (by omega)) k76 (hI.1 3 _) (by rw [if_neg (by decide)]) | exact fz_Sh_no (fz_Sh_e hv44 (funext fun s => hf84 8 s rfl)) (by omega) ⟨by decide, by omega⟩) (by omega)
        exact lp39 _ 0 H21 hI22 hf23 hRE20 (by omega) (fz_Sh_0 hv29 (by omega) (by omega) (by omega)) (fz_Sh_0 hv30 (by omega) (by omega) (by omega)) (Nat.lt_succ_self _)
      · refine fz_aload_n kX2_measure rfl rfl ?_
        refine fz_getR (t := 7) kX2_measure rfl rfl ?_
        refine fz_iload_n kX2_measure rfl rfl ?_
        refine fz_bipush ⟨by decide, by decide⟩ kX2_measure rfl ?_
        refine fz_imulN kX2_measure rfl (by omega) ?_
        refine fz_iload_n kX2_measure rfl rfl ?_
        refine fz_iaddN kX2_measure rfl (by omega) ?_
        refine fz_iconst ⟨by decide, by decide⟩ kX2_measure rfl ?_
        refine fz_iast (n := 64) kX2_measure rfl rfl (by omega) (by omega) ?_
        refine fz_nmu (S := [(7, 99999), (8, 99999)]) (h0 := h) (fz_Iv_up hI22 (by decide) (show (0 : Int) ≤ 0 by decide) (show (0 : Int) ≤ 1000000 by decide)) (fz_fr_up hf23 rfl) (fun H105 hI106 hf107 e108 => ?_)
        have hRE109 : fz_RE H105 := fz_RE_eq (by rw [e108]; exact fz_up_ne (by decide)) (by rw [e108]; exact fz_up_ne (by decide)) (by rw [e108]; exact fz_up_o (by decide)) (by rw [e108]; exact fz_up_o (by decide)) hRE20
        refine fz_aload_n kX2_measure rfl rfl ?_
        refine fz_getR (t := 8) kX2_measure rfl rfl ?_
        refine fz_iload_n kX2_measure rfl rfl ?_
        refine fz_bipush ⟨by decide, by decide⟩ kX2_measure rfl ?_
        refine fz_imulN kX2_measure rfl (by omega) ?_
        refine fz_iload_n kX2_measure rfl rfl ?_
        refine fz_iaddN kX2_measure rfl (by omega) ?_
        refine fz_iconst ⟨by decide, by decide⟩ kX2_measure rfl ?_
        refine fz_iast (n := 64) kX2_measure rfl rfl (by omega) (by omega) ?_
        refine fz_nmu (S := [(7, 99999), (8, 99999)]) (h0 := h) (fz_Iv_up hI106 (by decide) (show (0 : Int) ≤ 0 by decide) (show (0 : Int) ≤ 1000000 by decide)) (fz_fr_up hf107 rfl) (fun H110 hI111 hf112 e113 => ?_)
        have hRE114 : fz_RE H110 := fz_RE_eq (by rw [e113]; exact fz_up_ne (by decide)) (by rw [e113]; exact fz_up_ne (by decide)) (by rw [e113]; exact fz_up_o (by decide)) (by rw [e113]; exact fz_up_o (by decide)) hRE109
        refine fz_iincN (ls' := [(1, fz_i (x19 + 1)), (0, fz_r 1)]) kX2_measure rfl (by decide) rfl (by omega) rfl ?_
        refine fz_goto (tgt := 20) kX2_measure rfl (by decide) ?_
        exact ih26 (x19 + 1) H110 hI111 hf112 hRE114 (by omega) (fz_Di0_st hv29 (by omega) (fz_up_Ma e108 e113 (by decide) (by omega) rfl)) (fz_Di0_st hv30 (by omega) (fz_up_Mb e108 e113 (by decide) (by omega) rfl)) (by omega)
  exact lp25 _ 0 H10 hI14 hf17 hRE18 (by omega) (fz_Di0_0 (fun s hs => (hf15 7 s rfl).trans (f7 s hs)) rfl) (fz_Di0_0 f16 rfl) (Nat.lt_succ_self _)

abbrev qX2_addTown (h : fz_H) (df : Int) : fz_H → Option fz_V → Prop := fun h' r0 => fz_Iv h' ∧ fz_fr [(1, 7), (2, 99999), (7, 99999), (8, 99999)] h h' ∧ fz_RE h' ∧ fz_RV h' ∧ ∃ r : Int, r0 = some (fz_i r) ∧ ((-3) ≤ r ∧ r ≤ 7) ∧ ((h 1 7 < 8 ∧ r = h 1 7 ∧ h' 1 7 = h 1 7 + 1) ∨ (8 ≤ h 1 7 ∧ r = -3 ∧ h' 1 7 = h 1 7)) ∧ (fz_tnC h h' df)
set_option maxHeartbeats 1000000 in
set_option maxRecDepth 100000 in
theorem sX2_addTown (h : fz_H) (hI : fz_Iv h) (df : Int) (hRE : fz_RE h) (hRV : fz_RV h) (hp0 : 0 ≤ df ∧ df ≤ 9) : fz_R 3 mX2_addTown 0 [(0, fz_r 1), (1, fz_i df)] [] h (qX2_addTown h df) := by
  refine fz_knowl (fun hk => ?_)
  have hr_df : -2147483648 ≤ df ∧ df < 2147483648 := hk _ (List.Mem.tail _ (List.Mem.head _))
  clear hk
  have hf : fz_fr [(1, 7), (2, 99999), (7, 99999), (8, 99999)] h h := fz_fr_rf
  have b1 : 0 ≤ h 1 7 ∧ h 1 7 ≤ 8 := hI.1 1 _
  refine fz_aload_n kX2_addTown rfl rfl ?_
  refine fz_getV (v := h 1 7) kX2_addTown rfl rfl rfl ?_
  have b2 : 0 ≤ h 1 7 ∧ h 1 7 ≤ 8 := hI.1 1 _
  refine fz_bipush ⟨by decide, by decide⟩ kX2_addTown rfl ?_
  refine fz_icmp_lt (tgt := 12) kX2_addTown rfl (by decide) (fun c3 => ?_) (fun c3 => ?_)
  · refine fz_aload_n kX2_addTown rfl rfl ?_
    refine fz_getR (t := 2) kX2_addTown rfl rfl ?_
    refine fz_aload_n kX2_addTown rfl rfl ?_
    refine fz_getV (v := h 1 7) kX2_addTown rfl rfl rfl ?_
    refine fz_iload_n kX2_addTown rfl rfl ?_
    refine fz_iast (n := 8) kX2_addTown rfl rfl (by omega) (by omega) ?_
    refine fz_nmu (S := [(1, 7), (2, 99999), (7, 99999), (8, 99999)]) (h0 := h) (fz_Iv_up hI (by decide) (show (0 : Int) ≤ df by omega) (show (df : Int) ≤ 9 by omega)) (fz_fr_up hf rfl) (fun H4 hI5 hf6 e7 => ?_)
    have k8 : H4 1 7 = (h 1 7) := by rw [e7]; exact (fz_up_o (by decide)).trans rfl
    have t9 : H4 1 7 = h 1 7 := by rw [e7]; exact fz_up_o (by decide)
    have hRE10 : fz_RE H4 := fz_RE_eq (by rw [e7]; exact fz_up_ne (by decide)) (by rw [e7]; exact fz_up_ne (by decide)) (by rw [e7]; exact fz_up_o (by decide)) (by rw [e7]; exact fz_up_o (by decide)) hRE
    have hRV11 : fz_RV H4 := fz_RV_eq (by rw [e7]; exact fz_up_ne (by decide)) (by rw [e7]; exact fz_up_ne (by decide)) (by rw [e7]; exact fz_up_ne (by decide)) (by rw [e7]; exact fz_up_ne (by decide)) (by rw [e7]; exact fz_up_ne (by decide)) (by rw [e7]; exact fz_up_ne (by decide)) (by rw [e7]; exact fz_up_o (by decide)) (by rw [e7]; exact fz_up_o (by decide)) hRV
    refine fz_aload_n kX2_addTown rfl rfl ?_
    refine fz_dup rfl kX2_addTown rfl ?_
    refine fz_getV (v := (h 1 7)) kX2_addTown rfl rfl k8 ?_
    refine fz_iconst ⟨by decide, by decide⟩ kX2_addTown rfl ?_
    refine fz_iaddN kX2_addTown rfl (by omega) ?_
    refine fz_putI kX2_addTown rfl rfl rfl ?_
    refine fz_nmu (S := [(1, 7), (2, 99999), (7, 99999), (8, 99999)]) (h0 := h) (fz_Iv_up hI5 (by decide) (show (0 : Int) ≤ ((h 1 7) + 1) by omega) (show (((h 1 7) + 1) : Int) ≤ 8 by omega)) (fz_fr_up hf6 rfl) (fun H12 hI13 hf14 e15 => ?_)
    have k16 : H12 1 7 = ((h 1 7) + 1) := by rw [e15]; exact fz_up_e
    have hRE17 : fz_RE H12 := by exact fz_RE_t (by rw [e15]; exact fz_up_ne (by decide)) (by rw [e15]; exact fz_up_ne (by decide)) (by rw [e15]; exact fz_up_s (by decide)) (by rw [e15, fz_up_e]; omega) hRE10
    refine fz_aload_n kX2_addTown rfl rfl ?_
    refine fz_callV (d' := 2) (M' := mX2_measure) (As := []) (st := []) kX2_addTown rfl rfl vX2_measure rfl rfl rfl rfl (Nat.le_of_ble_eq_true rfl) (Nat.le_of_ble_eq_true rfl) (by decide) (sX2_measure H12 hI13  hRE17) (fun H20 r21 q22 o23 => ?_)
    obtain ⟨hI24, hf25, hRE26, rfl, f27⟩ := q22
    clear o23
    have hf28 := fz_fr_tr hf14 hf25 (show fz_su [(7, 99999), (8, 99999)] [(1, 7), (2, 99999), (7, 99999), (8, 99999)] = true from rfl)
    have k29 : H20 1 7 = ((h 1 7) + 1) := (hf25 1 7 rfl).trans k16
    have t30 : H20 1 7 = H12 1 7 := hf25 1 7 rfl
    have hRV31 : fz_RV H20 := f27
    refine fz_aload_n kX2_addTown rfl rfl ?_
    refine fz_getV (v := ((h 1 7) + 1)) kX2_addTown rfl rfl k29 ?_
    refine fz_iconst ⟨by decide, by decide⟩ kX2_addTown rfl ?_
    refine fz_isubN kX2_addTown rfl (by omega) ?_
    exact fz_iret kX2_addTown rfl rfl (fun _ => ⟨hI24, hf28, hRE26, hRV31, _, rfl, (by omega), (by omega), (by first | exact fz_tnC_in e7 e15 (funext fun s => hf25 2 s rfl) (by omega) | exact Or.inr ⟨by omega, rfl⟩)⟩)
  · refine fz_bipush ⟨by decide, by decide⟩ kX2_addTown rfl ?_
    exact fz_iret kX2_addTown rfl rfl (fun _ => ⟨hI, hf, hRE, hRV, _, rfl, (by omega), (by omega), (by first | exact fz_tnC_in lost lost (funext fun s => lost 2 s rfl) (by omega) | exact Or.inr ⟨by omega, rfl⟩)⟩)

abbrev qX2_addRoad (h : fz_H) (a b hr : Int) : fz_H → Option fz_V → Prop := fun h' r0 => fz_Iv h' ∧ fz_fr [(1, 8), (3, 99999), (4, 99999), (5, 99999), (6, 99999), (7, 99999), (8, 99999)] h h' ∧ fz_RE h' ∧ fz_RV h' ∧ ∃ r : Int, r0 = some (fz_i r) ∧ ((-3) ≤ r ∧ r ≤ 11) ∧ ((h 1 8 < 12 ∧ r = h 1 8 ∧ h' 1 8 = h 1 8 + 1) ∨ (12 ≤ h 1 8 ∧ r = -3 ∧ h' 1 8 = h 1 8)) ∧ (fz_rnC h h' a b hr)
set_option maxHeartbeats 1000000 in
set_option maxRecDepth 100000 in
theorem sX2_addRoad (h : fz_H) (hI : fz_Iv h) (a b hr : Int) (hRE : fz_RE h) (hRV : fz_RV h) (hp0 : 0 ≤ a ∧ a < 8) (hp1 : 0 ≤ b ∧ b < 8) (hp2 : 1 ≤ hr ∧ hr ≤ 24) (hp3 : a < h 1 7 ∧ b < h 1 7) : fz_R 3 mX2_addRoad 0 [(0, fz_r 1), (1, fz_i a), (2, fz_i b), (3, fz_i hr)] [] h (qX2_addRoad h a b hr) := by
  refine fz_knowl (fun hk => ?_)
  have hr_a : -2147483648 ≤ a ∧ a < 2147483648 := hk _ (List.Mem.tail _ (List.Mem.head _))
  have hr_b : -2147483648 ≤ b ∧ b < 2147483648 := hk _ (List.Mem.tail _ (List.Mem.tail _ (List.Mem.head _)))
  have hr_hr : -2147483648 ≤ hr ∧ hr < 2147483648 := hk _ (List.Mem.tail _ (List.Mem.tail _ (List.Mem.tail _ (List.Mem.head _))))
  clear hk
  have hf : fz_fr [(1, 8), (3, 99999), (4, 99999), (5, 99999), (6, 99999), (7, 99999), (8, 99999)] h h := fz_fr_rf
  have b1 : 0 ≤ h 1 7 ∧ h 1 7 ≤ 8 := hI.1 1 _
  have b2 : 0 ≤ h 1 8 ∧ h 1 8 ≤ 12 := hI.1 1 _
  refine fz_aload_n kX2_addRoad rfl rfl ?_
  refine fz_getV (v := h 1 8) kX2_addRoad rfl rfl rfl ?_
  have b3 : 0 ≤ h 1 8 ∧ h 1 8 ≤ 12 := hI.1 1 _
  refine fz_bipush ⟨by decide, by decide⟩ kX2_addRoad rfl ?_
  refine fz_icmp_lt (tgt := 12) kX2_addRoad rfl (by decide) (fun c4 => ?_) (fun c4 => ?_)
  · refine fz_aload_n kX2_addRoad rfl rfl ?_
    refine fz_getR (t := 5) kX2_addRoad rfl rfl ?_
    refine fz_aload_n kX2_addRoad rfl rfl ?_
    refine fz_getV (v := h 1 8) kX2_addRoad rfl rfl rfl ?_
    refine fz_iload_n kX2_addRoad rfl rfl ?_
    refine fz_iast (n := 12) kX2_addRoad rfl rfl (by omega) (by omega) ?_
    refine fz_nmu (S := [(1, 8), (3, 99999), (4, 99999), (5, 99999), (6, 99999), (7, 99999), (8, 99999)]) (h0 := h) (fz_Iv_up hI (by decide) (show (0 : Int) ≤ a by omega) (show (a : Int) ≤ 7 by omega)) (fz_fr_up hf rfl) (fun H5 hI6 hf7 e8 => ?_)
    have k9 : H5 1 8 = (h 1 8) := by rw [e8]; exact (fz_up_o (by decide)).trans rfl
    have t10 : H5 1 8 = h 1 8 := by rw [e8]; exact fz_up_o (by decide)
    refine fz_aload_n kX2_addRoad rfl rfl ?_
    refine fz_getR (t := 6) kX2_addRoad rfl rfl ?_
    refine fz_aload_n kX2_addRoad rfl rfl ?_
    refine fz_getV (v := (h 1 8)) kX2_addRoad rfl rfl k9 ?_
    refine fz_iload_n kX2_addRoad rfl rfl ?_
    refine fz_iast (n := 12) kX2_addRoad rfl rfl (by omega) (by omega) ?_
    refine fz_nmu (S := [(1, 8), (3, 99999), (4, 99999), (5, 99999), (6, 99999), (7, 99999), (8, 99999)]) (h0 := h) (fz_Iv_up hI6 (by decide) (show (0 : Int) ≤ b by omega) (show (b : Int) ≤ 7 by omega)) (fz_fr_up hf7 rfl) (fun H13 hI14 hf15 e16 => ?_)
    have k17 : H13 1 8 = (h 1 8) := by rw [e16]; exact (fz_up_o (by decide)).trans k9
    have t18 : H13 1 8 = H5 1 8 := by rw [e16]; exact fz_up_o (by decide)
    refine fz_aload_n kX2_addRoad rfl rfl ?_
    refine fz_getR (t := 3) kX2_addRoad rfl rfl ?_
    refine fz_aload_n kX2_addRoad rfl rfl ?_
    refine fz_getV (v := (h 1 8)) kX2_addRoad rfl rfl k17 ?_
    refine fz_iload_n kX2_addRoad rfl rfl ?_
    refine fz_iast (n := 12) kX2_addRoad rfl rfl (by omega) (by omega) ?_
    refine fz_nmu (S := [(1, 8), (3, 99999), (4, 99999), (5, 99999), (6, 99999), (7, 99999), (8, 99999)]) (h0 := h) (fz_Iv_up hI14 (by decide) (show (0 : Int) ≤ hr by omega) (show (hr : Int) ≤ 24 by omega)) (fz_fr_up hf15 rfl) (fun H19 hI20 hf21 e22 => ?_)
    have k23 : H19 1 8 = (h 1 8) := by rw [e22]; exact (fz_up_o (by decide)).trans k17
    have t24 : H19 1 8 = H13 1 8 := by rw [e22]; exact fz_up_o (by decide)
    refine fz_aload_n kX2_addRoad rfl rfl ?_
    refine fz_getR (t := 4) kX2_addRoad rfl rfl ?_
    refine fz_aload_n kX2_addRoad rfl rfl ?_
    refine fz_getV (v := (h 1 8)) kX2_addRoad rfl rfl k23 ?_
    refine fz_iconst ⟨by decide, by decide⟩ kX2_addRoad rfl ?_
    refine fz_iast (n := 12) kX2_addRoad rfl rfl (by omega) (by omega) ?_
    refine fz_nmu (S := [(1, 8), (3, 99999), (4, 99999), (5, 99999), (6, 99999), (7, 99999), (8, 99999)]) (h0 := h) (fz_Iv_up hI20 (by decide) (show (0 : Int) ≤ 1 by decide) (show (1 : Int) ≤ 1 by decide)) (fz_fr_up hf21 rfl) (fun H25 hI26 hf27 e28 => ?_)
    have k29 : H25 1 8 = (h 1 8) := by rw [e28]; exact (fz_up_o (by decide)).trans k23
    have t30 : H25 1 8 = H19 1 8 := by rw [e28]; exact fz_up_o (by decide)
    refine fz_aload_n kX2_addRoad rfl rfl ?_
    refine fz_dup rfl kX2_addRoad rfl ?_
    refine fz_getV (v := (h 1 8)) kX2_addRoad rfl rfl k29 ?_
    refine fz_iconst ⟨by decide, by decide⟩ kX2_addRoad rfl ?_
    refine fz_iaddN kX2_addRoad rfl (by omega) ?_
    refine fz_putI kX2_addRoad rfl rfl rfl ?_
    refine fz_nmu (S := [(1, 8), (3, 99999), (4, 99999), (5, 99999), (6, 99999), (7, 99999), (8, 99999)]) (h0 := h) (fz_Iv_up hI26 (by decide) (show (0 : Int) ≤ ((h 1 8) + 1) by omega) (show (((h 1 8) + 1) : Int) ≤ 12 by omega)) (fz_fr_up hf27 rfl) (fun H31 hI32 hf33 e34 => ?_)
    have k35 : H31 1 8 = ((h 1 8) + 1) := by rw [e34]; exact fz_up_e
    have hRE36 : fz_RE H31 := by exact fz_RE_in e8 e16 e22 e28 e34 (by omega) (by omega) (by omega) (by omega) hRE
    refine fz_aload_n kX2_addRoad rfl rfl ?_
    refine fz_callV (d' := 2) (M' := mX2_measure) (As := []) (st := []) kX2_addRoad rfl rfl vX2_measure rfl rfl rfl rfl (Nat.le_of_ble_eq_true rfl) (Nat.le_of_ble_eq_true rfl) (by decide) (sX2_measure H31 hI32  hRE36) (fun H38 r39 q40 o41 => ?_)
    obtain ⟨hI42, hf43, hRE44, rfl, f45⟩ := q40
    clear o41
    have hf46 := fz_fr_tr hf33 hf43 (show fz_su [(7, 99999), (8, 99999)] [(1, 8), (3, 99999), (4, 99999), (5, 99999), (6, 99999), (7, 99999), (8, 99999)] = true from rfl)
    have k47 : H38 1 8 = ((h 1 8) + 1) := (hf43 1 8 rfl).trans k35
    have t48 : H38 1 8 = H31 1 8 := hf43 1 8 rfl
    have hRV49 : fz_RV H38 := f45
    refine fz_aload_n kX2_addRoad rfl rfl ?_
    refine fz_getV (v := ((h 1 8) + 1)) kX2_addRoad rfl rfl k47 ?_
    refine fz_iconst ⟨by decide, by decide⟩ kX2_addRoad rfl ?_
    refine fz_isubN kX2_addRoad rfl (by omega) ?_
    exact fz_iret kX2_addRoad rfl rfl (fun _ => ⟨hI42, hf46, hRE44, hRV49, _, rfl, (by omega), (by omega), (by first | exact fz_rnC_in e8 e16 e22 e28 e34 (funext fun s => hf43 5 s rfl) (funext fun s => hf43 6 s rfl) (funext fun s => hf43 3 s rfl) (funext fun s => hf43 4 s rfl) (by omega) | exact Or.inr ⟨by omega, rfl, rfl, rfl, rfl⟩)⟩)
  · refine fz_bipush ⟨by decide, by decide⟩ kX2_addRoad rfl ?_
    exact fz_iret kX2_addRoad rfl rfl (fun _ => ⟨hI, hf, hRE, hRV, _, rfl, (by omega), (by omega), (by first | exact fz_rnC_in lost lost lost lost lost (funext fun s => lost 5 s rfl) (funext fun s => lost 6 s rfl) (funext fun s => lost 3 s rfl) (funext fun s => lost 4 s rfl) (by omega) | exact Or.inr ⟨by omega, rfl, rfl, rfl, rfl⟩)⟩)

abbrev qX2_isCartedTo (h : fz_H) (a b wo : Int) : fz_H → Option fz_V → Prop := fun h' r0 => h' = h ∧ ∃ r : Int, r0 = some (fz_i r) ∧ (r = 0 ∨ r = 1) ∧ ((r = 1 ∧ fl_catC h wo a b) ∨ (r = 0 ∧ ¬ fl_catC h wo a b))
set_option maxHeartbeats 1000000 in
set_option maxRecDepth 100000 in
theorem sX2_isCartedTo (h : fz_H) (hI : fz_Iv h) (a b wo : Int) (hRE : fz_RE h) (hp0 : 0 ≤ a ∧ a < h 1 7) (hp1 : 0 ≤ b ∧ b < h 1 7) : fz_R 0 mX2_isCartedTo 0 [(0, fz_r 1), (1, fz_i a), (2, fz_i b), (3, fz_i wo)] [] h (qX2_isCartedTo h a b wo) := by
  refine fz_knowl (fun hk => ?_)
  have hr_a : -2147483648 ≤ a ∧ a < 2147483648 := hk _ (List.Mem.tail _ (List.Mem.head _))
  have hr_b : -2147483648 ≤ b ∧ b < 2147483648 := hk _ (List.Mem.tail _ (List.Mem.tail _ (List.Mem.head _)))
  have hr_wo : -2147483648 ≤ wo ∧ wo < 2147483648 := hk _ (List.Mem.tail _ (List.Mem.tail _ (List.Mem.tail _ (List.Mem.head _))))
  clear hk
  have b1 : 0 ≤ h 1 7 ∧ h 1 7 ≤ 8 := hI.1 1 _
  have k2 : 0 ≤ h 1 7 ∧ h 1 7 ≤ 8 := hI.1 1 _
  have k3 := fz_shl_m (i := a) (by omega)
  refine fz_iconst ⟨by decide, by decide⟩ kX2_isCartedTo rfl ?_
  refine fz_iload_n kX2_isCartedTo rfl rfl ?_
  refine fz_ishl kX2_isCartedTo rfl ?_
  have b4 : -2147483648 ≤ (fz_shl 1 a) ∧ (fz_shl 1 a) < 2147483648 := fz_b32 _
  refine fz_istore (ls' := [(4, fz_i (fz_shl 1 a)), (0, fz_r 1), (1, fz_i a), (2, fz_i b), (3, fz_i wo)]) kX2_isCartedTo rfl (by decide) rfl ?_
  refine fz_iconst ⟨by decide, by decide⟩ kX2_isCartedTo rfl ?_
  refine fz_istore (ls' := [(5, fz_i 0), (4, fz_i (fz_shl 1 a)), (0, fz_r 1), (1, fz_i a), (2, fz_i b), (3, fz_i wo)]) kX2_isCartedTo rfl (by decide) rfl ?_
  have lp9 : ∀ (n8 : Nat) (x6 : Int) (x7 : Int), (0 ≤ x6 ∧ x6 ≤ 2147483647) → (0 ≤ x7 ∧ x7 ≤ 2047) → (fl_BI h wo a x7 x6) → ((h 1 7) - x6).toNat < n8 → fz_R 0 mX2_isCartedTo 8 [(5, fz_i x6), (4, fz_i x7), (0, fz_r 1), (1, fz_i a), (2, fz_i b), (3, fz_i wo)] [] h (qX2_isCartedTo h a b wo) := by
    intro n8
    induction n8 with
    | zero => intro x6 x7 hv12 hv13 hv14 hm11; exact absurd hm11 (by omega)
    | succ n8 ih10 =>
      intro x6 x7 hv12 hv13 hv14 hm11
      refine fz_iload kX2_isCartedTo rfl rfl ?_
      refine fz_aload_n kX2_isCartedTo rfl rfl ?_
      refine fz_getV (v := h 1 7) kX2_isCartedTo rfl rfl rfl ?_
      have b15 : 0 ≤ h 1 7 ∧ h 1 7 ≤ 8 := hI.1 1 _
      refine fz_icmp_ge (tgt := 111) kX2_isCartedTo rfl (by decide) (fun c16 => ?_) (fun c16 => ?_)
      · refine fz_iload kX2_isCartedTo rfl rfl ?_
        refine fz_iload_n kX2_isCartedTo rfl rfl ?_
        refine fz_ishr kX2_isCartedTo rfl ?_
        have b17 : -2147483648 ≤ (fz_shr x7 b) ∧ (fz_shr x7 b) < 2147483648 := fz_b32 _
        refine fz_iconst ⟨by decide, by decide⟩ kX2_isCartedTo rfl ?_
        refine fz_iand kX2_isCartedTo rfl ?_
        have b19 : -2147483648 ≤ (fz_and (fz_shr x7 b) 1) ∧ (fz_and (fz_shr x7 b) 1) < 2147483648 := fz_b32 _
        have b20 : 0 ≤ (fz_and (fz_shr x7 b) 1) ∧ (fz_and (fz_shr x7 b) 1) ≤ 1 := fz_and_m (by omega) (by omega)
        refine fz_iconst ⟨by decide, by decide⟩ kX2_isCartedTo rfl ?_
        refine fz_icmp_ne (tgt := 125) kX2_isCartedTo rfl (by decide) (fun c21 => ?_) (fun c21 => ?_)
        · refine fz_iconst ⟨by decide, by decide⟩ kX2_isCartedTo rfl ?_
          exact fz_zret kX2_isCartedTo rfl rfl (by omega) ⟨rfl, _, rfl, (by omega), (by first | exact fl_BJ_e lost (by omega) (by omega) ⟨by omega, by omega⟩ (fun z => hI.1 5 z) (fun z => hI.1 6 z) (by omega) rfl (by omega) | exact (fl_BI_x hv14 (by omega) (by omega)).elim)⟩
        · refine fz_iconst ⟨by decide, by decide⟩ kX2_isCartedTo rfl ?_
          refine fz_goto (tgt := 126) kX2_isCartedTo rfl (by decide) ?_
          exact fz_zret kX2_isCartedTo rfl rfl (by omega) ⟨rfl, _, rfl, (by omega), (by first | exact fl_BJ_e lost (by omega) (by omega) ⟨by omega, by omega⟩ (fun z => hI.1 5 z) (fun z => hI.1 6 z) (by omega) rfl (by omega) | exact (fl_BI_x hv14 (by omega) (by omega)).elim)⟩
      · refine fz_iload kX2_isCartedTo rfl rfl ?_
        refine fz_istore (ls' := [(6, fz_i x7), (5, fz_i x6), (4, fz_i x7), (0, fz_r 1), (1, fz_i a), (2, fz_i b), (3, fz_i wo)]) kX2_isCartedTo rfl (by decide) rfl ?_
        refine fz_iconst ⟨by decide, by decide⟩ kX2_isCartedTo rfl ?_
        refine fz_istore (ls' := [(7, fz_i 0), (6, fz_i x7), (5, fz_i x6), (4, fz_i x7), (0, fz_r 1), (1, fz_i a), (2, fz_i b), (3, fz_i wo)]) kX2_isCartedTo rfl (by decide) rfl ?_
        have lp27 : ∀ (n26 : Nat) (x24 : Int) (x25 : Int), (0 ≤ x24 ∧ x24 ≤ 2147483647) → (0 ≤ x25 ∧ x25 ≤ 2047) → (fl_BJ h wo a x25 x7 x24) → ((h 1 8) - x24).toNat < n26 → fz_R 0 mX2_isCartedTo 24 [(7, fz_i x24), (6, fz_i x7), (5, fz_i x6), (4, fz_i x25), (0, fz_r 1), (1, fz_i a), (2, fz_i b), (3, fz_i wo)] [] h (qX2_isCartedTo h a b wo) := by
          intro n26
          induction n26 with
          | zero => intro x24 x25 hv30 hv31 hv32 hm29; exact absurd hm29 (by omega)
          | succ n26 ih28 =>
            intro x24 x25 hv30 hv31 hv32 hm29
            refine fz_iload kX2_isCartedTo rfl rfl ?_
            refine fz_aload_n kX2_isCartedTo rfl rfl ?_
            refine fz_getV (v := h 1 8) kX2_isCartedTo rfl rfl rfl ?_
            have b33 : 0 ≤ h 1 8 ∧ h 1 8 ≤ 12 := hI.1 1 _
            refine fz_icmp_ge (tgt := 95) kX2_isCartedTo rfl (by decide) (fun c34 => ?_) (fun c34 => ?_)
            · refine fz_iload kX2_isCartedTo rfl rfl ?_
              refine fz_iload kX2_isCartedTo rfl rfl ?_
              refine fz_icmp_ne (tgt := 105) kX2_isCartedTo rfl (by decide) (fun c35 => ?_) (fun c35 => ?_)
              · refine fz_iincN (ls' := [(5, fz_i (x6 + 1)), (7, fz_i x24), (6, fz_i x7), (4, fz_i x25), (0, fz_r 1), (1, fz_i a), (2, fz_i b), (3, fz_i wo)]) kX2_isCartedTo rfl (by decide) rfl (by omega) rfl ?_
                refine fz_goto (tgt := 8) kX2_isCartedTo rfl (by decide) ?_
                refine fz_sub (fz_pk_sub (ls' := [(5, fz_i (x6 + 1)), (4, fz_i x25), (0, fz_r 1), (1, fz_i a), (2, fz_i b), (3, fz_i wo)]) [0, 3, 4, 5, 6, 7] rfl) ?_
                exact ih10 (x6 + 1) x25 (by omega) (by omega) (fl_BI_s hv14 hv32 (by omega)) (by omega)
              · refine fz_goto (tgt := 111) kX2_isCartedTo rfl (by decide) ?_
                refine fz_iload kX2_isCartedTo rfl rfl ?_
                refine fz_iload_n kX2_isCartedTo rfl rfl ?_
                refine fz_ishr kX2_isCartedTo rfl ?_
                have b37 : -2147483648 ≤ (fz_shr x25 b) ∧ (fz_shr x25 b) < 2147483648 := fz_b32 _
                refine fz_iconst ⟨by decide, by decide⟩ kX2_isCartedTo rfl ?_
                refine fz_iand kX2_isCartedTo rfl ?_
                have b39 : -2147483648 ≤ (fz_and (fz_shr x25 b) 1) ∧ (fz_and (fz_shr x25 b) 1) < 2147483648 := fz_b32 _
                have b40 : 0 ≤ (fz_and (fz_shr x25 b) 1) ∧ (fz_and (fz_shr x25 b) 1) ≤ 1 := fz_and_m (by omega) (by omega)
                refine fz_iconst ⟨by decide, by decide⟩ kX2_isCartedTo rfl ?_
                refine fz_icmp_ne (tgt := 125) kX2_isCartedTo rfl (by decide) (fun c41 => ?_) (fun c41 => ?_)
                · refine fz_iconst ⟨by decide, by decide⟩ kX2_isCartedTo rfl ?_
                  exact fz_zret kX2_isCartedTo rfl rfl (by omega) ⟨rfl, _, rfl, (by omega), (by first | exact fl_BJ_e hv32 (by omega) (by omega) ⟨by omega, by omega⟩ (fun z => hI.1 5 z) (fun z => hI.1 6 z) (by omega) rfl (by omega) | exact (fl_BI_x hv14 (by omega) (by omega)).elim)⟩
                · refine fz_iconst ⟨by decide, by decide⟩ kX2_isCartedTo rfl ?_
                  refine fz_goto (tgt := 126) kX2_isCartedTo rfl (by decide) ?_
                  exact fz_zret kX2_isCartedTo rfl rfl (by omega) ⟨rfl, _, rfl, (by omega), (by first | exact fl_BJ_e hv32 (by omega) (by omega) ⟨by omega, by omega⟩ (fun z => hI.1 5 z) (fun z => hI.1 6 z) (by omega) rfl (by omega) | exact (fl_BI_x hv14 (by omega) (by omega)).elim)⟩
            · have k44 := fz_RE_i hRE (x := x24) (by omega)
              have k45 : 0 ≤ h 5 (x24).toNat ∧ h 5 (x24).toNat ≤ 7 := hI.1 5 _
              have k46 : 0 ≤ h 6 (x24).toNat ∧ h 6 (x24).toNat ≤ 7 := hI.1 6 _
              refine fz_iconst ⟨by decide, by decide⟩ kX2_isCartedTo rfl ?_
              refine fz_aload_n kX2_isCartedTo rfl rfl ?_
              refine fz_getR (t := 5) kX2_isCartedTo rfl rfl ?_
              refine fz_iload kX2_isCartedTo rfl rfl ?_
              refine fz_ialdV (n := 12) (v := h 5 (x24.toNat)) kX2_isCartedTo rfl rfl (by omega) (by omega) rfl ?_
              have b47 : 0 ≤ h 5 (x24.toNat) ∧ h 5 (x24.toNat) ≤ 7 := hI.1 5 _
              refine fz_ishl kX2_isCartedTo rfl ?_
              have b48 : -2147483648 ≤ (fz_shl 1 (h 5 (x24.toNat))) ∧ (fz_shl 1 (h 5 (x24.toNat))) < 2147483648 := fz_b32 _
              have b49 : 0 ≤ (fz_shl 1 (h 5 (x24.toNat))) ∧ (fz_shl 1 (h 5 (x24.toNat))) ≤ 2047 := fz_shl_m (by omega)
              refine fz_iconst ⟨by decide, by decide⟩ kX2_isCartedTo rfl ?_
              refine fz_aload_n kX2_isCartedTo rfl rfl ?_
              refine fz_getR (t := 6) kX2_isCartedTo rfl rfl ?_
              refine fz_iload kX2_isCartedTo rfl rfl ?_
              refine fz_ialdV (n := 12) (v := h 6 (x24.toNat)) kX2_isCartedTo rfl rfl (by omega) (by omega) rfl ?_
              have b50 : 0 ≤ h 6 (x24.toNat) ∧ h 6 (x24.toNat) ≤ 7 := hI.1 6 _
              refine fz_ishl kX2_isCartedTo rfl ?_
              have b51 : -2147483648 ≤ (fz_shl 1 (h 6 (x24.toNat))) ∧ (fz_shl 1 (h 6 (x24.toNat))) < 2147483648 := fz_b32 _
              have b52 : 0 ≤ (fz_shl 1 (h 6 (x24.toNat))) ∧ (fz_shl 1 (h 6 (x24.toNat))) ≤ 2047 := fz_shl_m (by omega)
              refine fz_ior kX2_isCartedTo rfl ?_
              have b53 : -2147483648 ≤ (fz_or (fz_shl 1 (h 5 (x24.toNat))) (fz_shl 1 (h 6 (x24.toNat)))) ∧ (fz_or (fz_shl 1 (h 5 (x24.toNat))) (fz_shl 1 (h 6 (x24.toNat)))) < 2147483648 := fz_b32 _
              have b54 : 0 ≤ (fz_or (fz_shl 1 (h 5 (x24.toNat))) (fz_shl 1 (h 6 (x24.toNat)))) ∧ (fz_or (fz_shl 1 (h 5 (x24.toNat))) (fz_shl 1 (h 6 (x24.toNat)))) ≤ 2047 := fz_or_m (by omega) (by omega)
              refine fz_istore (ls' := [(8, fz_i (fz_or (fz_shl 1 (h 5 (x24.toNat))) (fz_shl 1 (h 6 (x24.toNat))))), (7, fz_i x24), (6, fz_i x7), (5, fz_i x6), (4, fz_i x25), (0, fz_r 1), (1, fz_i a), (2, fz_i b), (3, fz_i wo)]) kX2_isCartedTo rfl (by decide) rfl ?_
              refine fz_aload_n kX2_isCartedTo rfl rfl ?_
              refine fz_getR (t := 4) kX2_isCartedTo rfl rfl ?_
              refine fz_iload kX2_isCartedTo rfl rfl ?_
              refine fz_ialdV (n := 12) (v := h 4 (x24.toNat)) kX2_isCartedTo rfl rfl (by omega) (by omega) rfl ?_
              have b55 : 0 ≤ h 4 (x24.toNat) ∧ h 4 (x24.toNat) ≤ 1 := hI.1 4 _
              refine fz_iconst ⟨by decide, by decide⟩ kX2_isCartedTo rfl ?_
              refine fz_icmp_ne (tgt := 89) kX2_isCartedTo rfl (by decide) (fun c56 => ?_) (fun c56 => ?_)
              · refine fz_iincN (ls' := [(7, fz_i (x24 + 1)), (8, fz_i (fz_or (fz_shl 1 (h 5 (x24.toNat))) (fz_shl 1 (h 6 (x24.toNat))))), (6, fz_i x7), (5, fz_i x6), (4, fz_i x25), (0, fz_r 1), (1, fz_i a), (2, fz_i b), (3, fz_i wo)]) kX2_isCartedTo rfl (by decide) rfl (by omega) rfl ?_
                refine fz_goto (tgt := 24) kX2_isCartedTo rfl (by decide) ?_
                refine fz_sub (fz_pk_sub (ls' := [(7, fz_i (x24 + 1)), (6, fz_i x7), (5, fz_i x6), (4, fz_i x25), (0, fz_r 1), (1, fz_i a), (2, fz_i b), (3, fz_i wo)]) [0, 2, 3, 4, 5, 6, 7, 8] rfl) ?_
                exact ih28 (x24 + 1) x25 (by omega) (by omega) (by first | exact fl_BJ_n hv32 (by omega) (fl_no1 (by omega)) | exact fl_BJ_n hv32 (by omega) (fl_no2 ⟨by omega, by omega⟩ (by omega)) | exact fl_BJ_3 hv32 (by omega) ⟨by omega, by omega⟩ ⟨by omega, by omega⟩ (by omega) | exact fl_BJ_y hv32 ⟨by omega, by omega⟩ ⟨by omega, by omega⟩ ⟨by omega, by omega⟩ ⟨by omega, by omega⟩ ⟨by omega, by omega⟩ (fl_ok1_in ⟨by omega, by omega⟩ (by omega) (by omega)) (by omega) ⟨by omega, by omega⟩ ⟨by omega, by omega⟩) (by omega)
              · refine fz_iload_n kX2_isCartedTo rfl rfl ?_
                refine fz_iload kX2_isCartedTo rfl rfl ?_
                refine fz_ishr kX2_isCartedTo rfl ?_
                have b58 : -2147483648 ≤ (fz_shr wo x24) ∧ (fz_shr wo x24) < 2147483648 := fz_b32 _
                refine fz_iconst ⟨by decide, by decide⟩ kX2_isCartedTo rfl ?_
                refine fz_iand kX2_isCartedTo rfl ?_
                have b60 : -2147483648 ≤ (fz_and (fz_shr wo x24) 1) ∧ (fz_and (fz_shr wo x24) 1) < 2147483648 := fz_b32 _
                have b61 : 0 ≤ (fz_and (fz_shr wo x24) 1) ∧ (fz_and (fz_shr wo x24) 1) ≤ 1 := fz_and_m (by omega) (by omega)
                refine fz_if_ne (tgt := 89) kX2_isCartedTo rfl (by decide) (fun c62 => ?_) (fun c62 => ?_)
                · refine fz_iincN (ls' := [(7, fz_i (x24 + 1)), (8, fz_i (fz_or (fz_shl 1 (h 5 (x24.toNat))) (fz_shl 1 (h 6 (x24.toNat))))), (6, fz_i x7), (5, fz_i x6), (4, fz_i x25), (0, fz_r 1), (1, fz_i a), (2, fz_i b), (3, fz_i wo)]) kX2_isCartedTo rfl (by decide) rfl (by omega) rfl ?_
                  refine fz_goto (tgt := 24) kX2_isCartedTo rfl (by decide) ?_
                  refine fz_sub (fz_pk_sub (ls' := [(7, fz_i (x24 + 1)), (6, fz_i x7), (5, fz_i x6), (4, fz_i x25), (0, fz_r 1), (1, fz_i a), (2, fz_i b), (3, fz_i wo)]) [0, 2, 3, 4, 5, 6, 7, 8] rfl) ?_
                  exact ih28 (x24 + 1) x25 (by omega) (by omega) (by first | exact fl_BJ_n hv32 (by omega) (fl_no1 (by omega)) | exact fl_BJ_n hv32 (by omega) (fl_no2 ⟨by omega, by omega⟩ (by omega)) | exact fl_BJ_3 hv32 (by omega) ⟨by omega, by omega⟩ ⟨by omega, by omega⟩ (by omega) | exact fl_BJ_y hv32 ⟨by omega, by omega⟩ ⟨by omega, by omega⟩ ⟨by omega, by omega⟩ ⟨by omega, by omega⟩ ⟨by omega, by omega⟩ (fl_ok1_in ⟨by omega, by omega⟩ (by omega) (by omega)) (by omega) ⟨by omega, by omega⟩ ⟨by omega, by omega⟩) (by omega)
                · refine fz_iload kX2_isCartedTo rfl rfl ?_
                  refine fz_iload kX2_isCartedTo rfl rfl ?_
                  refine fz_iand kX2_isCartedTo rfl ?_
                  have b64 : -2147483648 ≤ (fz_and x25 (fz_or (fz_shl 1 (h 5 (x24.toNat))) (fz_shl 1 (h 6 (x24.toNat))))) ∧ (fz_and x25 (fz_or (fz_shl 1 (h 5 (x24.toNat))) (fz_shl 1 (h 6 (x24.toNat))))) < 2147483648 := fz_b32 _
                  have b65 : 0 ≤ (fz_and x25 (fz_or (fz_shl 1 (h 5 (x24.toNat))) (fz_shl 1 (h 6 (x24.toNat))))) ∧ (fz_and x25 (fz_or (fz_shl 1 (h 5 (x24.toNat))) (fz_shl 1 (h 6 (x24.toNat))))) ≤ (fz_or (fz_shl 1 (h 5 (x24.toNat))) (fz_shl 1 (h 6 (x24.toNat)))) := fz_and_m (by omega) (by omega)
                  refine fz_if_eq (tgt := 89) kX2_isCartedTo rfl (by decide) (fun c66 => ?_) (fun c66 => ?_)
                  · refine fz_iincN (ls' := [(7, fz_i (x24 + 1)), (8, fz_i (fz_or (fz_shl 1 (h 5 (x24.toNat))) (fz_shl 1 (h 6 (x24.toNat))))), (6, fz_i x7), (5, fz_i x6), (4, fz_i x25), (0, fz_r 1), (1, fz_i a), (2, fz_i b), (3, fz_i wo)]) kX2_isCartedTo rfl (by decide) rfl (by omega) rfl ?_
                    refine fz_goto (tgt := 24) kX2_isCartedTo rfl (by decide) ?_
                    refine fz_sub (fz_pk_sub (ls' := [(7, fz_i (x24 + 1)), (6, fz_i x7), (5, fz_i x6), (4, fz_i x25), (0, fz_r 1), (1, fz_i a), (2, fz_i b), (3, fz_i wo)]) [0, 2, 3, 4, 5, 6, 7, 8] rfl) ?_
                    exact ih28 (x24 + 1) x25 (by omega) (by omega) (by first | exact fl_BJ_n hv32 (by omega) (fl_no1 (by omega)) | exact fl_BJ_n hv32 (by omega) (fl_no2 ⟨by omega, by omega⟩ (by omega)) | exact fl_BJ_3 hv32 (by omega) ⟨by omega, by omega⟩ ⟨by omega, by omega⟩ (by omega) | exact fl_BJ_y hv32 ⟨by omega, by omega⟩ ⟨by omega, by omega⟩ ⟨by omega, by omega⟩ ⟨by omega, by omega⟩ ⟨by omega, by omega⟩ (fl_ok1_in ⟨by omega, by omega⟩ (by omega) (by omega)) (by omega) ⟨by omega, by omega⟩ ⟨by omega, by omega⟩) (by omega)
                  · refine fz_iload kX2_isCartedTo rfl rfl ?_
                    refine fz_iload kX2_isCartedTo rfl rfl ?_
                    refine fz_ior kX2_isCartedTo rfl ?_
                    have b68 : -2147483648 ≤ (fz_or x25 (fz_or (fz_shl 1 (h 5 (x24.toNat))) (fz_shl 1 (h 6 (x24.toNat))))) ∧ (fz_or x25 (fz_or (fz_shl 1 (h 5 (x24.toNat))) (fz_shl 1 (h 6 (x24.toNat))))) < 2147483648 := fz_b32 _
                    have b69 : 0 ≤ (fz_or x25 (fz_or (fz_shl 1 (h 5 (x24.toNat))) (fz_shl 1 (h 6 (x24.toNat))))) ∧ (fz_or x25 (fz_or (fz_shl 1 (h 5 (x24.toNat))) (fz_shl 1 (h 6 (x24.toNat))))) ≤ 2047 := fz_or_m (by omega) (by omega)
                    refine fz_istore (ls' := [(4, fz_i (fz_or x25 (fz_or (fz_shl 1 (h 5 (x24.toNat))) (fz_shl 1 (h 6 (x24.toNat)))))), (8, fz_i (fz_or (fz_shl 1 (h 5 (x24.toNat))) (fz_shl 1 (h 6 (x24.toNat))))), (7, fz_i x24), (6, fz_i x7), (5, fz_i x6), (0, fz_r 1), (1, fz_i a), (2, fz_i b), (3, fz_i wo)]) kX2_isCartedTo rfl (by decide) rfl ?_
                    refine fz_iincN (ls' := [(7, fz_i (x24 + 1)), (4, fz_i (fz_or x25 (fz_or (fz_shl 1 (h 5 (x24.toNat))) (fz_shl 1 (h 6 (x24.toNat)))))), (8, fz_i (fz_or (fz_shl 1 (h 5 (x24.toNat))) (fz_shl 1 (h 6 (x24.toNat))))), (6, fz_i x7), (5, fz_i x6), (0, fz_r 1), (1, fz_i a), (2, fz_i b), (3, fz_i wo)]) kX2_isCartedTo rfl (by decide) rfl (by omega) rfl ?_
                    refine fz_goto (tgt := 24) kX2_isCartedTo rfl (by decide) ?_
                    refine fz_sub (fz_pk_sub (ls' := [(7, fz_i (x24 + 1)), (6, fz_i x7), (5, fz_i x6), (4, fz_i (fz_or x25 (fz_or (fz_shl 1 (h 5 (x24.toNat))) (fz_shl 1 (h 6 (x24.toNat)))))), (0, fz_r 1), (1, fz_i a), (2, fz_i b), (3, fz_i wo)]) [0, 3, 4, 1, 5, 6, 7, 8] rfl) ?_
                    exact ih28 (x24 + 1) (fz_or x25 (fz_or (fz_shl 1 (h 5 (x24.toNat))) (fz_shl 1 (h 6 (x24.toNat))))) (by omega) (by omega) (by first | exact fl_BJ_n hv32 (by omega) (fl_no1 (by omega)) | exact fl_BJ_n hv32 (by omega) (fl_no2 ⟨by omega, by omega⟩ (by omega)) | exact fl_BJ_3 hv32 (by omega) ⟨by omega, by omega⟩ ⟨by omega, by omega⟩ (by omega) | exact fl_BJ_y hv32 ⟨by omega, by omega⟩ ⟨by omega, by omega⟩ ⟨by omega, by omega⟩ ⟨by omega, by omega⟩ ⟨by omega, by omega⟩ (fl_ok1_in ⟨by omega, by omega⟩ (by omega) (by omega)) (by omega) ⟨by omega, by omega⟩ ⟨by omega, by omega⟩) (by omega)
        exact lp27 _ 0 x7 (by omega) (by omega) (fl_BJ_0 hv14) (Nat.lt_succ_self _)
  exact lp9 _ 0 (fz_shl 1 a) (by omega) (by omega) (fl_BI_0 ⟨by omega, by omega⟩ (by omega) ⟨by omega, by omega⟩) (Nat.lt_succ_self _)
