/-! ===== what the methods keep ===== -/
abbrev qX2_isTown (h : fz_H) (t : Int) : fz_H → Option fz_V → Prop := fun h' r0 => h' = h ∧ ∃ r : Int, r0 = some (fz_i r) ∧ ((r = 1 ∧ (0 ≤ t ∧ t < h 1 7)) ∨ (r = 0 ∧ ¬ (0 ≤ t ∧ t < h 1 7)))
set_option maxHeartbeats 4000000 in
theorem sX2_isTown (h : fz_H) (hI : fz_Iv h) (t : Int) : fz_R 0 mX2_isTown 0 [(0, fz_r 1), (1, fz_i t)] [] h (qX2_isTown h t) := by
  refine fz_knowl (fun hk => ?_)
  have hr_t : -2147483648 ≤ t ∧ t < 2147483648 := hk _ (List.Mem.tail _ (List.Mem.head _))
  clear hk
  refine fz_iload_n kX2_isTown rfl rfl ?_
  refine fz_if_lt (tgt := 16) kX2_isTown rfl (by decide) (fun c1 => ?_) (fun c1 => ?_)
  · refine fz_iconst ⟨by decide, by decide⟩ kX2_isTown rfl ?_
    exact fz_zret kX2_isTown rfl rfl (by omega) ⟨rfl, _, rfl, Or.inr ⟨rfl, by omega⟩⟩
  · refine fz_iload_n kX2_isTown rfl rfl ?_
    refine fz_aload_n kX2_isTown rfl rfl ?_
    refine fz_getV (v := h 1 7) kX2_isTown rfl rfl rfl ?_
    have b2 : 0 ≤ h 1 7 ∧ h 1 7 ≤ 8 := hI.1 1 _
    refine fz_icmp_ge (tgt := 16) kX2_isTown rfl (by decide) (fun c3 => ?_) (fun c3 => ?_)
    · refine fz_iconst ⟨by decide, by decide⟩ kX2_isTown rfl ?_
      exact fz_zret kX2_isTown rfl rfl (by omega) ⟨rfl, _, rfl, Or.inr ⟨rfl, by omega⟩⟩
    · refine fz_iconst ⟨by decide, by decide⟩ kX2_isTown rfl ?_
      refine fz_goto (tgt := 17) kX2_isTown rfl (by decide) ?_
      exact fz_zret kX2_isTown rfl rfl (by omega) ⟨rfl, _, rfl, Or.inl ⟨rfl, by omega⟩⟩

abbrev qX2_isRoad (h : fz_H) (t : Int) : fz_H → Option fz_V → Prop := fun h' r0 => h' = h ∧ ∃ r : Int, r0 = some (fz_i r) ∧ ((r = 1 ∧ (0 ≤ t ∧ t < h 1 8)) ∨ (r = 0 ∧ ¬ (0 ≤ t ∧ t < h 1 8)))
set_option maxHeartbeats 4000000 in
theorem sX2_isRoad (h : fz_H) (hI : fz_Iv h) (t : Int) : fz_R 0 mX2_isRoad 0 [(0, fz_r 1), (1, fz_i t)] [] h (qX2_isRoad h t) := by
  refine fz_knowl (fun hk => ?_)
  have hr_t : -2147483648 ≤ t ∧ t < 2147483648 := hk _ (List.Mem.tail _ (List.Mem.head _))
  clear hk
  refine fz_iload_n kX2_isRoad rfl rfl ?_
  refine fz_if_lt (tgt := 16) kX2_isRoad rfl (by decide) (fun c1 => ?_) (fun c1 => ?_)
  · refine fz_iconst ⟨by decide, by decide⟩ kX2_isRoad rfl ?_
    exact fz_zret kX2_isRoad rfl rfl (by omega) ⟨rfl, _, rfl, Or.inr ⟨rfl, by omega⟩⟩
  · refine fz_iload_n kX2_isRoad rfl rfl ?_
    refine fz_aload_n kX2_isRoad rfl rfl ?_
    refine fz_getV (v := h 1 8) kX2_isRoad rfl rfl rfl ?_
    have b2 : 0 ≤ h 1 8 ∧ h 1 8 ≤ 12 := hI.1 1 _
    refine fz_icmp_ge (tgt := 16) kX2_isRoad rfl (by decide) (fun c3 => ?_) (fun c3 => ?_)
    · refine fz_iconst ⟨by decide, by decide⟩ kX2_isRoad rfl ?_
      exact fz_zret kX2_isRoad rfl rfl (by omega) ⟨rfl, _, rfl, Or.inr ⟨rfl, by omega⟩⟩
    · refine fz_iconst ⟨by decide, by decide⟩ kX2_isRoad rfl ?_
      refine fz_goto (tgt := 17) kX2_isRoad rfl (by decide) ?_
      exact fz_zret kX2_isRoad rfl rfl (by omega) ⟨rfl, _, rfl, Or.inl ⟨rfl, by omega⟩⟩

abbrev qX2_acrossFrom (h : fz_H) (r t : Int) : fz_H → Option fz_V → Prop := fun h' r0 => h' = h ∧ ∃ r : Int, r0 = some (fz_i r) ∧ ((-2) ≤ r ∧ r ≤ 7)
set_option maxHeartbeats 4000000 in
theorem sX2_acrossFrom (h : fz_H) (hI : fz_Iv h) (r t : Int) (hp0 : 0 ≤ r ∧ r < 12) : fz_R 0 mX2_acrossFrom 0 [(0, fz_r 1), (1, fz_i r), (2, fz_i t)] [] h (qX2_acrossFrom h r t) := by
  refine fz_knowl (fun hk => ?_)
  have hr_r : -2147483648 ≤ r ∧ r < 2147483648 := hk _ (List.Mem.tail _ (List.Mem.head _))
  have hr_t : -2147483648 ≤ t ∧ t < 2147483648 := hk _ (List.Mem.tail _ (List.Mem.tail _ (List.Mem.head _)))
  clear hk
  refine fz_aload_n kX2_acrossFrom rfl rfl ?_
  refine fz_getR (t := 5) kX2_acrossFrom rfl rfl ?_
  refine fz_iload_n kX2_acrossFrom rfl rfl ?_
  refine fz_ialdV (n := 12) (v := h 5 (r.toNat)) kX2_acrossFrom rfl rfl (by omega) (by omega) rfl ?_
  have b1 : 0 ≤ h 5 (r.toNat) ∧ h 5 (r.toNat) ≤ 7 := hI.1 5 _
  refine fz_iload_n kX2_acrossFrom rfl rfl ?_
  refine fz_icmp_ne (tgt := 17) kX2_acrossFrom rfl (by decide) (fun c2 => ?_) (fun c2 => ?_)
  · refine fz_aload_n kX2_acrossFrom rfl rfl ?_
    refine fz_getR (t := 6) kX2_acrossFrom rfl rfl ?_
    refine fz_iload_n kX2_acrossFrom rfl rfl ?_
    refine fz_ialdV (n := 12) (v := h 6 (r.toNat)) kX2_acrossFrom rfl rfl (by omega) (by omega) rfl ?_
    have b3 : 0 ≤ h 6 (r.toNat) ∧ h 6 (r.toNat) ≤ 7 := hI.1 6 _
    refine fz_iload_n kX2_acrossFrom rfl rfl ?_
    refine fz_icmp_ne (tgt := 36) kX2_acrossFrom rfl (by decide) (fun c4 => ?_) (fun c4 => ?_)
    · refine fz_bipush ⟨by decide, by decide⟩ kX2_acrossFrom rfl ?_
      exact fz_iret kX2_acrossFrom rfl rfl (fun _ => ⟨rfl, _, rfl, (by omega)⟩)
    · refine fz_aload_n kX2_acrossFrom rfl rfl ?_
      refine fz_getR (t := 5) kX2_acrossFrom rfl rfl ?_
      refine fz_iload_n kX2_acrossFrom rfl rfl ?_
      refine fz_ialdV (n := 12) (v := h 5 (r.toNat)) kX2_acrossFrom rfl rfl (by omega) (by omega) rfl ?_
      refine fz_goto (tgt := 38) kX2_acrossFrom rfl (by decide) ?_
      exact fz_iret kX2_acrossFrom rfl rfl (fun _ => ⟨rfl, _, rfl, (by omega)⟩)
  · refine fz_aload_n kX2_acrossFrom rfl rfl ?_
    refine fz_getR (t := 6) kX2_acrossFrom rfl rfl ?_
    refine fz_iload_n kX2_acrossFrom rfl rfl ?_
    refine fz_ialdV (n := 12) (v := h 6 (r.toNat)) kX2_acrossFrom rfl rfl (by omega) (by omega) rfl ?_
    have b5 : 0 ≤ h 6 (r.toNat) ∧ h 6 (r.toNat) ≤ 7 := hI.1 6 _
    exact fz_iret kX2_acrossFrom rfl rfl (fun _ => ⟨rfl, _, rfl, (by omega)⟩)

abbrev qX2_hoursByFeet (h : fz_H) (a b : Int) : fz_H → Option fz_V → Prop := fun h' r0 => h' = h ∧ ∃ r : Int, r0 = some (fz_i r) ∧ ((-2) ≤ r ∧ r ≤ 9999)
set_option maxHeartbeats 4000000 in
theorem sX2_hoursByFeet (h : fz_H) (hI : fz_Iv h) (a b : Int) (hp0 : 0 ≤ a ∧ a < 8) (hp1 : 0 ≤ b ∧ b < 8) : fz_R 0 mX2_hoursByFeet 0 [(0, fz_r 1), (1, fz_i a), (2, fz_i b)] [] h (qX2_hoursByFeet h a b) := by
  refine fz_knowl (fun hk => ?_)
  have hr_a : -2147483648 ≤ a ∧ a < 2147483648 := hk _ (List.Mem.tail _ (List.Mem.head _))
  have hr_b : -2147483648 ≤ b ∧ b < 2147483648 := hk _ (List.Mem.tail _ (List.Mem.tail _ (List.Mem.head _)))
  clear hk
  refine fz_aload_n kX2_hoursByFeet rfl rfl ?_
  refine fz_getR (t := 7) kX2_hoursByFeet rfl rfl ?_
  refine fz_iload_n kX2_hoursByFeet rfl rfl ?_
  refine fz_bipush ⟨by decide, by decide⟩ kX2_hoursByFeet rfl ?_
  refine fz_imulN kX2_hoursByFeet rfl (by omega) ?_
  refine fz_iload_n kX2_hoursByFeet rfl rfl ?_
  refine fz_iaddN kX2_hoursByFeet rfl (by omega) ?_
  refine fz_ialdV (n := 64) (v := h 7 (((a * 8) + b).toNat)) kX2_hoursByFeet rfl rfl (by omega) (by omega) rfl ?_
  have b1 : 0 ≤ h 7 (((a * 8) + b).toNat) ∧ h 7 (((a * 8) + b).toNat) ≤ 1000000 := hI.1 7 _
  refine fz_istore_n (ls' := [(3, fz_i (h 7 (((a * 8) + b).toNat))), (0, fz_r 1), (1, fz_i a), (2, fz_i b)]) kX2_hoursByFeet rfl (by decide) rfl ?_
  refine fz_iload_n kX2_hoursByFeet rfl rfl ?_
  refine fz_ldc (x := 1000000) kX2_hoursByFeet rfl rfl rfl ?_
  refine fz_icmp_lt (tgt := 23) kX2_hoursByFeet rfl (by decide) (fun c2 => ?_) (fun c2 => ?_)
  · refine fz_iload_n kX2_hoursByFeet rfl rfl ?_
    refine fz_bipush ⟨by decide, by decide⟩ kX2_hoursByFeet rfl ?_
    refine fz_idivN kX2_hoursByFeet rfl (by omega) (by omega) (by omega) ?_
    exact fz_iret kX2_hoursByFeet rfl rfl (fun _ => ⟨rfl, _, rfl, (by omega)⟩)
  · refine fz_bipush ⟨by decide, by decide⟩ kX2_hoursByFeet rfl ?_
    refine fz_goto (tgt := 27) kX2_hoursByFeet rfl (by decide) ?_
    exact fz_iret kX2_hoursByFeet rfl rfl (fun _ => ⟨rfl, _, rfl, (by omega)⟩)

abbrev qX2_hoursByCarters (h : fz_H) (a b : Int) : fz_H → Option fz_V → Prop := fun h' r0 => h' = h ∧ ∃ r : Int, r0 = some (fz_i r) ∧ ((-2) ≤ r ∧ r ≤ 9999)
set_option maxHeartbeats 4000000 in
theorem sX2_hoursByCarters (h : fz_H) (hI : fz_Iv h) (a b : Int) (hp0 : 0 ≤ a ∧ a < 8) (hp1 : 0 ≤ b ∧ b < 8) : fz_R 0 mX2_hoursByCarters 0 [(0, fz_r 1), (1, fz_i a), (2, fz_i b)] [] h (qX2_hoursByCarters h a b) := by
  refine fz_knowl (fun hk => ?_)
  have hr_a : -2147483648 ≤ a ∧ a < 2147483648 := hk _ (List.Mem.tail _ (List.Mem.head _))
  have hr_b : -2147483648 ≤ b ∧ b < 2147483648 := hk _ (List.Mem.tail _ (List.Mem.tail _ (List.Mem.head _)))
  clear hk
  refine fz_aload_n kX2_hoursByCarters rfl rfl ?_
  refine fz_getR (t := 8) kX2_hoursByCarters rfl rfl ?_
  refine fz_iload_n kX2_hoursByCarters rfl rfl ?_
  refine fz_bipush ⟨by decide, by decide⟩ kX2_hoursByCarters rfl ?_
  refine fz_imulN kX2_hoursByCarters rfl (by omega) ?_
  refine fz_iload_n kX2_hoursByCarters rfl rfl ?_
  refine fz_iaddN kX2_hoursByCarters rfl (by omega) ?_
  refine fz_ialdV (n := 64) (v := h 8 (((a * 8) + b).toNat)) kX2_hoursByCarters rfl rfl (by omega) (by omega) rfl ?_
  have b1 : 0 ≤ h 8 (((a * 8) + b).toNat) ∧ h 8 (((a * 8) + b).toNat) ≤ 1000000 := hI.1 8 _
  refine fz_istore_n (ls' := [(3, fz_i (h 8 (((a * 8) + b).toNat))), (0, fz_r 1), (1, fz_i a), (2, fz_i b)]) kX2_hoursByCarters rfl (by decide) rfl ?_
  refine fz_iload_n kX2_hoursByCarters rfl rfl ?_
  refine fz_ldc (x := 1000000) kX2_hoursByCarters rfl rfl rfl ?_
  refine fz_icmp_lt (tgt := 23) kX2_hoursByCarters rfl (by decide) (fun c2 => ?_) (fun c2 => ?_)
  · refine fz_iload_n kX2_hoursByCarters rfl rfl ?_
    refine fz_bipush ⟨by decide, by decide⟩ kX2_hoursByCarters rfl ?_
    refine fz_idivN kX2_hoursByCarters rfl (by omega) (by omega) (by omega) ?_
    exact fz_iret kX2_hoursByCarters rfl rfl (fun _ => ⟨rfl, _, rfl, (by omega)⟩)
  · refine fz_bipush ⟨by decide, by decide⟩ kX2_hoursByCarters rfl ?_
    refine fz_goto (tgt := 27) kX2_hoursByCarters rfl (by decide) ?_
    exact fz_iret kX2_hoursByCarters rfl rfl (fun _ => ⟨rfl, _, rfl, (by omega)⟩)

abbrev qX2_roadsByCarters (h : fz_H) (a b : Int) : fz_H → Option fz_V → Prop := fun h' r0 => h' = h ∧ ∃ r : Int, r0 = some (fz_i r) ∧ ((-2) ≤ r ∧ r ≤ 99)
set_option maxHeartbeats 4000000 in
theorem sX2_roadsByCarters (h : fz_H) (hI : fz_Iv h) (a b : Int) (hp0 : 0 ≤ a ∧ a < 8) (hp1 : 0 ≤ b ∧ b < 8) : fz_R 0 mX2_roadsByCarters 0 [(0, fz_r 1), (1, fz_i a), (2, fz_i b)] [] h (qX2_roadsByCarters h a b) := by
  refine fz_knowl (fun hk => ?_)
  have hr_a : -2147483648 ≤ a ∧ a < 2147483648 := hk _ (List.Mem.tail _ (List.Mem.head _))
  have hr_b : -2147483648 ≤ b ∧ b < 2147483648 := hk _ (List.Mem.tail _ (List.Mem.tail _ (List.Mem.head _)))
  clear hk
  refine fz_aload_n kX2_roadsByCarters rfl rfl ?_
  refine fz_getR (t := 8) kX2_roadsByCarters rfl rfl ?_
  refine fz_iload_n kX2_roadsByCarters rfl rfl ?_
  refine fz_bipush ⟨by decide, by decide⟩ kX2_roadsByCarters rfl ?_
  refine fz_imulN kX2_roadsByCarters rfl (by omega) ?_
  refine fz_iload_n kX2_roadsByCarters rfl rfl ?_
  refine fz_iaddN kX2_roadsByCarters rfl (by omega) ?_
  refine fz_ialdV (n := 64) (v := h 8 (((a * 8) + b).toNat)) kX2_roadsByCarters rfl rfl (by omega) (by omega) rfl ?_
  have b1 : 0 ≤ h 8 (((a * 8) + b).toNat) ∧ h 8 (((a * 8) + b).toNat) ≤ 1000000 := hI.1 8 _
  refine fz_istore_n (ls' := [(3, fz_i (h 8 (((a * 8) + b).toNat))), (0, fz_r 1), (1, fz_i a), (2, fz_i b)]) kX2_roadsByCarters rfl (by decide) rfl ?_
  refine fz_iload_n kX2_roadsByCarters rfl rfl ?_
  refine fz_ldc (x := 1000000) kX2_roadsByCarters rfl rfl rfl ?_
  refine fz_icmp_lt (tgt := 23) kX2_roadsByCarters rfl (by decide) (fun c2 => ?_) (fun c2 => ?_)
  · refine fz_iload_n kX2_roadsByCarters rfl rfl ?_
    refine fz_bipush ⟨by decide, by decide⟩ kX2_roadsByCarters rfl ?_
    refine fz_iremN kX2_roadsByCarters rfl (by omega) (by omega) (by omega) ?_
    exact fz_iret kX2_roadsByCarters rfl rfl (fun _ => ⟨rfl, _, rfl, (by omega)⟩)
  · refine fz_bipush ⟨by decide, by decide⟩ kX2_roadsByCarters rfl ?_
    refine fz_goto (tgt := 27) kX2_roadsByCarters rfl (by decide) ?_
    exact fz_iret kX2_roadsByCarters rfl rfl (fun _ => ⟨rfl, _, rfl, (by omega)⟩)

abbrev qJ7_fill_53178_7 (h : fz_H) (v : Int) : fz_H → Option fz_V → Prop := fun h' r0 => fz_Iv h' ∧ fz_fr [(7, 99999)] h h' ∧ r0 = none
set_option maxHeartbeats 4000000 in
theorem sJ7_fill_53178_7 (h : fz_H) (hI : fz_Iv h) (v : Int) (hp0 : 0 ≤ v ∧ v ≤ 1000000) : fz_R 0 mJ7_fill_53178 0 [(0, fz_r 7), (1, fz_i v)] [] h (qJ7_fill_53178_7 h v) := by
  refine fz_knowl (fun hk => ?_)
  have hr_v : -2147483648 ≤ v ∧ v < 2147483648 := hk _ (List.Mem.tail _ (List.Mem.head _))
  clear hk
  have hf : fz_fr [(7, 99999)] h h := fz_fr_rf
  refine fz_iconst ⟨by decide, by decide⟩ kJ7_fill_53178 rfl ?_
  refine fz_istore_n (ls' := [(2, fz_i 0), (0, fz_r 7), (1, fz_i v)]) kJ7_fill_53178 rfl (by decide) rfl ?_
  refine fz_aload_n kJ7_fill_53178 rfl rfl ?_
  refine fz_alen (n := 64) kJ7_fill_53178 rfl rfl (Or.inl rfl) (by decide) ?_
  refine fz_istore_n (ls' := [(3, fz_i 64), (2, fz_i 0), (0, fz_r 7), (1, fz_i v)]) kJ7_fill_53178 rfl (by decide) rfl ?_
  have lp6 : ∀ (n5 : Nat) (x1 : Int) (H2 : fz_H), fz_Iv H2 → fz_fr [(7, 99999)] h H2 → (0 ≤ x1 ∧ x1 ≤ 2147483647) → (64 - x1).toNat < n5 → fz_R 0 mJ7_fill_53178 5 [(3, fz_i 64), (2, fz_i x1), (0, fz_r 7), (1, fz_i v)] [] H2 (qJ7_fill_53178_7 h v) := by
    intro n5
    induction n5 with
    | zero => intro x1 H2 hI3 hf4 hv9 hm8; exact absurd hm8 (by omega)
    | succ n5 ih7 =>
      intro x1 H2 hI3 hf4 hv9 hm8
      refine fz_iload_n kJ7_fill_53178 rfl rfl ?_
      refine fz_iload_n kJ7_fill_53178 rfl rfl ?_
      refine fz_icmp_ge (tgt := 20) kJ7_fill_53178 rfl (by decide) (fun c10 => ?_) (fun c10 => ?_)
      · exact fz_vret kJ7_fill_53178 rfl rfl ⟨hI3, hf4, rfl⟩
      · refine fz_aload_n kJ7_fill_53178 rfl rfl ?_
        refine fz_iload_n kJ7_fill_53178 rfl rfl ?_
        refine fz_iload_n kJ7_fill_53178 rfl rfl ?_
        refine fz_iast (n := 64) kJ7_fill_53178 rfl rfl (by omega) (by omega) ?_
        refine fz_nmh (S := [(7, 99999)]) (h0 := h) (fz_Iv_up hI3 (by decide) (show 0 ≤ v by omega) (show v ≤ 1000000 by omega)) (fz_fr_up hf4 rfl) (fun H11 hI12 hf13 => ?_)
        refine fz_iincN (ls' := [(2, fz_i (x1 + 1)), (3, fz_i 64), (0, fz_r 7), (1, fz_i v)]) kJ7_fill_53178 rfl (by decide) rfl (by omega) rfl ?_
        refine fz_goto (tgt := 5) kJ7_fill_53178 rfl (by decide) ?_
        refine fz_sub (fz_pk_sub (ls' := [(3, fz_i 64), (2, fz_i (x1 + 1)), (0, fz_r 7), (1, fz_i v)]) [1, 0, 2, 3] rfl) ?_
        exact ih7 (x1 + 1) H11 hI12 hf13 (by omega) (by omega)
  exact lp6 _ 0 h hI hf (by omega) (Nat.lt_succ_self _)
