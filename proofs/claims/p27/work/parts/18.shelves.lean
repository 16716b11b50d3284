/-! ===== what the methods keep ===== -/
abbrev qX7_isShelf (h : fz_H) (s : Int) : fz_H → Option fz_V → Prop := fun h' r0 => h' = h ∧ ∃ r : Int, r0 = some (fz_i r) ∧ ((r = 1 ∧ (0 ≤ s ∧ s < 6)) ∨ (r = 0 ∧ ¬ (0 ≤ s ∧ s < 6)))
set_option maxHeartbeats 1000000 in
set_option maxRecDepth 100000 in
theorem sX7_isShelf (h : fz_H) (hI : fz_Iv h) (s : Int) : fz_R 0 mX7_isShelf 0 [(0, fz_r 47), (1, fz_i s)] [] h (qX7_isShelf h s) := by
  refine fz_knowl (fun hk => ?_)
  have hr_s : -2147483648 ≤ s ∧ s < 2147483648 := hk _ (List.Mem.tail _ (List.Mem.head _))
  clear hk
  refine fz_iload_n kX7_isShelf rfl rfl ?_
  refine fz_if_lt (tgt := 14) kX7_isShelf rfl (by decide) (fun c1 => ?_) (fun c1 => ?_)
  · refine fz_iconst ⟨by decide, by decide⟩ kX7_isShelf rfl ?_
    exact fz_zret kX7_isShelf rfl rfl (by omega) ⟨rfl, _, rfl, Or.inr ⟨rfl, by omega⟩⟩
  · refine fz_iload_n kX7_isShelf rfl rfl ?_
    refine fz_bipush ⟨by decide, by decide⟩ kX7_isShelf rfl ?_
    refine fz_icmp_ge (tgt := 14) kX7_isShelf rfl (by decide) (fun c2 => ?_) (fun c2 => ?_)
    · refine fz_iconst ⟨by decide, by decide⟩ kX7_isShelf rfl ?_
      exact fz_zret kX7_isShelf rfl rfl (by omega) ⟨rfl, _, rfl, Or.inr ⟨rfl, by omega⟩⟩
    · refine fz_iconst ⟨by decide, by decide⟩ kX7_isShelf rfl ?_
      refine fz_goto (tgt := 15) kX7_isShelf rfl (by decide) ?_
      exact fz_zret kX7_isShelf rfl rfl (by omega) ⟨rfl, _, rfl, Or.inl ⟨rfl, by omega⟩⟩

abbrev qX7_isEmpty (h : fz_H) (s : Int) : fz_H → Option fz_V → Prop := fun h' r0 => h' = h ∧ ∃ r : Int, r0 = some (fz_i r) ∧ ((r = 1 ∧ (h 48 s.toNat = 0)) ∨ (r = 0 ∧ ¬ (h 48 s.toNat = 0)))
set_option maxHeartbeats 1000000 in
set_option maxRecDepth 100000 in
theorem sX7_isEmpty (h : fz_H) (hI : fz_Iv h) (s : Int) (hp0 : 0 ≤ s ∧ s < 6) : fz_R 0 mX7_isEmpty 0 [(0, fz_r 47), (1, fz_i s)] [] h (qX7_isEmpty h s) := by
  refine fz_knowl (fun hk => ?_)
  have hr_s : -2147483648 ≤ s ∧ s < 2147483648 := hk _ (List.Mem.tail _ (List.Mem.head _))
  clear hk
  refine fz_aload_n kX7_isEmpty rfl rfl ?_
  refine fz_getR (t := 48) kX7_isEmpty rfl rfl ?_
  refine fz_iload_n kX7_isEmpty rfl rfl ?_
  refine fz_ialdV (n := 6) (v := h 48 (s.toNat)) kX7_isEmpty rfl rfl (by omega) (by omega) rfl ?_
  have b1 : 0 ≤ h 48 (s.toNat) ∧ h 48 (s.toNat) ≤ 2 := hI.1 48 _
  refine fz_if_ne (tgt := 13) kX7_isEmpty rfl (by decide) (fun c2 => ?_) (fun c2 => ?_)
  · refine fz_iconst ⟨by decide, by decide⟩ kX7_isEmpty rfl ?_
    exact fz_zret kX7_isEmpty rfl rfl (by omega) ⟨rfl, _, rfl, Or.inr ⟨rfl, by omega⟩⟩
  · refine fz_iconst ⟨by decide, by decide⟩ kX7_isEmpty rfl ?_
    refine fz_goto (tgt := 14) kX7_isEmpty rfl (by decide) ?_
    exact fz_zret kX7_isEmpty rfl rfl (by omega) ⟨rfl, _, rfl, Or.inl ⟨rfl, by omega⟩⟩

abbrev qX7_isRow (h : fz_H) (s : Int) : fz_H → Option fz_V → Prop := fun h' r0 => h' = h ∧ ∃ r : Int, r0 = some (fz_i r) ∧ ((r = 1 ∧ (h 48 s.toNat = 2)) ∨ (r = 0 ∧ ¬ (h 48 s.toNat = 2)))
set_option maxHeartbeats 1000000 in
set_option maxRecDepth 100000 in
theorem sX7_isRow (h : fz_H) (hI : fz_Iv h) (s : Int) (hp0 : 0 ≤ s ∧ s < 6) : fz_R 0 mX7_isRow 0 [(0, fz_r 47), (1, fz_i s)] [] h (qX7_isRow h s) := by
  refine fz_knowl (fun hk => ?_)
  have hr_s : -2147483648 ≤ s ∧ s < 2147483648 := hk _ (List.Mem.tail _ (List.Mem.head _))
  clear hk
  refine fz_aload_n kX7_isRow rfl rfl ?_
  refine fz_getR (t := 48) kX7_isRow rfl rfl ?_
  refine fz_iload_n kX7_isRow rfl rfl ?_
  refine fz_ialdV (n := 6) (v := h 48 (s.toNat)) kX7_isRow rfl rfl (by omega) (by omega) rfl ?_
  have b1 : 0 ≤ h 48 (s.toNat) ∧ h 48 (s.toNat) ≤ 2 := hI.1 48 _
  refine fz_iconst ⟨by decide, by decide⟩ kX7_isRow rfl ?_
  refine fz_icmp_ne (tgt := 14) kX7_isRow rfl (by decide) (fun c2 => ?_) (fun c2 => ?_)
  · refine fz_iconst ⟨by decide, by decide⟩ kX7_isRow rfl ?_
    exact fz_zret kX7_isRow rfl rfl (by omega) ⟨rfl, _, rfl, Or.inr ⟨rfl, by omega⟩⟩
  · refine fz_iconst ⟨by decide, by decide⟩ kX7_isRow rfl ?_
    refine fz_goto (tgt := 15) kX7_isRow rfl (by decide) ?_
    exact fz_zret kX7_isRow rfl rfl (by omega) ⟨rfl, _, rfl, Or.inl ⟨rfl, by omega⟩⟩

abbrev qX7_holdsRow (h : fz_H) (s so : Int) : fz_H → Option fz_V → Prop := fun h' r0 => h' = h ∧ ∃ r : Int, r0 = some (fz_i r) ∧ ((r = 1 ∧ (h 48 s.toNat = 2 ∧ h 50 s.toNat = so)) ∨ (r = 0 ∧ ¬ (h 48 s.toNat = 2 ∧ h 50 s.toNat = so)))
set_option maxHeartbeats 1000000 in
set_option maxRecDepth 100000 in
theorem sX7_holdsRow (h : fz_H) (hI : fz_Iv h) (s so : Int) (hp0 : 0 ≤ s ∧ s < 6) : fz_R 1 mX7_holdsRow 0 [(0, fz_r 47), (1, fz_i s), (2, fz_i so)] [] h (qX7_holdsRow h s so) := by
  refine fz_knowl (fun hk => ?_)
  have hr_s : -2147483648 ≤ s ∧ s < 2147483648 := hk _ (List.Mem.tail _ (List.Mem.head _))
  have hr_so : -2147483648 ≤ so ∧ so < 2147483648 := hk _ (List.Mem.tail _ (List.Mem.tail _ (List.Mem.head _)))
  clear hk
  refine fz_aload_n kX7_holdsRow rfl rfl ?_
  refine fz_iload_n kX7_holdsRow rfl rfl ?_
  refine fz_callV (d' := 0) (M' := mX7_isRow) (As := [fz_i s]) (st := []) kX7_holdsRow rfl rfl vX7_isRow rfl rfl rfl rfl (Nat.le_of_ble_eq_true rfl) (Nat.le_of_ble_eq_true rfl) (by decide) (sX7_isRow h hI s (by omega)) (fun H1 r2 q3 o4 => ?_)
  obtain ⟨e5, y6, rfl, p7⟩ := q3
  subst H1
  clear o4
  rcases p7 with ⟨rfl, c8⟩ | ⟨rfl, c8⟩
  · refine fz_if_eq (tgt := 22) kX7_holdsRow rfl (by decide) (fun c9 => ?_) (fun c9 => ?_)
    · exfalso; omega
    · refine fz_aload_n kX7_holdsRow rfl rfl ?_
      refine fz_getR (t := 50) kX7_holdsRow rfl rfl ?_
      refine fz_iload_n kX7_holdsRow rfl rfl ?_
      refine fz_ialdV (n := 6) (v := h 50 (s.toNat)) kX7_holdsRow rfl rfl (by omega) (by omega) rfl ?_
      have b10 : 0 ≤ h 50 (s.toNat) ∧ h 50 (s.toNat) ≤ 4 := hI.1 50 _
      refine fz_iload_n kX7_holdsRow rfl rfl ?_
      refine fz_icmp_ne (tgt := 22) kX7_holdsRow rfl (by decide) (fun c11 => ?_) (fun c11 => ?_)
      · refine fz_iconst ⟨by decide, by decide⟩ kX7_holdsRow rfl ?_
        exact fz_zret kX7_holdsRow rfl rfl (by omega) ⟨rfl, _, rfl, Or.inr ⟨rfl, by omega⟩⟩
      · refine fz_iconst ⟨by decide, by decide⟩ kX7_holdsRow rfl ?_
        refine fz_goto (tgt := 23) kX7_holdsRow rfl (by decide) ?_
        exact fz_zret kX7_holdsRow rfl rfl (by omega) ⟨rfl, _, rfl, Or.inl ⟨rfl, by omega⟩⟩
  · refine fz_if_eq (tgt := 22) kX7_holdsRow rfl (by decide) (fun c12 => ?_) (fun c12 => ?_)
    · refine fz_iconst ⟨by decide, by decide⟩ kX7_holdsRow rfl ?_
      exact fz_zret kX7_holdsRow rfl rfl (by omega) ⟨rfl, _, rfl, Or.inr ⟨rfl, by omega⟩⟩
    · exfalso; omega

abbrev qX7_hasPlaces (h : fz_H) (s i n : Int) : fz_H → Option fz_V → Prop := fun h' r0 => h' = h ∧ ∃ r : Int, r0 = some (fz_i r) ∧ ((r = 1 ∧ (h 48 s.toNat = 2 ∧ 0 ≤ i ∧ 0 ≤ n ∧ n ≤ 60 ∧ i ≤ 60 ∧ i + n ≤ 60 ∧ n ≤ h 51 s.toNat ∧ i ≤ h 51 s.toNat - n)) ∨ (r = 0 ∧ ¬ (h 48 s.toNat = 2 ∧ 0 ≤ i ∧ 0 ≤ n ∧ n ≤ 60 ∧ i ≤ 60 ∧ i + n ≤ 60 ∧ n ≤ h 51 s.toNat ∧ i ≤ h 51 s.toNat - n)))
set_option maxHeartbeats 1000000 in
set_option maxRecDepth 100000 in
theorem sX7_hasPlaces (h : fz_H) (hI : fz_Iv h) (s i n : Int) (hp0 : 0 ≤ s ∧ s < 6) : fz_R 1 mX7_hasPlaces 0 [(0, fz_r 47), (1, fz_i s), (2, fz_i i), (3, fz_i n)] [] h (qX7_hasPlaces h s i n) := by
  refine fz_knowl (fun hk => ?_)
  have hr_s : -2147483648 ≤ s ∧ s < 2147483648 := hk _ (List.Mem.tail _ (List.Mem.head _))
  have hr_i : -2147483648 ≤ i ∧ i < 2147483648 := hk _ (List.Mem.tail _ (List.Mem.tail _ (List.Mem.head _)))
  have hr_n : -2147483648 ≤ n ∧ n < 2147483648 := hk _ (List.Mem.tail _ (List.Mem.tail _ (List.Mem.tail _ (List.Mem.head _))))
  clear hk
  refine fz_aload_n kX7_hasPlaces rfl rfl ?_
  refine fz_iload_n kX7_hasPlaces rfl rfl ?_
  refine fz_callV (d' := 0) (M' := mX7_isRow) (As := [fz_i s]) (st := []) kX7_hasPlaces rfl rfl vX7_isRow rfl rfl rfl rfl (Nat.le_of_ble_eq_true rfl) (Nat.le_of_ble_eq_true rfl) (by decide) (sX7_isRow h hI s (by omega)) (fun H1 r2 q3 o4 => ?_)
  obtain ⟨e5, y6, rfl, p7⟩ := q3
  subst H1
  clear o4
  rcases p7 with ⟨rfl, c8⟩ | ⟨rfl, c8⟩
  · refine fz_if_eq (tgt := 42) kX7_hasPlaces rfl (by decide) (fun c9 => ?_) (fun c9 => ?_)
    · exfalso; omega
    · refine fz_iload_n kX7_hasPlaces rfl rfl ?_
      refine fz_if_lt (tgt := 42) kX7_hasPlaces rfl (by decide) (fun c10 => ?_) (fun c10 => ?_)
      · refine fz_iconst ⟨by decide, by decide⟩ kX7_hasPlaces rfl ?_
        exact fz_zret kX7_hasPlaces rfl rfl (by omega) ⟨rfl, _, rfl, Or.inr ⟨rfl, by omega⟩⟩
      · refine fz_iload_n kX7_hasPlaces rfl rfl ?_
        refine fz_if_lt (tgt := 42) kX7_hasPlaces rfl (by decide) (fun c11 => ?_) (fun c11 => ?_)
        · refine fz_iconst ⟨by decide, by decide⟩ kX7_hasPlaces rfl ?_
          exact fz_zret kX7_hasPlaces rfl rfl (by omega) ⟨rfl, _, rfl, Or.inr ⟨rfl, by omega⟩⟩
        · refine fz_iload_n kX7_hasPlaces rfl rfl ?_
          refine fz_aload_n kX7_hasPlaces rfl rfl ?_
          refine fz_getR (t := 51) kX7_hasPlaces rfl rfl ?_
          refine fz_iload_n kX7_hasPlaces rfl rfl ?_
          refine fz_ialdV (n := 6) (v := h 51 (s.toNat)) kX7_hasPlaces rfl rfl (by omega) (by omega) rfl ?_
          have b12 : 0 ≤ h 51 (s.toNat) ∧ h 51 (s.toNat) ≤ 60 := hI.1 51 _
          refine fz_icmp_gt (tgt := 42) kX7_hasPlaces rfl (by decide) (fun c13 => ?_) (fun c13 => ?_)
          · refine fz_iconst ⟨by decide, by decide⟩ kX7_hasPlaces rfl ?_
            exact fz_zret kX7_hasPlaces rfl rfl (by omega) ⟨rfl, _, rfl, Or.inr ⟨rfl, by omega⟩⟩
          · refine fz_iload_n kX7_hasPlaces rfl rfl ?_
            refine fz_aload_n kX7_hasPlaces rfl rfl ?_
            refine fz_getR (t := 51) kX7_hasPlaces rfl rfl ?_
            refine fz_iload_n kX7_hasPlaces rfl rfl ?_
            refine fz_ialdV (n := 6) (v := h 51 (s.toNat)) kX7_hasPlaces rfl rfl (by omega) (by omega) rfl ?_
            refine fz_iload_n kX7_hasPlaces rfl rfl ?_
            refine fz_isubN kX7_hasPlaces rfl (by omega) ?_
            refine fz_icmp_gt (tgt := 42) kX7_hasPlaces rfl (by decide) (fun c14 => ?_) (fun c14 => ?_)
            · refine fz_iconst ⟨by decide, by decide⟩ kX7_hasPlaces rfl ?_
              exact fz_zret kX7_hasPlaces rfl rfl (by omega) ⟨rfl, _, rfl, Or.inr ⟨rfl, by omega⟩⟩
            · refine fz_iconst ⟨by decide, by decide⟩ kX7_hasPlaces rfl ?_
              refine fz_goto (tgt := 43) kX7_hasPlaces rfl (by decide) ?_
              exact fz_zret kX7_hasPlaces rfl rfl (by omega) ⟨rfl, _, rfl, Or.inl ⟨rfl, by omega⟩⟩
  · refine fz_if_eq (tgt := 42) kX7_hasPlaces rfl (by decide) (fun c15 => ?_) (fun c15 => ?_)
    · refine fz_iconst ⟨by decide, by decide⟩ kX7_hasPlaces rfl ?_
      exact fz_zret kX7_hasPlaces rfl rfl (by omega) ⟨rfl, _, rfl, Or.inr ⟨rfl, by omega⟩⟩
    · exfalso; omega

abbrev qX7_setWord (h : fz_H) (s b : Int) : fz_H → Option fz_V → Prop := fun h' r0 => fz_Iv h' ∧ fz_fr [(48, 99999), (49, 99999)] h h' ∧ r0 = none ∧ fz_uW h h' s b
set_option maxHeartbeats 1000000 in
set_option maxRecDepth 100000 in
theorem sX7_setWord (h : fz_H) (hI : fz_Iv h) (s b : Int) (hp0 : 0 ≤ s ∧ s < 6) : fz_R 0 mX7_setWord 0 [(0, fz_r 47), (1, fz_i s), (2, fz_i b)] [] h (qX7_setWord h s b) := by
  refine fz_knowl (fun hk => ?_)
  have hr_s : -2147483648 ≤ s ∧ s < 2147483648 := hk _ (List.Mem.tail _ (List.Mem.head _))
  have hr_b : -2147483648 ≤ b ∧ b < 2147483648 := hk _ (List.Mem.tail _ (List.Mem.tail _ (List.Mem.head _)))
  clear hk
  have hf : fz_fr [(48, 99999), (49, 99999)] h h := fz_fr_rf
  refine fz_aload_n kX7_setWord rfl rfl ?_
  refine fz_getR (t := 48) kX7_setWord rfl rfl ?_
  refine fz_iload_n kX7_setWord rfl rfl ?_
  refine fz_iload_n kX7_setWord rfl rfl ?_
  refine fz_if_ge (tgt := 13) kX7_setWord rfl (by decide) (fun c1 => ?_) (fun c1 => ?_)
  · refine fz_iconst ⟨by decide, by decide⟩ kX7_setWord rfl ?_
    refine fz_iast (n := 6) kX7_setWord rfl rfl (by omega) (by omega) ?_
    refine fz_nmu (S := [(48, 99999), (49, 99999)]) (h0 := h) (fz_Iv_up hI (by decide) (show (0 : Int) ≤ 1 by decide) (show (1 : Int) ≤ 2 by decide)) (fz_fr_up hf rfl) (fun H2 hI3 hf4 e5 => ?_)
    refine fz_aload_n kX7_setWord rfl rfl ?_
    refine fz_getR (t := 49) kX7_setWord rfl rfl ?_
    refine fz_iload_n kX7_setWord rfl rfl ?_
    refine fz_iload_n kX7_setWord rfl rfl ?_
    refine fz_iast (n := 6) kX7_setWord rfl rfl (by omega) (by omega) ?_
    refine fz_nmu (S := [(48, 99999), (49, 99999)]) (h0 := h) (fz_Iv_up hI3 (by decide) (show ((-2147483648) : Int) ≤ b by omega) (show (b : Int) ≤ 2147483647 by omega)) (fz_fr_up hf4 rfl) (fun H6 hI7 hf8 e9 => ?_)
    exact fz_vret kX7_setWord rfl rfl ⟨hI7, hf8, rfl, (by exact fz_uW_in e5 e9 (by omega))⟩
  · refine fz_iconst ⟨by decide, by decide⟩ kX7_setWord rfl ?_
    refine fz_goto (tgt := 14) kX7_setWord rfl (by decide) ?_
    refine fz_iast (n := 6) kX7_setWord rfl rfl (by omega) (by omega) ?_
    refine fz_nmu (S := [(48, 99999), (49, 99999)]) (h0 := h) (fz_Iv_up hI (by decide) (show (0 : Int) ≤ 0 by decide) (show (0 : Int) ≤ 2 by decide)) (fz_fr_up hf rfl) (fun H11 hI12 hf13 e14 => ?_)
    refine fz_aload_n kX7_setWord rfl rfl ?_
    refine fz_getR (t := 49) kX7_setWord rfl rfl ?_
    refine fz_iload_n kX7_setWord rfl rfl ?_
    refine fz_iload_n kX7_setWord rfl rfl ?_
    refine fz_iast (n := 6) kX7_setWord rfl rfl (by omega) (by omega) ?_
    refine fz_nmu (S := [(48, 99999), (49, 99999)]) (h0 := h) (fz_Iv_up hI12 (by decide) (show ((-2147483648) : Int) ≤ b by omega) (show (b : Int) ≤ 2147483647 by omega)) (fz_fr_up hf13 rfl) (fun H15 hI16 hf17 e18 => ?_)
    exact fz_vret kX7_setWord rfl rfl ⟨hI16, hf17, rfl, (by exact fz_uW_in e14 e18 (by omega))⟩

abbrev qX7_setRow (h : fz_H) (s so n : Int) : fz_H → Option fz_V → Prop := fun h' r0 => fz_Iv h' ∧ fz_fr [(48, 99999), (50, 99999), (51, 99999), (52, 99999)] h h' ∧ r0 = none ∧ fz_uR h h' s so n
set_option maxHeartbeats 1000000 in
set_option maxRecDepth 100000 in
theorem sX7_setRow (h : fz_H) (hI : fz_Iv h) (s so n : Int) (hp0 : 0 ≤ s ∧ s < 6) (hp1 : 0 ≤ so ∧ so ≤ 4) (hp2 : 0 ≤ n ∧ n ≤ 60) : fz_R 2 mX7_setRow 0 [(0, fz_r 47), (1, fz_i s), (2, fz_i so), (3, fz_i n)] [] h (qX7_setRow h s so n) := by
  refine fz_knowl (fun hk => ?_)
  have hr_s : -2147483648 ≤ s ∧ s < 2147483648 := hk _ (List.Mem.tail _ (List.Mem.head _))
  have hr_so : -2147483648 ≤ so ∧ so < 2147483648 := hk _ (List.Mem.tail _ (List.Mem.tail _ (List.Mem.head _)))
  have hr_n : -2147483648 ≤ n ∧ n < 2147483648 := hk _ (List.Mem.tail _ (List.Mem.tail _ (List.Mem.tail _ (List.Mem.head _))))
  clear hk
  have hf : fz_fr [(48, 99999), (50, 99999), (51, 99999), (52, 99999)] h h := fz_fr_rf
  refine fz_aload_n kX7_setRow rfl rfl ?_
  refine fz_getR (t := 48) kX7_setRow rfl rfl ?_
  refine fz_iload_n kX7_setRow rfl rfl ?_
  refine fz_iconst ⟨by decide, by decide⟩ kX7_setRow rfl ?_
  refine fz_iast (n := 6) kX7_setRow rfl rfl (by omega) (by omega) ?_
  refine fz_nmu (S := [(48, 99999), (50, 99999), (51, 99999), (52, 99999)]) (h0 := h) (fz_Iv_up hI (by decide) (show (0 : Int) ≤ 2 by decide) (show (2 : Int) ≤ 2 by decide)) (fz_fr_up hf rfl) (fun H1 hI2 hf3 e4 => ?_)
  refine fz_aload_n kX7_setRow rfl rfl ?_
  refine fz_getR (t := 50) kX7_setRow rfl rfl ?_
  refine fz_iload_n kX7_setRow rfl rfl ?_
  refine fz_iload_n kX7_setRow rfl rfl ?_
  refine fz_iast (n := 6) kX7_setRow rfl rfl (by omega) (by omega) ?_
  refine fz_nmu (S := [(48, 99999), (50, 99999), (51, 99999), (52, 99999)]) (h0 := h) (fz_Iv_up hI2 (by decide) (show (0 : Int) ≤ so by omega) (show (so : Int) ≤ 4 by omega)) (fz_fr_up hf3 rfl) (fun H5 hI6 hf7 e8 => ?_)
  refine fz_aload_n kX7_setRow rfl rfl ?_
  refine fz_getR (t := 51) kX7_setRow rfl rfl ?_
  refine fz_iload_n kX7_setRow rfl rfl ?_
  refine fz_iload_n kX7_setRow rfl rfl ?_
  refine fz_iast (n := 6) kX7_setRow rfl rfl (by omega) (by omega) ?_
  refine fz_nmu (S := [(48, 99999), (50, 99999), (51, 99999), (52, 99999)]) (h0 := h) (fz_Iv_up hI6 (by decide) (show (0 : Int) ≤ n by omega) (show (n : Int) ≤ 60 by omega)) (fz_fr_up hf7 rfl) (fun H9 hI10 hf11 e12 => ?_)
  refine fz_aload_n kX7_setRow rfl rfl ?_
  refine fz_getR (t := 52) kX7_setRow rfl rfl ?_
  refine fz_iload_n kX7_setRow rfl rfl ?_
  refine fz_bipush ⟨by decide, by decide⟩ kX7_setRow rfl ?_
  refine fz_imulN kX7_setRow rfl (by omega) ?_
  refine fz_iload_n kX7_setRow rfl rfl ?_
  refine fz_bipush ⟨by decide, by decide⟩ kX7_setRow rfl ?_
  refine fz_imulN kX7_setRow rfl (by omega) ?_
  refine fz_bipush ⟨by decide, by decide⟩ kX7_setRow rfl ?_
  refine fz_iaddN kX7_setRow rfl (by omega) ?_
  refine fz_lconst (x := 0) ⟨by decide, by decide⟩ rfl kX7_setRow rfl ?_
  refine fz_callS (d' := 1) (M' := mJ7_fill_bad5a) (As := [fz_r 52, fz_i (s * 60), fz_i ((s * 60) + 60), fz_l 0]) (st := []) kX7_setRow rfl rfl vJ7_fill_bad5a rfl rfl (Nat.le_of_ble_eq_true rfl) (Nat.le_of_ble_eq_true rfl) (by decide) (sJ7_fill_bad5a_52 H9 hI10 (s * 60) ((s * 60) + 60) 0 (by omega)) (fun H13 r14 q15 o16 => ?_)
  obtain ⟨hI17, hf18, rfl, f19⟩ := q15
  clear o16
  have hf20 := fz_fr_tr hf11 hf18 (show fz_su [(52, 99999)] [(48, 99999), (50, 99999), (51, 99999), (52, 99999)] = true from rfl)
  exact fz_vret kX7_setRow rfl rfl ⟨hI17, hf20, rfl, (by exact fz_uR_in e4 e8 e12 f19 (by omega) (by omega))⟩

abbrev qX7_get (h : fz_H) (s i : Int) : fz_H → Option fz_V → Prop := fun h' r0 => h' = h ∧ ∃ r : Int, r0 = some (fz_l r) ∧ ((-9223372036854775808) ≤ r ∧ r ≤ 9223372036854775807) ∧ (r = h 52 (60 * s + i).toNat)
set_option maxHeartbeats 1000000 in
set_option maxRecDepth 100000 in
theorem sX7_get (h : fz_H) (hI : fz_Iv h) (s i : Int) (hp0 : 0 ≤ s ∧ s < 6) (hp1 : 0 ≤ i ∧ i < 60) : fz_R 0 mX7_get 0 [(0, fz_r 47), (1, fz_i s), (2, fz_i i)] [] h (qX7_get h s i) := by
  refine fz_knowl (fun hk => ?_)
  have hr_s : -2147483648 ≤ s ∧ s < 2147483648 := hk _ (List.Mem.tail _ (List.Mem.head _))
  have hr_i : -2147483648 ≤ i ∧ i < 2147483648 := hk _ (List.Mem.tail _ (List.Mem.tail _ (List.Mem.head _)))
  clear hk
  refine fz_aload_n kX7_get rfl rfl ?_
  refine fz_getR (t := 52) kX7_get rfl rfl ?_
  refine fz_iload_n kX7_get rfl rfl ?_
  refine fz_bipush ⟨by decide, by decide⟩ kX7_get rfl ?_
  refine fz_imulN kX7_get rfl (by omega) ?_
  refine fz_iload_n kX7_get rfl rfl ?_
  refine fz_iaddN kX7_get rfl (by omega) ?_
  refine fz_laldV (n := 360) (v := h 52 (((s * 60) + i).toNat)) kX7_get rfl rfl (by omega) (by omega) rfl ?_
  have b1 : (-9223372036854775808) ≤ h 52 (((s * 60) + i).toNat) ∧ h 52 (((s * 60) + i).toNat) ≤ 9223372036854775807 := hI.1 52 _
  exact fz_lret kX7_get rfl rfl (fun _ => ⟨rfl, _, rfl, (by omega), (by exact congrArg (fun z : Int => h 52 z.toNat) (by omega))⟩)

abbrev qX7_lowestBits (h : fz_H) (so v : Int) : fz_H → Option fz_V → Prop := fun h' r0 => h' = h ∧ ∃ r : Int, r0 = some (fz_l r) ∧ ((-9223372036854775808) ≤ r ∧ r ≤ 9223372036854775807) ∧ (r = fz_lb so v)
set_option maxHeartbeats 1000000 in
set_option maxRecDepth 100000 in
theorem sX7_lowestBits (h : fz_H) (hI : fz_Iv h) (so v : Int) : fz_R 0 mX7_lowestBits 0 [(0, fz_i so), (1, fz_l v)] [] h (qX7_lowestBits h so v) := by
  refine fz_knowl (fun hk => ?_)
  have hr_so : -2147483648 ≤ so ∧ so < 2147483648 := hk _ (List.Mem.head _)
  have hr_v : -9223372036854775808 ≤ v ∧ v < 9223372036854775808 := hk _ (List.Mem.tail _ (List.Mem.head _))
  clear hk
  refine fz_iload_n kX7_lowestBits rfl rfl ?_
  rcases (show so = 0 ∨ so = 1 ∨ so = 2 ∨ so = 3 ∨ so = 4 ∨ (so < 0 ∨ 4 < so) by omega) with c1 | c1 | c1 | c1 | c1 | c1
  · refine fz_tswC (j := 0) (tgt := 36) kX7_lowestBits rfl c1 (by decide) (by decide) rfl (by decide) ?_
    refine fz_lload_n kX7_lowestBits rfl rfl ?_
    refine fz_l2i kX7_lowestBits rfl ?_
    have b2 : -2147483648 ≤ (fz_w v) ∧ (fz_w v) < 2147483648 := fz_w_b _
    refine fz_ci2b kX7_lowestBits rfl ?_
    have b3 := fz_i2b_b (fz_w v)
    refine fz_i2l kX7_lowestBits rfl ?_
    exact fz_lret kX7_lowestBits rfl rfl (fun _ => ⟨rfl, _, rfl, (by omega), (by first | exact fz_lb_0 (by omega) | exact fz_lb_1 (by omega) | exact fz_lb_2 (by omega) | exact fz_lb_3 (by omega) | exact fz_lb_4 (by omega) (by omega) | exact fz_lb_5 (by omega) (by omega))⟩)
  · refine fz_tswC (j := 1) (tgt := 41) kX7_lowestBits rfl c1 (by decide) (by decide) rfl (by decide) ?_
    refine fz_lload_n kX7_lowestBits rfl rfl ?_
    refine fz_l2i kX7_lowestBits rfl ?_
    have b5 : -2147483648 ≤ (fz_w v) ∧ (fz_w v) < 2147483648 := fz_w_b _
    refine fz_ci2s kX7_lowestBits rfl ?_
    have b6 := fz_i2s_b (fz_w v)
    refine fz_i2l kX7_lowestBits rfl ?_
    exact fz_lret kX7_lowestBits rfl rfl (fun _ => ⟨rfl, _, rfl, (by omega), (by first | exact fz_lb_0 (by omega) | exact fz_lb_1 (by omega) | exact fz_lb_2 (by omega) | exact fz_lb_3 (by omega) | exact fz_lb_4 (by omega) (by omega) | exact fz_lb_5 (by omega) (by omega))⟩)
  · refine fz_tswC (j := 2) (tgt := 46) kX7_lowestBits rfl c1 (by decide) (by decide) rfl (by decide) ?_
    refine fz_lload_n kX7_lowestBits rfl rfl ?_
    refine fz_l2i kX7_lowestBits rfl ?_
    have b8 : -2147483648 ≤ (fz_w v) ∧ (fz_w v) < 2147483648 := fz_w_b _
    refine fz_i2l kX7_lowestBits rfl ?_
    exact fz_lret kX7_lowestBits rfl rfl (fun _ => ⟨rfl, _, rfl, (by omega), (by first | exact fz_lb_0 (by omega) | exact fz_lb_1 (by omega) | exact fz_lb_2 (by omega) | exact fz_lb_3 (by omega) | exact fz_lb_4 (by omega) (by omega) | exact fz_lb_5 (by omega) (by omega))⟩)
  · refine fz_tswC (j := 3) (tgt := 62) kX7_lowestBits rfl c1 (by decide) (by decide) rfl (by decide) ?_
    refine fz_lload_n kX7_lowestBits rfl rfl ?_
    exact fz_lret kX7_lowestBits rfl rfl (fun _ => ⟨rfl, _, rfl, (by omega), (by first | exact fz_lb_0 (by omega) | exact fz_lb_1 (by omega) | exact fz_lb_2 (by omega) | exact fz_lb_3 (by omega) | exact fz_lb_4 (by omega) (by omega) | exact fz_lb_5 (by omega) (by omega))⟩)
  · refine fz_tswC (j := 4) (tgt := 50) kX7_lowestBits rfl c1 (by decide) (by decide) rfl (by decide) ?_
    refine fz_lload_n kX7_lowestBits rfl rfl ?_
    refine fz_lconst (x := 0) ⟨by decide, by decide⟩ rfl kX7_lowestBits rfl ?_
    refine fz_lcmp kX7_lowestBits rfl ?_
    have b11 := fz_cmp_c v 0
    refine fz_if_eq (tgt := 60) kX7_lowestBits rfl (by decide) (fun c12 => ?_) (fun c12 => ?_)
    · refine fz_lconst (x := 0) ⟨by decide, by decide⟩ rfl kX7_lowestBits rfl ?_
      exact fz_lret kX7_lowestBits rfl rfl (fun _ => ⟨rfl, _, rfl, (by omega), (by first | exact fz_lb_0 (by omega) | exact fz_lb_1 (by omega) | exact fz_lb_2 (by omega) | exact fz_lb_3 (by omega) | exact fz_lb_4 (by omega) (by omega) | exact fz_lb_5 (by omega) (by omega))⟩)
    · refine fz_lconst (x := 1) ⟨by decide, by decide⟩ rfl kX7_lowestBits rfl ?_
      refine fz_goto (tgt := 61) kX7_lowestBits rfl (by decide) ?_
      exact fz_lret kX7_lowestBits rfl rfl (fun _ => ⟨rfl, _, rfl, (by omega), (by first | exact fz_lb_0 (by omega) | exact fz_lb_1 (by omega) | exact fz_lb_2 (by omega) | exact fz_lb_3 (by omega) | exact fz_lb_4 (by omega) (by omega) | exact fz_lb_5 (by omega) (by omega))⟩)
  · refine fz_tswO (tgt := 62) kX7_lowestBits rfl c1 (by decide) ?_
    refine fz_lload_n kX7_lowestBits rfl rfl ?_
    exact fz_lret kX7_lowestBits rfl rfl (fun _ => ⟨rfl, _, rfl, (by omega), (by first | exact fz_lb_0 (by omega) | exact fz_lb_1 (by omega) | exact fz_lb_2 (by omega) | exact fz_lb_3 (by omega) | exact fz_lb_4 (by omega) (by omega) | exact fz_lb_5 (by omega) (by omega))⟩)

abbrev qX7_set (h : fz_H) (s i v : Int) : fz_H → Option fz_V → Prop := fun h' r0 => fz_Iv h' ∧ fz_fr [(52, 99999)] h h' ∧ r0 = none ∧ h' = fz_up h 52 (60 * s + i).toNat (fz_lb (h 50 s.toNat) v)
set_option maxHeartbeats 1000000 in
set_option maxRecDepth 100000 in
theorem sX7_set (h : fz_H) (hI : fz_Iv h) (s i v : Int) (hp0 : 0 ≤ s ∧ s < 6) (hp1 : 0 ≤ i ∧ i < 60) : fz_R 1 mX7_set 0 [(0, fz_r 47), (1, fz_i s), (2, fz_i i), (3, fz_l v)] [] h (qX7_set h s i v) := by
  refine fz_knowl (fun hk => ?_)
  have hr_s : -2147483648 ≤ s ∧ s < 2147483648 := hk _ (List.Mem.tail _ (List.Mem.head _))
  have hr_i : -2147483648 ≤ i ∧ i < 2147483648 := hk _ (List.Mem.tail _ (List.Mem.tail _ (List.Mem.head _)))
  have hr_v : -9223372036854775808 ≤ v ∧ v < 9223372036854775808 := hk _ (List.Mem.tail _ (List.Mem.tail _ (List.Mem.tail _ (List.Mem.head _))))
  clear hk
  have hf : fz_fr [(52, 99999)] h h := fz_fr_rf
  refine fz_aload_n kX7_set rfl rfl ?_
  refine fz_getR (t := 52) kX7_set rfl rfl ?_
  refine fz_iload_n kX7_set rfl rfl ?_
  refine fz_bipush ⟨by decide, by decide⟩ kX7_set rfl ?_
  refine fz_imulN kX7_set rfl (by omega) ?_
  refine fz_iload_n kX7_set rfl rfl ?_
  refine fz_iaddN kX7_set rfl (by omega) ?_
  refine fz_aload_n kX7_set rfl rfl ?_
  refine fz_getR (t := 50) kX7_set rfl rfl ?_
  refine fz_iload_n kX7_set rfl rfl ?_
  refine fz_ialdV (n := 6) (v := h 50 (s.toNat)) kX7_set rfl rfl (by omega) (by omega) rfl ?_
  have b1 : 0 ≤ h 50 (s.toNat) ∧ h 50 (s.toNat) ≤ 4 := hI.1 50 _
  refine fz_lload_n kX7_set rfl rfl ?_
  refine fz_callS (d' := 0) (M' := mX7_lowestBits) (As := [fz_i (h 50 (s.toNat)), fz_l v]) (st := [fz_i ((s * 60) + i), fz_r 52]) kX7_set rfl rfl vX7_lowestBits rfl rfl (Nat.le_of_ble_eq_true rfl) (Nat.le_of_ble_eq_true rfl) (by decide) (sX7_lowestBits h hI (h 50 (s.toNat)) v ) (fun H2 r3 q4 o5 => ?_)
  obtain ⟨e6, y9, rfl, f7, f8⟩ := q4
  subst H2
  clear o5
  refine fz_last (n := 360) kX7_set rfl rfl (by omega) (by omega) ?_
  refine fz_nmu (S := [(52, 99999)]) (h0 := h) (fz_Iv_up hI (by decide) (show ((-9223372036854775808) : Int) ≤ y9 by omega) (show (y9 : Int) ≤ 9223372036854775807 by omega)) (fz_fr_up hf rfl) (fun H10 hI11 hf12 e13 => ?_)
  exact fz_vret kX7_set rfl rfl ⟨hI11, hf12, rfl, (by exact fz_uS_in e13 f8 (by omega))⟩

abbrev qX7_copy (h : fz_H) (s i o j n : Int) : fz_H → Option fz_V → Prop := fun h' r0 => fz_Iv h' ∧ fz_fr [(52, 99999)] h h' ∧ r0 = none ∧ h' = fz_cp h 52 (60 * s + i).toNat 52 (60 * o + j).toNat n.toNat
set_option maxHeartbeats 1000000 in
set_option maxRecDepth 100000 in
theorem sX7_copy (h : fz_H) (hI : fz_Iv h) (s i o j n : Int) (hp0 : 0 ≤ s ∧ s < 6) (hp1 : 0 ≤ o ∧ o < 6) (hp2 : 0 ≤ i ∧ i ≤ 60) (hp3 : 0 ≤ j ∧ j ≤ 60) (hp4 : 0 ≤ n ∧ n ≤ 60) (hp5 : i + n ≤ 60) (hp6 : j + n ≤ 60) : fz_R 1 mX7_copy 0 [(0, fz_r 47), (1, fz_i s), (2, fz_i i), (3, fz_i o), (4, fz_i j), (5, fz_i n)] [] h (qX7_copy h s i o j n) := by
  refine fz_knowl (fun hk => ?_)
  have hr_s : -2147483648 ≤ s ∧ s < 2147483648 := hk _ (List.Mem.tail _ (List.Mem.head _))
  have hr_i : -2147483648 ≤ i ∧ i < 2147483648 := hk _ (List.Mem.tail _ (List.Mem.tail _ (List.Mem.head _)))
  have hr_o : -2147483648 ≤ o ∧ o < 2147483648 := hk _ (List.Mem.tail _ (List.Mem.tail _ (List.Mem.tail _ (List.Mem.head _))))
  have hr_j : -2147483648 ≤ j ∧ j < 2147483648 := hk _ (List.Mem.tail _ (List.Mem.tail _ (List.Mem.tail _ (List.Mem.tail _ (List.Mem.head _)))))
  have hr_n : -2147483648 ≤ n ∧ n < 2147483648 := hk _ (List.Mem.tail _ (List.Mem.tail _ (List.Mem.tail _ (List.Mem.tail _ (List.Mem.tail _ (List.Mem.head _))))))
  clear hk
  have hf : fz_fr [(52, 99999)] h h := fz_fr_rf
  refine fz_aload_n kX7_copy rfl rfl ?_
  refine fz_getR (t := 52) kX7_copy rfl rfl ?_
  refine fz_iload_n kX7_copy rfl rfl ?_
  refine fz_bipush ⟨by decide, by decide⟩ kX7_copy rfl ?_
  refine fz_imulN kX7_copy rfl (by omega) ?_
  refine fz_iload_n kX7_copy rfl rfl ?_
  refine fz_iaddN kX7_copy rfl (by omega) ?_
  refine fz_aload_n kX7_copy rfl rfl ?_
  refine fz_getR (t := 52) kX7_copy rfl rfl ?_
  refine fz_iload_n kX7_copy rfl rfl ?_
  refine fz_bipush ⟨by decide, by decide⟩ kX7_copy rfl ?_
  refine fz_imulN kX7_copy rfl (by omega) ?_
  refine fz_iload kX7_copy rfl rfl ?_
  refine fz_iaddN kX7_copy rfl (by omega) ?_
  refine fz_iload kX7_copy rfl rfl ?_
  refine fz_copyl (n1 := 360) (n2 := 360) kX7_copy rfl rfl rfl rfl (by omega) (by omega) (by omega) (by omega) (by omega) (by decide) (Nat.le_of_ble_eq_true rfl) ?_
  refine fz_nmu (S := [(52, 99999)]) (h0 := h) (fz_Iv_cp hI (by decide) (fun k l _ _ _ => hI.1 52 k)) (fz_fr_cp hf (fun _ => rfl)) (fun H1 hI2 hf3 e4 => ?_)
  exact fz_vret kX7_copy rfl rfl ⟨hI2, hf3, rfl, (by exact fz_cp_e e4 (by omega) (by omega) rfl)⟩
