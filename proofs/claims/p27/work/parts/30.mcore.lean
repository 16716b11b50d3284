/-! ===== what the methods keep ===== -/
abbrev qX11_within (h : fz_H) (v lo hi : Int) : fz_H → Option fz_V → Prop := fun h' r0 => h' = h ∧ ∃ r : Int, r0 = some (fz_i r) ∧ ((r = 1 ∧ (lo ≤ v ∧ v ≤ hi)) ∨ (r = 0 ∧ ¬ (lo ≤ v ∧ v ≤ hi)))
set_option maxHeartbeats 1000000 in
set_option maxRecDepth 100000 in
theorem sX11_within (h : fz_H) (hI : fz_Iv h) (v lo hi : Int) : fz_R 0 mX11_within 0 [(0, fz_i v), (1, fz_i lo), (2, fz_i hi)] [] h (qX11_within h v lo hi) := by
  refine fz_knowl (fun hk => ?_)
  have hr_v : -2147483648 ≤ v ∧ v < 2147483648 := hk _ (List.Mem.head _)
  have hr_lo : -2147483648 ≤ lo ∧ lo < 2147483648 := hk _ (List.Mem.tail _ (List.Mem.head _))
  have hr_hi : -2147483648 ≤ hi ∧ hi < 2147483648 := hk _ (List.Mem.tail _ (List.Mem.tail _ (List.Mem.head _)))
  clear hk
  refine fz_iload_n kX11_within rfl rfl ?_
  refine fz_iload_n kX11_within rfl rfl ?_
  refine fz_icmp_lt (tgt := 14) kX11_within rfl (by decide) (fun c1 => ?_) (fun c1 => ?_)
  · refine fz_iconst ⟨by decide, by decide⟩ kX11_within rfl ?_
    exact fz_zret kX11_within rfl rfl (by omega) ⟨rfl, _, rfl, Or.inr ⟨rfl, by omega⟩⟩
  · refine fz_iload_n kX11_within rfl rfl ?_
    refine fz_iload_n kX11_within rfl rfl ?_
    refine fz_icmp_gt (tgt := 14) kX11_within rfl (by decide) (fun c2 => ?_) (fun c2 => ?_)
    · refine fz_iconst ⟨by decide, by decide⟩ kX11_within rfl ?_
      exact fz_zret kX11_within rfl rfl (by omega) ⟨rfl, _, rfl, Or.inr ⟨rfl, by omega⟩⟩
    · refine fz_iconst ⟨by decide, by decide⟩ kX11_within rfl ?_
      refine fz_goto (tgt := 15) kX11_within rfl (by decide) ?_
      exact fz_zret kX11_within rfl rfl (by omega) ⟨rfl, _, rfl, Or.inl ⟨rfl, by omega⟩⟩

abbrev qX11_isTown (h : fz_H) (t : Int) : fz_H → Option fz_V → Prop := fun h' r0 => h' = h ∧ ∃ r : Int, r0 = some (fz_i r) ∧ ((r = 1 ∧ (0 ≤ t ∧ t ≤ 7 ∧ t < h 53 0)) ∨ (r = 0 ∧ ¬ (0 ≤ t ∧ t ≤ 7 ∧ t < h 53 0)))
set_option maxHeartbeats 1000000 in
set_option maxRecDepth 100000 in
theorem sX11_isTown (h : fz_H) (hI : fz_Iv h) (t : Int) : fz_R 1 mX11_isTown 0 [(0, fz_r 53), (1, fz_i t)] [] h (qX11_isTown h t) := by
  refine fz_knowl (fun hk => ?_)
  have hr_t : -2147483648 ≤ t ∧ t < 2147483648 := hk _ (List.Mem.tail _ (List.Mem.head _))
  clear hk
  have b1 : 0 ≤ h 53 0 ∧ h 53 0 ≤ 8 := hI.1 53 _
  refine fz_iload_n kX11_isTown rfl rfl ?_
  refine fz_iconst ⟨by decide, by decide⟩ kX11_isTown rfl ?_
  refine fz_aload_n kX11_isTown rfl rfl ?_
  refine fz_getV (v := h 53 0) kX11_isTown rfl rfl rfl ?_
  have b2 : 0 ≤ h 53 0 ∧ h 53 0 ≤ 8 := hI.1 53 _
  refine fz_iconst ⟨by decide, by decide⟩ kX11_isTown rfl ?_
  refine fz_isubN kX11_isTown rfl (by omega) ?_
  refine fz_callS (d' := 0) (M' := mX11_within) (As := [fz_i t, fz_i 0, fz_i ((h 53 0) - 1)]) (st := []) kX11_isTown rfl rfl vX11_within rfl rfl (Nat.le_of_ble_eq_true rfl) (Nat.le_of_ble_eq_true rfl) (by decide) (sX11_within h hI t 0 ((h 53 0) - 1) ) (fun H3 r4 q5 o6 => ?_)
  obtain ⟨e7, y8, rfl, p9⟩ := q5
  subst H3
  clear o6
  rcases p9 with ⟨rfl, c10⟩ | ⟨rfl, c10⟩
  · exact fz_zret kX11_isTown rfl rfl (by omega) ⟨rfl, _, rfl, Or.inl ⟨rfl, by omega⟩⟩
  · exact fz_zret kX11_isTown rfl rfl (by omega) ⟨rfl, _, rfl, Or.inr ⟨rfl, by omega⟩⟩

abbrev qX11_isRoad (h : fz_H) (t : Int) : fz_H → Option fz_V → Prop := fun h' r0 => h' = h ∧ ∃ r : Int, r0 = some (fz_i r) ∧ ((r = 1 ∧ (0 ≤ t ∧ t ≤ 11 ∧ t < h 53 2)) ∨ (r = 0 ∧ ¬ (0 ≤ t ∧ t ≤ 11 ∧ t < h 53 2)))
set_option maxHeartbeats 1000000 in
set_option maxRecDepth 100000 in
theorem sX11_isRoad (h : fz_H) (hI : fz_Iv h) (t : Int) : fz_R 1 mX11_isRoad 0 [(0, fz_r 53), (1, fz_i t)] [] h (qX11_isRoad h t) := by
  refine fz_knowl (fun hk => ?_)
  have hr_t : -2147483648 ≤ t ∧ t < 2147483648 := hk _ (List.Mem.tail _ (List.Mem.head _))
  clear hk
  have b1 : 0 ≤ h 53 2 ∧ h 53 2 ≤ 12 := hI.1 53 _
  refine fz_iload_n kX11_isRoad rfl rfl ?_
  refine fz_iconst ⟨by decide, by decide⟩ kX11_isRoad rfl ?_
  refine fz_aload_n kX11_isRoad rfl rfl ?_
  refine fz_getV (v := h 53 2) kX11_isRoad rfl rfl rfl ?_
  have b2 : 0 ≤ h 53 2 ∧ h 53 2 ≤ 12 := hI.1 53 _
  refine fz_iconst ⟨by decide, by decide⟩ kX11_isRoad rfl ?_
  refine fz_isubN kX11_isRoad rfl (by omega) ?_
  refine fz_callS (d' := 0) (M' := mX11_within) (As := [fz_i t, fz_i 0, fz_i ((h 53 2) - 1)]) (st := []) kX11_isRoad rfl rfl vX11_within rfl rfl (Nat.le_of_ble_eq_true rfl) (Nat.le_of_ble_eq_true rfl) (by decide) (sX11_within h hI t 0 ((h 53 2) - 1) ) (fun H3 r4 q5 o6 => ?_)
  obtain ⟨e7, y8, rfl, p9⟩ := q5
  subst H3
  clear o6
  rcases p9 with ⟨rfl, c10⟩ | ⟨rfl, c10⟩
  · exact fz_zret kX11_isRoad rfl rfl (by omega) ⟨rfl, _, rfl, Or.inl ⟨rfl, by omega⟩⟩
  · exact fz_zret kX11_isRoad rfl rfl (by omega) ⟨rfl, _, rfl, Or.inr ⟨rfl, by omega⟩⟩

abbrev qX11_isDeed (h : fz_H) (t : Int) : fz_H → Option fz_V → Prop := fun h' r0 => h' = h ∧ ∃ r : Int, r0 = some (fz_i r) ∧ ((r = 1 ∧ (0 ≤ t ∧ t ≤ 10 ∧ t < h 53 10)) ∨ (r = 0 ∧ ¬ (0 ≤ t ∧ t ≤ 10 ∧ t < h 53 10)))
set_option maxHeartbeats 1000000 in
set_option maxRecDepth 100000 in
theorem sX11_isDeed (h : fz_H) (hI : fz_Iv h) (t : Int) : fz_R 1 mX11_isDeed 0 [(0, fz_r 53), (1, fz_i t)] [] h (qX11_isDeed h t) := by
  refine fz_knowl (fun hk => ?_)
  have hr_t : -2147483648 ≤ t ∧ t < 2147483648 := hk _ (List.Mem.tail _ (List.Mem.head _))
  clear hk
  have b1 : 0 ≤ h 53 10 ∧ h 53 10 ≤ 11 := hI.1 53 _
  refine fz_iload_n kX11_isDeed rfl rfl ?_
  refine fz_iconst ⟨by decide, by decide⟩ kX11_isDeed rfl ?_
  refine fz_aload_n kX11_isDeed rfl rfl ?_
  refine fz_getV (v := h 53 10) kX11_isDeed rfl rfl rfl ?_
  have b2 : 0 ≤ h 53 10 ∧ h 53 10 ≤ 11 := hI.1 53 _
  refine fz_iconst ⟨by decide, by decide⟩ kX11_isDeed rfl ?_
  refine fz_isubN kX11_isDeed rfl (by omega) ?_
  refine fz_callS (d' := 0) (M' := mX11_within) (As := [fz_i t, fz_i 0, fz_i ((h 53 10) - 1)]) (st := []) kX11_isDeed rfl rfl vX11_within rfl rfl (Nat.le_of_ble_eq_true rfl) (Nat.le_of_ble_eq_true rfl) (by decide) (sX11_within h hI t 0 ((h 53 10) - 1) ) (fun H3 r4 q5 o6 => ?_)
  obtain ⟨e7, y8, rfl, p9⟩ := q5
  subst H3
  clear o6
  rcases p9 with ⟨rfl, c10⟩ | ⟨rfl, c10⟩
  · exact fz_zret kX11_isDeed rfl rfl (by omega) ⟨rfl, _, rfl, Or.inl ⟨rfl, by omega⟩⟩
  · exact fz_zret kX11_isDeed rfl rfl (by omega) ⟨rfl, _, rfl, Or.inr ⟨rfl, by omega⟩⟩

abbrev qX11_isPerson (h : fz_H) (t : Int) : fz_H → Option fz_V → Prop := fun h' r0 => h' = h ∧ ∃ r : Int, r0 = some (fz_i r) ∧ ((r = 1 ∧ (0 ≤ t ∧ t ≤ 3)) ∨ (r = 0 ∧ ¬ (0 ≤ t ∧ t ≤ 3)))
set_option maxHeartbeats 1000000 in
set_option maxRecDepth 100000 in
theorem sX11_isPerson (h : fz_H) (hI : fz_Iv h) (t : Int) : fz_R 1 mX11_isPerson 0 [(0, fz_i t)] [] h (qX11_isPerson h t) := by
  refine fz_knowl (fun hk => ?_)
  have hr_t : -2147483648 ≤ t ∧ t < 2147483648 := hk _ (List.Mem.head _)
  clear hk
  refine fz_iload_n kX11_isPerson rfl rfl ?_
  refine fz_iconst ⟨by decide, by decide⟩ kX11_isPerson rfl ?_
  refine fz_iconst ⟨by decide, by decide⟩ kX11_isPerson rfl ?_
  refine fz_callS (d' := 0) (M' := mX11_within) (As := [fz_i t, fz_i 0, fz_i 3]) (st := []) kX11_isPerson rfl rfl vX11_within rfl rfl (Nat.le_of_ble_eq_true rfl) (Nat.le_of_ble_eq_true rfl) (by decide) (sX11_within h hI t 0 3 ) (fun H1 r2 q3 o4 => ?_)
  obtain ⟨e5, y6, rfl, p7⟩ := q3
  subst H1
  clear o4
  rcases p7 with ⟨rfl, c8⟩ | ⟨rfl, c8⟩
  · exact fz_zret kX11_isPerson rfl rfl (by omega) ⟨rfl, _, rfl, Or.inl ⟨rfl, by omega⟩⟩
  · exact fz_zret kX11_isPerson rfl rfl (by omega) ⟨rfl, _, rfl, Or.inr ⟨rfl, by omega⟩⟩

abbrev qX11_isMark (h : fz_H) (t : Int) : fz_H → Option fz_V → Prop := fun h' r0 => h' = h ∧ ∃ r : Int, r0 = some (fz_i r) ∧ ((r = 1 ∧ (0 ≤ t ∧ t ≤ 4)) ∨ (r = 0 ∧ ¬ (0 ≤ t ∧ t ≤ 4)))
set_option maxHeartbeats 1000000 in
set_option maxRecDepth 100000 in
theorem sX11_isMark (h : fz_H) (hI : fz_Iv h) (t : Int) : fz_R 1 mX11_isMark 0 [(0, fz_i t)] [] h (qX11_isMark h t) := by
  refine fz_knowl (fun hk => ?_)
  have hr_t : -2147483648 ≤ t ∧ t < 2147483648 := hk _ (List.Mem.head _)
  clear hk
  refine fz_iload_n kX11_isMark rfl rfl ?_
  refine fz_iconst ⟨by decide, by decide⟩ kX11_isMark rfl ?_
  refine fz_iconst ⟨by decide, by decide⟩ kX11_isMark rfl ?_
  refine fz_callS (d' := 0) (M' := mX11_within) (As := [fz_i t, fz_i 0, fz_i 4]) (st := []) kX11_isMark rfl rfl vX11_within rfl rfl (Nat.le_of_ble_eq_true rfl) (Nat.le_of_ble_eq_true rfl) (by decide) (sX11_within h hI t 0 4 ) (fun H1 r2 q3 o4 => ?_)
  obtain ⟨e5, y6, rfl, p7⟩ := q3
  subst H1
  clear o4
  rcases p7 with ⟨rfl, c8⟩ | ⟨rfl, c8⟩
  · exact fz_zret kX11_isMark rfl rfl (by omega) ⟨rfl, _, rfl, Or.inl ⟨rfl, by omega⟩⟩
  · exact fz_zret kX11_isMark rfl rfl (by omega) ⟨rfl, _, rfl, Or.inr ⟨rfl, by omega⟩⟩

abbrev qX11_isMarked (h : fz_H) (a : Int) : fz_H → Option fz_V → Prop := fun h' r0 => h' = h ∧ ∃ r : Int, r0 = some (fz_i r) ∧ ((r = 1 ∧ (0 ≤ a ∧ a ≤ 39 ∧ a / 10 ≤ 3 ∧ a % 10 ≤ 4)) ∨ (r = 0 ∧ ¬ (0 ≤ a ∧ a ≤ 39 ∧ a / 10 ≤ 3 ∧ a % 10 ≤ 4)))
set_option maxHeartbeats 1000000 in
set_option maxRecDepth 100000 in
theorem sX11_isMarked (h : fz_H) (hI : fz_Iv h) (a : Int) : fz_R 2 mX11_isMarked 0 [(0, fz_i a)] [] h (qX11_isMarked h a) := by
  refine fz_knowl (fun hk => ?_)
  have hr_a : -2147483648 ≤ a ∧ a < 2147483648 := hk _ (List.Mem.head _)
  clear hk
  refine fz_iload_n kX11_isMarked rfl rfl ?_
  refine fz_if_lt (tgt := 28) kX11_isMarked rfl (by decide) (fun c1 => ?_) (fun c1 => ?_)
  · refine fz_iconst ⟨by decide, by decide⟩ kX11_isMarked rfl ?_
    exact fz_zret kX11_isMarked rfl rfl (by omega) ⟨rfl, _, rfl, Or.inr ⟨rfl, by omega⟩⟩
  · refine fz_iload_n kX11_isMarked rfl rfl ?_
    refine fz_bipush ⟨by decide, by decide⟩ kX11_isMarked rfl ?_
    refine fz_idivN kX11_isMarked rfl (by omega) (by omega) (by omega) ?_
    refine fz_callS (d' := 1) (M' := mX11_isPerson) (As := [fz_i (a / 10)]) (st := []) kX11_isMarked rfl rfl vX11_isPerson rfl rfl (Nat.le_of_ble_eq_true rfl) (Nat.le_of_ble_eq_true rfl) (by decide) (sX11_isPerson h hI (a / 10) ) (fun H2 r3 q4 o5 => ?_)
    obtain ⟨e6, y7, rfl, p8⟩ := q4
    subst H2
    clear o5
    rcases p8 with ⟨rfl, c9⟩ | ⟨rfl, c9⟩
    · refine fz_if_eq (tgt := 28) kX11_isMarked rfl (by decide) (fun c10 => ?_) (fun c10 => ?_)
      · exfalso; omega
      · refine fz_iload_n kX11_isMarked rfl rfl ?_
        refine fz_bipush ⟨by decide, by decide⟩ kX11_isMarked rfl ?_
        refine fz_iremN kX11_isMarked rfl (by omega) (by omega) (by omega) ?_
        refine fz_callS (d' := 1) (M' := mX11_isMark) (As := [fz_i (a % 10)]) (st := []) kX11_isMarked rfl rfl vX11_isMark rfl rfl (Nat.le_of_ble_eq_true rfl) (Nat.le_of_ble_eq_true rfl) (by decide) (sX11_isMark h hI (a % 10) ) (fun H11 r12 q13 o14 => ?_)
        obtain ⟨e15, y16, rfl, p17⟩ := q13
        subst H11
        clear o14
        rcases p17 with ⟨rfl, c18⟩ | ⟨rfl, c18⟩
        · refine fz_if_eq (tgt := 28) kX11_isMarked rfl (by decide) (fun c19 => ?_) (fun c19 => ?_)
          · exfalso; omega
          · refine fz_iconst ⟨by decide, by decide⟩ kX11_isMarked rfl ?_
            refine fz_goto (tgt := 29) kX11_isMarked rfl (by decide) ?_
            exact fz_zret kX11_isMarked rfl rfl (by omega) ⟨rfl, _, rfl, Or.inl ⟨rfl, by omega⟩⟩
        · refine fz_if_eq (tgt := 28) kX11_isMarked rfl (by decide) (fun c20 => ?_) (fun c20 => ?_)
          · refine fz_iconst ⟨by decide, by decide⟩ kX11_isMarked rfl ?_
            exact fz_zret kX11_isMarked rfl rfl (by omega) ⟨rfl, _, rfl, Or.inr ⟨rfl, by omega⟩⟩
          · exfalso; omega
    · refine fz_if_eq (tgt := 28) kX11_isMarked rfl (by decide) (fun c21 => ?_) (fun c21 => ?_)
      · refine fz_iconst ⟨by decide, by decide⟩ kX11_isMarked rfl ?_
        exact fz_zret kX11_isMarked rfl rfl (by omega) ⟨rfl, _, rfl, Or.inr ⟨rfl, by omega⟩⟩
      · exfalso; omega

abbrev qX11_isWhen (h : fz_H) (a : Int) : fz_H → Option fz_V → Prop := fun h' r0 => h' = h ∧ ∃ r : Int, r0 = some (fz_i r) ∧ ((r = 1 ∧ (0 ≤ a ∧ a ≤ 7999 ∧ a / 1000 ≤ 7 ∧ a / 1000 < h 53 0)) ∨ (r = 0 ∧ ¬ (0 ≤ a ∧ a ≤ 7999 ∧ a / 1000 ≤ 7 ∧ a / 1000 < h 53 0)))
set_option maxHeartbeats 1000000 in
set_option maxRecDepth 100000 in
theorem sX11_isWhen (h : fz_H) (hI : fz_Iv h) (a : Int) : fz_R 2 mX11_isWhen 0 [(0, fz_r 53), (1, fz_i a)] [] h (qX11_isWhen h a) := by
  refine fz_knowl (fun hk => ?_)
  have hr_a : -2147483648 ≤ a ∧ a < 2147483648 := hk _ (List.Mem.tail _ (List.Mem.head _))
  clear hk
  have b1 : 0 ≤ h 53 0 ∧ h 53 0 ≤ 8 := hI.1 53 _
  refine fz_iload_n kX11_isWhen rfl rfl ?_
  refine fz_if_lt (tgt := 20) kX11_isWhen rfl (by decide) (fun c2 => ?_) (fun c2 => ?_)
  · refine fz_iconst ⟨by decide, by decide⟩ kX11_isWhen rfl ?_
    exact fz_zret kX11_isWhen rfl rfl (by omega) ⟨rfl, _, rfl, Or.inr ⟨rfl, by omega⟩⟩
  · refine fz_aload_n kX11_isWhen rfl rfl ?_
    refine fz_iload_n kX11_isWhen rfl rfl ?_
    refine fz_sipush ⟨by decide, by decide⟩ kX11_isWhen rfl ?_
    refine fz_idivN kX11_isWhen rfl (by omega) (by omega) (by omega) ?_
    refine fz_callV (d' := 1) (M' := mX11_isTown) (As := [fz_i (a / 1000)]) (st := []) kX11_isWhen rfl rfl vX11_isTown rfl rfl rfl rfl (Nat.le_of_ble_eq_true rfl) (Nat.le_of_ble_eq_true rfl) (by decide) (sX11_isTown h hI (a / 1000) ) (fun H3 r4 q5 o6 => ?_)
    obtain ⟨e7, y8, rfl, p9⟩ := q5
    subst H3
    clear o6
    rcases p9 with ⟨rfl, c10⟩ | ⟨rfl, c10⟩
    · refine fz_if_eq (tgt := 20) kX11_isWhen rfl (by decide) (fun c11 => ?_) (fun c11 => ?_)
      · exfalso; omega
      · refine fz_iconst ⟨by decide, by decide⟩ kX11_isWhen rfl ?_
        refine fz_goto (tgt := 21) kX11_isWhen rfl (by decide) ?_
        exact fz_zret kX11_isWhen rfl rfl (by omega) ⟨rfl, _, rfl, Or.inl ⟨rfl, by omega⟩⟩
    · refine fz_if_eq (tgt := 20) kX11_isWhen rfl (by decide) (fun c12 => ?_) (fun c12 => ?_)
      · refine fz_iconst ⟨by decide, by decide⟩ kX11_isWhen rfl ?_
        exact fz_zret kX11_isWhen rfl rfl (by omega) ⟨rfl, _, rfl, Or.inr ⟨rfl, by omega⟩⟩
      · exfalso; omega

abbrev qX11_areTowns (h : fz_H) (a : Int) : fz_H → Option fz_V → Prop := fun h' r0 => h' = h ∧ ∃ r : Int, r0 = some (fz_i r) ∧ ((r = 1 ∧ (0 ≤ a ∧ a ≤ 79 ∧ a / 10 ≤ 7 ∧ a % 10 ≤ 7 ∧ a / 10 < h 53 0 ∧ a % 10 < h 53 0)) ∨ (r = 0 ∧ ¬ (0 ≤ a ∧ a ≤ 79 ∧ a / 10 ≤ 7 ∧ a % 10 ≤ 7 ∧ a / 10 < h 53 0 ∧ a % 10 < h 53 0)))
set_option maxHeartbeats 1000000 in
set_option maxRecDepth 100000 in
theorem sX11_areTowns (h : fz_H) (hI : fz_Iv h) (a : Int) : fz_R 2 mX11_areTowns 0 [(0, fz_r 53), (1, fz_i a)] [] h (qX11_areTowns h a) := by
  refine fz_knowl (fun hk => ?_)
  have hr_a : -2147483648 ≤ a ∧ a < 2147483648 := hk _ (List.Mem.tail _ (List.Mem.head _))
  clear hk
  have b1 : 0 ≤ h 53 0 ∧ h 53 0 ≤ 8 := hI.1 53 _
  refine fz_iload_n kX11_areTowns rfl rfl ?_
  refine fz_if_lt (tgt := 30) kX11_areTowns rfl (by decide) (fun c2 => ?_) (fun c2 => ?_)
  · refine fz_iconst ⟨by decide, by decide⟩ kX11_areTowns rfl ?_
    exact fz_zret kX11_areTowns rfl rfl (by omega) ⟨rfl, _, rfl, Or.inr ⟨rfl, by omega⟩⟩
  · refine fz_aload_n kX11_areTowns rfl rfl ?_
    refine fz_iload_n kX11_areTowns rfl rfl ?_
    refine fz_bipush ⟨by decide, by decide⟩ kX11_areTowns rfl ?_
    refine fz_idivN kX11_areTowns rfl (by omega) (by omega) (by omega) ?_
    refine fz_callV (d' := 1) (M' := mX11_isTown) (As := [fz_i (a / 10)]) (st := []) kX11_areTowns rfl rfl vX11_isTown rfl rfl rfl rfl (Nat.le_of_ble_eq_true rfl) (Nat.le_of_ble_eq_true rfl) (by decide) (sX11_isTown h hI (a / 10) ) (fun H3 r4 q5 o6 => ?_)
    obtain ⟨e7, y8, rfl, p9⟩ := q5
    subst H3
    clear o6
    rcases p9 with ⟨rfl, c10⟩ | ⟨rfl, c10⟩
    · refine fz_if_eq (tgt := 30) kX11_areTowns rfl (by decide) (fun c11 => ?_) (fun c11 => ?_)
      · exfalso; omega
      · refine fz_aload_n kX11_areTowns rfl rfl ?_
        refine fz_iload_n kX11_areTowns rfl rfl ?_
        refine fz_bipush ⟨by decide, by decide⟩ kX11_areTowns rfl ?_
        refine fz_iremN kX11_areTowns rfl (by omega) (by omega) (by omega) ?_
        refine fz_callV (d' := 1) (M' := mX11_isTown) (As := [fz_i (a % 10)]) (st := []) kX11_areTowns rfl rfl vX11_isTown rfl rfl rfl rfl (Nat.le_of_ble_eq_true rfl) (Nat.le_of_ble_eq_true rfl) (by decide) (sX11_isTown h hI (a % 10) ) (fun H12 r13 q14 o15 => ?_)
        obtain ⟨e16, y17, rfl, p18⟩ := q14
        subst H12
        clear o15
        rcases p18 with ⟨rfl, c19⟩ | ⟨rfl, c19⟩
        · refine fz_if_eq (tgt := 30) kX11_areTowns rfl (by decide) (fun c20 => ?_) (fun c20 => ?_)
          · exfalso; omega
          · refine fz_iconst ⟨by decide, by decide⟩ kX11_areTowns rfl ?_
            refine fz_goto (tgt := 31) kX11_areTowns rfl (by decide) ?_
            exact fz_zret kX11_areTowns rfl rfl (by omega) ⟨rfl, _, rfl, Or.inl ⟨rfl, by omega⟩⟩
        · refine fz_if_eq (tgt := 30) kX11_areTowns rfl (by decide) (fun c21 => ?_) (fun c21 => ?_)
          · refine fz_iconst ⟨by decide, by decide⟩ kX11_areTowns rfl ?_
            exact fz_zret kX11_areTowns rfl rfl (by omega) ⟨rfl, _, rfl, Or.inr ⟨rfl, by omega⟩⟩
          · exfalso; omega
    · refine fz_if_eq (tgt := 30) kX11_areTowns rfl (by decide) (fun c22 => ?_) (fun c22 => ?_)
      · refine fz_iconst ⟨by decide, by decide⟩ kX11_areTowns rfl ?_
        exact fz_zret kX11_areTowns rfl rfl (by omega) ⟨rfl, _, rfl, Or.inr ⟨rfl, by omega⟩⟩
      · exfalso; omega

abbrev qX11_isHour (h : fz_H) (a : Int) : fz_H → Option fz_V → Prop := fun h' r0 => h' = h ∧ ∃ r : Int, r0 = some (fz_i r) ∧ ((r = 1 ∧ (0 ≤ a ∧ a ≤ 999)) ∨ (r = 0 ∧ ¬ (0 ≤ a ∧ a ≤ 999)))
set_option maxHeartbeats 1000000 in
set_option maxRecDepth 100000 in
theorem sX11_isHour (h : fz_H) (hI : fz_Iv h) (a : Int) : fz_R 1 mX11_isHour 0 [(0, fz_i a)] [] h (qX11_isHour h a) := by
  refine fz_knowl (fun hk => ?_)
  have hr_a : -2147483648 ≤ a ∧ a < 2147483648 := hk _ (List.Mem.head _)
  clear hk
  refine fz_iload_n kX11_isHour rfl rfl ?_
  refine fz_iconst ⟨by decide, by decide⟩ kX11_isHour rfl ?_
  refine fz_sipush ⟨by decide, by decide⟩ kX11_isHour rfl ?_
  refine fz_callS (d' := 0) (M' := mX11_within) (As := [fz_i a, fz_i 0, fz_i 999]) (st := []) kX11_isHour rfl rfl vX11_within rfl rfl (Nat.le_of_ble_eq_true rfl) (Nat.le_of_ble_eq_true rfl) (by decide) (sX11_within h hI a 0 999 ) (fun H1 r2 q3 o4 => ?_)
  obtain ⟨e5, y6, rfl, p7⟩ := q3
  subst H1
  clear o4
  rcases p7 with ⟨rfl, c8⟩ | ⟨rfl, c8⟩
  · exact fz_zret kX11_isHour rfl rfl (by omega) ⟨rfl, _, rfl, Or.inl ⟨rfl, by omega⟩⟩
  · exact fz_zret kX11_isHour rfl rfl (by omega) ⟨rfl, _, rfl, Or.inr ⟨rfl, by omega⟩⟩

abbrev qX11_isShelf (h : fz_H) (a : Int) : fz_H → Option fz_V → Prop := fun h' r0 => h' = h ∧ ∃ r : Int, r0 = some (fz_i r) ∧ ((r = 1 ∧ (0 ≤ a ∧ a ≤ 5)) ∨ (r = 0 ∧ ¬ (0 ≤ a ∧ a ≤ 5)))
set_option maxHeartbeats 1000000 in
set_option maxRecDepth 100000 in
theorem sX11_isShelf (h : fz_H) (hI : fz_Iv h) (a : Int) : fz_R 1 mX11_isShelf 0 [(0, fz_i a)] [] h (qX11_isShelf h a) := by
  refine fz_knowl (fun hk => ?_)
  have hr_a : -2147483648 ≤ a ∧ a < 2147483648 := hk _ (List.Mem.head _)
  clear hk
  refine fz_iload_n kX11_isShelf rfl rfl ?_
  refine fz_iconst ⟨by decide, by decide⟩ kX11_isShelf rfl ?_
  refine fz_iconst ⟨by decide, by decide⟩ kX11_isShelf rfl ?_
  refine fz_callS (d' := 0) (M' := mX11_within) (As := [fz_i a, fz_i 0, fz_i 5]) (st := []) kX11_isShelf rfl rfl vX11_within rfl rfl (Nat.le_of_ble_eq_true rfl) (Nat.le_of_ble_eq_true rfl) (by decide) (sX11_within h hI a 0 5 ) (fun H1 r2 q3 o4 => ?_)
  obtain ⟨e5, y6, rfl, p7⟩ := q3
  subst H1
  clear o4
  rcases p7 with ⟨rfl, c8⟩ | ⟨rfl, c8⟩
  · exact fz_zret kX11_isShelf rfl rfl (by omega) ⟨rfl, _, rfl, Or.inl ⟨rfl, by omega⟩⟩
  · exact fz_zret kX11_isShelf rfl rfl (by omega) ⟨rfl, _, rfl, Or.inr ⟨rfl, by omega⟩⟩

abbrev qX11_newTown (h : fz_H) (df : Int) : fz_H → Option fz_V → Prop := fun h' r0 => fz_Iv h' ∧ fz_fr [(53, 0), (54, 99999)] h h' ∧ ∃ r : Int, r0 = some (fz_i r) ∧ (0 ≤ r ∧ r ≤ 7) ∧ (r = h 53 0 ∧ h' 53 0 = h 53 0 + 1) ∧ (h' 54 = fz_up h 54 (h 53 0).toNat df 54)
set_option maxHeartbeats 1000000 in
set_option maxRecDepth 100000 in
theorem sX11_newTown (h : fz_H) (hI : fz_Iv h) (df : Int) (hp0 : 0 ≤ df ∧ df ≤ 9) (hp1 : h 53 0 ≤ 7) : fz_R 0 mX11_newTown 0 [(0, fz_r 53), (1, fz_i df)] [] h (qX11_newTown h df) := by
  refine fz_knowl (fun hk => ?_)
  have hr_df : -2147483648 ≤ df ∧ df < 2147483648 := hk _ (List.Mem.tail _ (List.Mem.head _))
  clear hk
  have hf : fz_fr [(53, 0), (54, 99999)] h h := fz_fr_rf
  have b1 : 0 ≤ h 53 0 ∧ h 53 0 ≤ 8 := hI.1 53 _
  refine fz_aload_n kX11_newTown rfl rfl ?_
  refine fz_getR (t := 54) kX11_newTown rfl rfl ?_
  refine fz_aload_n kX11_newTown rfl rfl ?_
  refine fz_getV (v := h 53 0) kX11_newTown rfl rfl rfl ?_
  have b2 : 0 ≤ h 53 0 ∧ h 53 0 ≤ 8 := hI.1 53 _
  refine fz_iload_n kX11_newTown rfl rfl ?_
  refine fz_iast (n := 8) kX11_newTown rfl rfl (by omega) (by omega) ?_
  refine fz_nmu (S := [(53, 0), (54, 99999)]) (h0 := h) (fz_Iv_up hI (by decide) (show (0 : Int) ≤ df by omega) (show (df : Int) ≤ 9 by omega)) (fz_fr_up hf rfl) (fun H3 hI4 hf5 e6 => ?_)
  have k7 : H3 53 0 = (h 53 0) := by rw [e6]; exact (fz_up_o (by decide)).trans rfl
  have t8 : H3 53 0 = h 53 0 := by rw [e6]; exact fz_up_o (by decide)
  refine fz_aload_n kX11_newTown rfl rfl ?_
  refine fz_dup rfl kX11_newTown rfl ?_
  refine fz_getV (v := (h 53 0)) kX11_newTown rfl rfl k7 ?_
  refine fz_dup_x1 rfl rfl kX11_newTown rfl ?_
  refine fz_iconst ⟨by decide, by decide⟩ kX11_newTown rfl ?_
  refine fz_iaddN kX11_newTown rfl (by omega) ?_
  refine fz_putI kX11_newTown rfl rfl rfl ?_
  refine fz_nmu (S := [(53, 0), (54, 99999)]) (h0 := h) (fz_Iv_up hI4 (by decide) (show (0 : Int) ≤ ((h 53 0) + 1) by omega) (show (((h 53 0) + 1) : Int) ≤ 8 by omega)) (fz_fr_up hf5 rfl) (fun H9 hI10 hf11 e12 => ?_)
  have k13 : H9 53 0 = ((h 53 0) + 1) := by rw [e12]; exact fz_up_e
  exact fz_iret kX11_newTown rfl rfl (fun _ => ⟨hI10, hf11, _, rfl, (by omega), (by omega), (by rw [e12, fz_up_ne (by decide), e6])⟩)

abbrev qX11_town (h : fz_H) (df : Int) : fz_H → Option fz_V → Prop := fun h' r0 => fz_Iv h' ∧ fz_fr [(53, 0), (54, 99999)] h h' ∧ ∃ r : Int, r0 = some (fz_i r) ∧ ((-3) ≤ r ∧ r ≤ 7) ∧ (((0 ≤ df ∧ df ≤ 9) ∧ h 53 0 < 8 ∧ r = h 53 0 ∧ h' 53 0 = h 53 0 + 1) ∨ ((0 ≤ df ∧ df ≤ 9) ∧ 8 ≤ h 53 0 ∧ r = -3 ∧ h' 53 0 = h 53 0) ∨ (¬ (0 ≤ df ∧ df ≤ 9) ∧ r = -1 ∧ h' 53 0 = h 53 0)) ∧ (fz_tM h h' df)
set_option maxHeartbeats 1000000 in
set_option maxRecDepth 100000 in
theorem sX11_town (h : fz_H) (hI : fz_Iv h) (df : Int) : fz_R 1 mX11_town 0 [(0, fz_r 53), (1, fz_i df)] [] h (qX11_town h df) := by
  refine fz_knowl (fun hk => ?_)
  have hr_df : -2147483648 ≤ df ∧ df < 2147483648 := hk _ (List.Mem.tail _ (List.Mem.head _))
  clear hk
  have hf : fz_fr [(53, 0), (54, 99999)] h h := fz_fr_rf
  have b1 : 0 ≤ h 53 0 ∧ h 53 0 ≤ 8 := hI.1 53 _
  refine fz_iload_n kX11_town rfl rfl ?_
  refine fz_iconst ⟨by decide, by decide⟩ kX11_town rfl ?_
  refine fz_bipush ⟨by decide, by decide⟩ kX11_town rfl ?_
  refine fz_callS (d' := 0) (M' := mX11_within) (As := [fz_i df, fz_i 0, fz_i 9]) (st := []) kX11_town rfl rfl vX11_within rfl rfl (Nat.le_of_ble_eq_true rfl) (Nat.le_of_ble_eq_true rfl) (by decide) (sX11_within h hI df 0 9 ) (fun H2 r3 q4 o5 => ?_)
  obtain ⟨e6, y7, rfl, p8⟩ := q4
  subst H2
  clear o5
  rcases p8 with ⟨rfl, c9⟩ | ⟨rfl, c9⟩
  · refine fz_if_ne (tgt := 12) kX11_town rfl (by decide) (fun c10 => ?_) (fun c10 => ?_)
    · refine fz_aload_n kX11_town rfl rfl ?_
      refine fz_getV (v := h 53 0) kX11_town rfl rfl rfl ?_
      have b11 : 0 ≤ h 53 0 ∧ h 53 0 ≤ 8 := hI.1 53 _
      refine fz_bipush ⟨by decide, by decide⟩ kX11_town rfl ?_
      refine fz_icmp_ne (tgt := 26) kX11_town rfl (by decide) (fun c12 => ?_) (fun c12 => ?_)
      · refine fz_aload_n kX11_town rfl rfl ?_
        refine fz_iload_n kX11_town rfl rfl ?_
        refine fz_callV (d' := 0) (M' := mX11_newTown) (As := [fz_i df]) (st := []) kX11_town rfl rfl vX11_newTown rfl rfl rfl rfl (Nat.le_of_ble_eq_true rfl) (Nat.le_of_ble_eq_true rfl) (by decide) (sX11_newTown h hI df (by omega) (by omega)) (fun H13 r14 q15 o16 => ?_)
        obtain ⟨hI17, hf18, y22, rfl, f19, f20, f21⟩ := q15
        clear o16
        have hf23 := fz_fr_tr hf hf18 (show fz_su [(53, 0), (54, 99999)] [(53, 0), (54, 99999)] = true from rfl)
        exact fz_iret kX11_town rfl rfl (fun _ => ⟨hI17, hf23, _, rfl, (by omega), (by omega), (by first | exact Or.inl ⟨by omega, f21⟩ | exact Or.inr ⟨by omega, rfl⟩)⟩)
      · refine fz_bipush ⟨by decide, by decide⟩ kX11_town rfl ?_
        refine fz_goto (tgt := 31) kX11_town rfl (by decide) ?_
        exact fz_iret kX11_town rfl rfl (fun _ => ⟨hI, hf, _, rfl, (by omega), (by omega), (by first | exact Or.inl ⟨by omega, lost⟩ | exact Or.inr ⟨by omega, rfl⟩)⟩)
    · exfalso; omega
  · refine fz_if_ne (tgt := 12) kX11_town rfl (by decide) (fun c26 => ?_) (fun c26 => ?_)
    · exfalso; omega
    · refine fz_iconst ⟨by decide, by decide⟩ kX11_town rfl ?_
      exact fz_iret kX11_town rfl rfl (fun _ => ⟨hI, hf, _, rfl, (by omega), (by omega), (by first | exact Or.inl ⟨by omega, lost⟩ | exact Or.inr ⟨by omega, rfl⟩)⟩)

abbrev qX11_road (h : fz_H) (ab ln : Int) : fz_H → Option fz_V → Prop := fun h' r0 => fz_Iv h' ∧ fz_fr [(53, 2), (55, 99999), (56, 99999), (57, 99999), (58, 99999)] h h' ∧ ∃ r : Int, r0 = some (fz_i r) ∧ ((-3) ≤ r ∧ r ≤ 11) ∧ (((0 ≤ ab ∧ ab / 10 < h 53 0 ∧ ab % 10 < h 53 0 ∧ ab / 10 ≠ ab % 10 ∧ 1 ≤ ln ∧ ln ≤ 24) ∧ h 53 2 < 12 ∧ r = h 53 2 ∧ h' 53 2 = h 53 2 + 1) ∨ ((0 ≤ ab ∧ ab / 10 < h 53 0 ∧ ab % 10 < h 53 0 ∧ ab / 10 ≠ ab % 10 ∧ 1 ≤ ln ∧ ln ≤ 24) ∧ 12 ≤ h 53 2 ∧ r = -3 ∧ h' 53 2 = h 53 2) ∨ (¬ (0 ≤ ab ∧ ab / 10 < h 53 0 ∧ ab % 10 < h 53 0 ∧ ab / 10 ≠ ab % 10 ∧ 1 ≤ ln ∧ ln ≤ 24) ∧ r = -1 ∧ h' 53 2 = h 53 2)) ∧ (fz_roM h h' ab ln)
set_option maxHeartbeats 1000000 in
set_option maxRecDepth 100000 in
theorem sX11_road (h : fz_H) (hI : fz_Iv h) (ab ln : Int) : fz_R 3 mX11_road 0 [(0, fz_r 53), (1, fz_i ab), (2, fz_i ln)] [] h (qX11_road h ab ln) := by
  refine fz_knowl (fun hk => ?_)
  have hr_ab : -2147483648 ≤ ab ∧ ab < 2147483648 := hk _ (List.Mem.tail _ (List.Mem.head _))
  have hr_ln : -2147483648 ≤ ln ∧ ln < 2147483648 := hk _ (List.Mem.tail _ (List.Mem.tail _ (List.Mem.head _)))
  clear hk
  have hf : fz_fr [(53, 2), (55, 99999), (56, 99999), (57, 99999), (58, 99999)] h h := fz_fr_rf
  have b1 : 0 ≤ h 53 0 ∧ h 53 0 ≤ 8 := hI.1 53 _
  have b2 : 0 ≤ h 53 2 ∧ h 53 2 ≤ 12 := hI.1 53 _
  refine fz_aload_n kX11_road rfl rfl ?_
  refine fz_iload_n kX11_road rfl rfl ?_
  refine fz_callV (d' := 2) (M' := mX11_areTowns) (As := [fz_i ab]) (st := []) kX11_road rfl rfl vX11_areTowns rfl rfl rfl rfl (Nat.le_of_ble_eq_true rfl) (Nat.le_of_ble_eq_true rfl) (by decide) (sX11_areTowns h hI ab ) (fun H3 r4 q5 o6 => ?_)
  obtain ⟨e7, y8, rfl, p9⟩ := q5
  subst H3
  clear o6
  rcases p9 with ⟨rfl, c10⟩ | ⟨rfl, c10⟩
  · refine fz_if_eq (tgt := 29) kX11_road rfl (by decide) (fun c11 => ?_) (fun c11 => ?_)
    · exfalso; omega
    · refine fz_iload_n kX11_road rfl rfl ?_
      refine fz_bipush ⟨by decide, by decide⟩ kX11_road rfl ?_
      refine fz_idivN kX11_road rfl (by omega) (by omega) (by omega) ?_
      refine fz_iload_n kX11_road rfl rfl ?_
      refine fz_bipush ⟨by decide, by decide⟩ kX11_road rfl ?_
      refine fz_iremN kX11_road rfl (by omega) (by omega) (by omega) ?_
      refine fz_icmp_eq (tgt := 29) kX11_road rfl (by decide) (fun c12 => ?_) (fun c12 => ?_)
      · refine fz_iconst ⟨by decide, by decide⟩ kX11_road rfl ?_
        exact fz_iret kX11_road rfl rfl (fun _ => ⟨hI, hf, _, rfl, (by omega), (by omega), (by first | exact fz_roM_in lost lost lost lost lost rfl (by unfold fz_rdM; omega) | exact Or.inr ⟨(by unfold fz_rdM; omega), rfl⟩)⟩)
      · refine fz_iload_n kX11_road rfl rfl ?_
        refine fz_iconst ⟨by decide, by decide⟩ kX11_road rfl ?_
        refine fz_bipush ⟨by decide, by decide⟩ kX11_road rfl ?_
        refine fz_callS (d' := 0) (M' := mX11_within) (As := [fz_i ln, fz_i 1, fz_i 24]) (st := []) kX11_road rfl rfl vX11_within rfl rfl (Nat.le_of_ble_eq_true rfl) (Nat.le_of_ble_eq_true rfl) (by decide) (sX11_within h hI ln 1 24 ) (fun H14 r15 q16 o17 => ?_)
        obtain ⟨e18, y19, rfl, p20⟩ := q16
        subst H14
        clear o17
        rcases p20 with ⟨rfl, c21⟩ | ⟨rfl, c21⟩
        · refine fz_if_ne (tgt := 31) kX11_road rfl (by decide) (fun c22 => ?_) (fun c22 => ?_)
          · refine fz_aload_n kX11_road rfl rfl ?_
            refine fz_getV (v := h 53 2) kX11_road rfl rfl rfl ?_
            have b23 : 0 ≤ h 53 2 ∧ h 53 2 ≤ 12 := hI.1 53 _
            refine fz_bipush ⟨by decide, by decide⟩ kX11_road rfl ?_
            refine fz_icmp_ne (tgt := 43) kX11_road rfl (by decide) (fun c24 => ?_) (fun c24 => ?_)
            · refine fz_aload_n kX11_road rfl rfl ?_
              refine fz_getR (t := 55) kX11_road rfl rfl ?_
              refine fz_aload_n kX11_road rfl rfl ?_
              refine fz_getV (v := h 53 2) kX11_road rfl rfl rfl ?_
              refine fz_iload_n kX11_road rfl rfl ?_
              refine fz_bipush ⟨by decide, by decide⟩ kX11_road rfl ?_
              refine fz_idivN kX11_road rfl (by omega) (by omega) (by omega) ?_
              refine fz_iast (n := 12) kX11_road rfl rfl (by omega) (by omega) ?_
              refine fz_nmu (S := [(53, 2), (55, 99999), (56, 99999), (57, 99999), (58, 99999)]) (h0 := h) (fz_Iv_up hI (by decide) (show (0 : Int) ≤ (ab / 10) by omega) (show ((ab / 10) : Int) ≤ 7 by omega)) (fz_fr_up hf rfl) (fun H25 hI26 hf27 e28 => ?_)
              have k29 : H25 53 2 = (h 53 2) := by rw [e28]; exact (fz_up_o (by decide)).trans rfl
              have t30 : H25 53 2 = h 53 2 := by rw [e28]; exact fz_up_o (by decide)
              refine fz_aload_n kX11_road rfl rfl ?_
              refine fz_getR (t := 56) kX11_road rfl rfl ?_
              refine fz_aload_n kX11_road rfl rfl ?_
              refine fz_getV (v := (h 53 2)) kX11_road rfl rfl k29 ?_
              refine fz_iload_n kX11_road rfl rfl ?_
              refine fz_bipush ⟨by decide, by decide⟩ kX11_road rfl ?_
              refine fz_iremN kX11_road rfl (by omega) (by omega) (by omega) ?_
              refine fz_iast (n := 12) kX11_road rfl rfl (by omega) (by omega) ?_
              refine fz_nmu (S := [(53, 2), (55, 99999), (56, 99999), (57, 99999), (58, 99999)]) (h0 := h) (fz_Iv_up hI26 (by decide) (show (0 : Int) ≤ (ab % 10) by omega) (show ((ab % 10) : Int) ≤ 7 by omega)) (fz_fr_up hf27 rfl) (fun H31 hI32 hf33 e34 => ?_)
              have k35 : H31 53 2 = (h 53 2) := by rw [e34]; exact (fz_up_o (by decide)).trans k29
              have t36 : H31 53 2 = H25 53 2 := by rw [e34]; exact fz_up_o (by decide)
              refine fz_aload_n kX11_road rfl rfl ?_
              refine fz_getR (t := 57) kX11_road rfl rfl ?_
              refine fz_aload_n kX11_road rfl rfl ?_
              refine fz_getV (v := (h 53 2)) kX11_road rfl rfl k35 ?_
              refine fz_iload_n kX11_road rfl rfl ?_
              refine fz_iast (n := 12) kX11_road rfl rfl (by omega) (by omega) ?_
              refine fz_nmu (S := [(53, 2), (55, 99999), (56, 99999), (57, 99999), (58, 99999)]) (h0 := h) (fz_Iv_up hI32 (by decide) (show (0 : Int) ≤ ln by omega) (show (ln : Int) ≤ 24 by omega)) (fz_fr_up hf33 rfl) (fun H37 hI38 hf39 e40 => ?_)
              have k41 : H37 53 2 = (h 53 2) := by rw [e40]; exact (fz_up_o (by decide)).trans k35
              have t42 : H37 53 2 = H31 53 2 := by rw [e40]; exact fz_up_o (by decide)
              refine fz_aload_n kX11_road rfl rfl ?_
              refine fz_getR (t := 58) kX11_road rfl rfl ?_
              refine fz_aload_n kX11_road rfl rfl ?_
              refine fz_getV (v := (h 53 2)) kX11_road rfl rfl k41 ?_
              refine fz_iconst ⟨by decide, by decide⟩ kX11_road rfl ?_
              refine fz_iast (n := 12) kX11_road rfl rfl (by omega) (by omega) ?_
              refine fz_nmu (S := [(53, 2), (55, 99999), (56, 99999), (57, 99999), (58, 99999)]) (h0 := h) (fz_Iv_up hI38 (by decide) (show (0 : Int) ≤ 1 by decide) (show (1 : Int) ≤ 1 by decide)) (fz_fr_up hf39 rfl) (fun H43 hI44 hf45 e46 => ?_)
              have k47 : H43 53 2 = (h 53 2) := by rw [e46]; exact (fz_up_o (by decide)).trans k41
              have t48 : H43 53 2 = H37 53 2 := by rw [e46]; exact fz_up_o (by decide)
              refine fz_aload_n kX11_road rfl rfl ?_
              refine fz_dup rfl kX11_road rfl ?_
              refine fz_getV (v := (h 53 2)) kX11_road rfl rfl k47 ?_
              refine fz_dup_x1 rfl rfl kX11_road rfl ?_
              refine fz_iconst ⟨by decide, by decide⟩ kX11_road rfl ?_
              refine fz_iaddN kX11_road rfl (by omega) ?_
              refine fz_putI kX11_road rfl rfl rfl ?_
              refine fz_nmu (S := [(53, 2), (55, 99999), (56, 99999), (57, 99999), (58, 99999)]) (h0 := h) (fz_Iv_up hI44 (by decide) (show (0 : Int) ≤ ((h 53 2) + 1) by omega) (show (((h 53 2) + 1) : Int) ≤ 12 by omega)) (fz_fr_up hf45 rfl) (fun H49 hI50 hf51 e52 => ?_)
              have k53 : H49 53 2 = ((h 53 2) + 1) := by rw [e52]; exact fz_up_e
              exact fz_iret kX11_road rfl rfl (fun _ => ⟨hI50, hf51, _, rfl, (by omega), (by omega), (by first | exact fz_roM_in e28 e34 e40 e46 e52 rfl (by unfold fz_rdM; omega) | exact Or.inr ⟨(by unfold fz_rdM; omega), rfl⟩)⟩)
            · refine fz_bipush ⟨by decide, by decide⟩ kX11_road rfl ?_
              exact fz_iret kX11_road rfl rfl (fun _ => ⟨hI, hf, _, rfl, (by omega), (by omega), (by first | exact fz_roM_in lost lost lost lost lost rfl (by unfold fz_rdM; omega) | exact Or.inr ⟨(by unfold fz_rdM; omega), rfl⟩)⟩)
          · exfalso; omega
        · refine fz_if_ne (tgt := 31) kX11_road rfl (by decide) (fun c56 => ?_) (fun c56 => ?_)
          · exfalso; omega
          · refine fz_iconst ⟨by decide, by decide⟩ kX11_road rfl ?_
            exact fz_iret kX11_road rfl rfl (fun _ => ⟨hI, hf, _, rfl, (by omega), (by omega), (by first | exact fz_roM_in lost lost lost lost lost rfl (by unfold fz_rdM; omega) | exact Or.inr ⟨(by unfold fz_rdM; omega), rfl⟩)⟩)
  · refine fz_if_eq (tgt := 29) kX11_road rfl (by decide) (fun c58 => ?_) (fun c58 => ?_)
    · refine fz_iconst ⟨by decide, by decide⟩ kX11_road rfl ?_
      exact fz_iret kX11_road rfl rfl (fun _ => ⟨hI, hf, _, rfl, (by omega), (by omega), (by first | exact fz_roM_in lost lost lost lost lost rfl (by unfold fz_rdM; omega) | exact Or.inr ⟨(by unfold fz_rdM; omega), rfl⟩)⟩)
    · exfalso; omega

abbrev qX11_newDeed (h : fz_H) (pe t hr mk wt : Int) : fz_H → Option fz_V → Prop := fun h' r0 => fz_Iv h' ∧ fz_fr [(53, 10), (60, 99999), (61, 99999), (62, 99999), (63, 99999), (64, 99999)] h h' ∧ ∃ r : Int, r0 = some (fz_i r) ∧ (0 ≤ r ∧ r ≤ 10) ∧ (h' 53 10 = h 53 10 + 1) ∧ (r = h 53 10) ∧ (fz_ndM h h' pe t hr mk wt)
set_option maxHeartbeats 1000000 in
set_option maxRecDepth 100000 in
theorem sX11_newDeed (h : fz_H) (hI : fz_Iv h) (pe t hr mk wt : Int) (hp0 : 0 ≤ t ∧ t ≤ 7) (hp1 : 0 ≤ hr ∧ hr ≤ 999) (hp2 : 0 ≤ mk ∧ mk ≤ 4) (hp3 : 0 ≤ wt ∧ wt ≤ 9) (hp4 : h 53 10 ≤ 10) : fz_R 0 mX11_newDeed 0 [(0, fz_r 53), (1, fz_i pe), (2, fz_i t), (3, fz_i hr), (4, fz_i mk), (5, fz_i wt)] [] h (qX11_newDeed h pe t hr mk wt) := by
  refine fz_knowl (fun hk => ?_)
  have hr_pe : -2147483648 ≤ pe ∧ pe < 2147483648 := hk _ (List.Mem.tail _ (List.Mem.head _))
  have hr_t : -2147483648 ≤ t ∧ t < 2147483648 := hk _ (List.Mem.tail _ (List.Mem.tail _ (List.Mem.head _)))
  have hr_hr : -2147483648 ≤ hr ∧ hr < 2147483648 := hk _ (List.Mem.tail _ (List.Mem.tail _ (List.Mem.tail _ (List.Mem.head _))))
  have hr_mk : -2147483648 ≤ mk ∧ mk < 2147483648 := hk _ (List.Mem.tail _ (List.Mem.tail _ (List.Mem.tail _ (List.Mem.tail _ (List.Mem.head _)))))
  have hr_wt : -2147483648 ≤ wt ∧ wt < 2147483648 := hk _ (List.Mem.tail _ (List.Mem.tail _ (List.Mem.tail _ (List.Mem.tail _ (List.Mem.tail _ (List.Mem.head _))))))
  clear hk
  have hf : fz_fr [(53, 10), (60, 99999), (61, 99999), (62, 99999), (63, 99999), (64, 99999)] h h := fz_fr_rf
  have b1 : 0 ≤ h 53 10 ∧ h 53 10 ≤ 11 := hI.1 53 _
  refine fz_aload_n kX11_newDeed rfl rfl ?_
  refine fz_getR (t := 60) kX11_newDeed rfl rfl ?_
  refine fz_aload_n kX11_newDeed rfl rfl ?_
  refine fz_getV (v := h 53 10) kX11_newDeed rfl rfl rfl ?_
  have b2 : 0 ≤ h 53 10 ∧ h 53 10 ≤ 11 := hI.1 53 _
  refine fz_iload_n kX11_newDeed rfl rfl ?_
  refine fz_iast (n := 11) kX11_newDeed rfl rfl (by omega) (by omega) ?_
  refine fz_nmu (S := [(53, 10), (60, 99999), (61, 99999), (62, 99999), (63, 99999), (64, 99999)]) (h0 := h) (fz_Iv_up hI (by decide) (show ((-2147483648) : Int) ≤ pe by omega) (show (pe : Int) ≤ 2147483647 by omega)) (fz_fr_up hf rfl) (fun H3 hI4 hf5 e6 => ?_)
  have k7 : H3 53 10 = (h 53 10) := by rw [e6]; exact (fz_up_o (by decide)).trans rfl
  have t8 : H3 53 10 = h 53 10 := by rw [e6]; exact fz_up_o (by decide)
  refine fz_aload_n kX11_newDeed rfl rfl ?_
  refine fz_getR (t := 61) kX11_newDeed rfl rfl ?_
  refine fz_aload_n kX11_newDeed rfl rfl ?_
  refine fz_getV (v := (h 53 10)) kX11_newDeed rfl rfl k7 ?_
  refine fz_iload_n kX11_newDeed rfl rfl ?_
  refine fz_iast (n := 11) kX11_newDeed rfl rfl (by omega) (by omega) ?_
  refine fz_nmu (S := [(53, 10), (60, 99999), (61, 99999), (62, 99999), (63, 99999), (64, 99999)]) (h0 := h) (fz_Iv_up hI4 (by decide) (show (0 : Int) ≤ t by omega) (show (t : Int) ≤ 7 by omega)) (fz_fr_up hf5 rfl) (fun H9 hI10 hf11 e12 => ?_)
  have k13 : H9 53 10 = (h 53 10) := by rw [e12]; exact (fz_up_o (by decide)).trans k7
  have t14 : H9 53 10 = H3 53 10 := by rw [e12]; exact fz_up_o (by decide)
  refine fz_aload_n kX11_newDeed rfl rfl ?_
  refine fz_getR (t := 62) kX11_newDeed rfl rfl ?_
  refine fz_aload_n kX11_newDeed rfl rfl ?_
  refine fz_getV (v := (h 53 10)) kX11_newDeed rfl rfl k13 ?_
  refine fz_iload_n kX11_newDeed rfl rfl ?_
  refine fz_iast (n := 11) kX11_newDeed rfl rfl (by omega) (by omega) ?_
  refine fz_nmu (S := [(53, 10), (60, 99999), (61, 99999), (62, 99999), (63, 99999), (64, 99999)]) (h0 := h) (fz_Iv_up hI10 (by decide) (show (0 : Int) ≤ hr by omega) (show (hr : Int) ≤ 999 by omega)) (fz_fr_up hf11 rfl) (fun H15 hI16 hf17 e18 => ?_)
  have k19 : H15 53 10 = (h 53 10) := by rw [e18]; exact (fz_up_o (by decide)).trans k13
  have t20 : H15 53 10 = H9 53 10 := by rw [e18]; exact fz_up_o (by decide)
  refine fz_aload_n kX11_newDeed rfl rfl ?_
  refine fz_getR (t := 63) kX11_newDeed rfl rfl ?_
  refine fz_aload_n kX11_newDeed rfl rfl ?_
  refine fz_getV (v := (h 53 10)) kX11_newDeed rfl rfl k19 ?_
  refine fz_iload kX11_newDeed rfl rfl ?_
  refine fz_iast (n := 11) kX11_newDeed rfl rfl (by omega) (by omega) ?_
  refine fz_nmu (S := [(53, 10), (60, 99999), (61, 99999), (62, 99999), (63, 99999), (64, 99999)]) (h0 := h) (fz_Iv_up hI16 (by decide) (show (0 : Int) ≤ mk by omega) (show (mk : Int) ≤ 4 by omega)) (fz_fr_up hf17 rfl) (fun H21 hI22 hf23 e24 => ?_)
  have k25 : H21 53 10 = (h 53 10) := by rw [e24]; exact (fz_up_o (by decide)).trans k19
  have t26 : H21 53 10 = H15 53 10 := by rw [e24]; exact fz_up_o (by decide)
  refine fz_aload_n kX11_newDeed rfl rfl ?_
  refine fz_getR (t := 64) kX11_newDeed rfl rfl ?_
  refine fz_aload_n kX11_newDeed rfl rfl ?_
  refine fz_getV (v := (h 53 10)) kX11_newDeed rfl rfl k25 ?_
  refine fz_iload kX11_newDeed rfl rfl ?_
  refine fz_iast (n := 11) kX11_newDeed rfl rfl (by omega) (by omega) ?_
  refine fz_nmu (S := [(53, 10), (60, 99999), (61, 99999), (62, 99999), (63, 99999), (64, 99999)]) (h0 := h) (fz_Iv_up hI22 (by decide) (show (0 : Int) ≤ wt by omega) (show (wt : Int) ≤ 9 by omega)) (fz_fr_up hf23 rfl) (fun H27 hI28 hf29 e30 => ?_)
  have k31 : H27 53 10 = (h 53 10) := by rw [e30]; exact (fz_up_o (by decide)).trans k25
  have t32 : H27 53 10 = H21 53 10 := by rw [e30]; exact fz_up_o (by decide)
  refine fz_aload_n kX11_newDeed rfl rfl ?_
  refine fz_dup rfl kX11_newDeed rfl ?_
  refine fz_getV (v := (h 53 10)) kX11_newDeed rfl rfl k31 ?_
  refine fz_dup_x1 rfl rfl kX11_newDeed rfl ?_
  refine fz_iconst ⟨by decide, by decide⟩ kX11_newDeed rfl ?_
  refine fz_iaddN kX11_newDeed rfl (by omega) ?_
  refine fz_putI kX11_newDeed rfl rfl rfl ?_
  refine fz_nmu (S := [(53, 10), (60, 99999), (61, 99999), (62, 99999), (63, 99999), (64, 99999)]) (h0 := h) (fz_Iv_up hI28 (by decide) (show (0 : Int) ≤ ((h 53 10) + 1) by omega) (show (((h 53 10) + 1) : Int) ≤ 11 by omega)) (fz_fr_up hf29 rfl) (fun H33 hI34 hf35 e36 => ?_)
  have k37 : H33 53 10 = ((h 53 10) + 1) := by rw [e36]; exact fz_up_e
  exact fz_iret kX11_newDeed rfl rfl (fun _ => ⟨hI34, hf35, _, rfl, (by omega), (by omega), (by omega), (by exact fz_ndM_in e6 e12 e18 e24 e30 e36 rfl rfl)⟩)

abbrev qX11_deed (h : fz_H) (pm th wt : Int) : fz_H → Option fz_V → Prop := fun h' r0 => fz_Iv h' ∧ fz_fr [(53, 10), (60, 99999), (61, 99999), (62, 99999), (63, 99999), (64, 99999)] h h' ∧ ∃ r : Int, r0 = some (fz_i r) ∧ ((-3) ≤ r ∧ r ≤ 10) ∧ (h' 53 10 ≤ 10) ∧ (((0 ≤ pm ∧ pm ≤ 39 ∧ pm % 10 < 5 ∧ 0 ≤ th ∧ th / 1000 < h 53 0 ∧ 1 ≤ wt ∧ wt ≤ 9) ∧ h 53 10 < 10 ∧ r = h 53 10 ∧ h' 53 10 = h 53 10 + 1) ∨ ((0 ≤ pm ∧ pm ≤ 39 ∧ pm % 10 < 5 ∧ 0 ≤ th ∧ th / 1000 < h 53 0 ∧ 1 ≤ wt ∧ wt ≤ 9) ∧ 10 ≤ h 53 10 ∧ r = -3 ∧ h' 53 10 = h 53 10) ∨ (¬ (0 ≤ pm ∧ pm ≤ 39 ∧ pm % 10 < 5 ∧ 0 ≤ th ∧ th / 1000 < h 53 0 ∧ 1 ≤ wt ∧ wt ≤ 9) ∧ r = -1 ∧ h' 53 10 = h 53 10)) ∧ (fz_apM h h' (h' 53 10 - h 53 10) (fun _ => (pm / 10, th / 1000, th % 1000, pm % 10, wt)))
set_option maxHeartbeats 1000000 in
set_option maxRecDepth 100000 in
theorem sX11_deed (h : fz_H) (hI : fz_Iv h) (pm th wt : Int) (hp0 : h 53 10 ≤ 10) : fz_R 3 mX11_deed 0 [(0, fz_r 53), (1, fz_i pm), (2, fz_i th), (3, fz_i wt)] [] h (qX11_deed h pm th wt) := by
  refine fz_knowl (fun hk => ?_)
  have hr_pm : -2147483648 ≤ pm ∧ pm < 2147483648 := hk _ (List.Mem.tail _ (List.Mem.head _))
  have hr_th : -2147483648 ≤ th ∧ th < 2147483648 := hk _ (List.Mem.tail _ (List.Mem.tail _ (List.Mem.head _)))
  have hr_wt : -2147483648 ≤ wt ∧ wt < 2147483648 := hk _ (List.Mem.tail _ (List.Mem.tail _ (List.Mem.tail _ (List.Mem.head _))))
  clear hk
  have hf : fz_fr [(53, 10), (60, 99999), (61, 99999), (62, 99999), (63, 99999), (64, 99999)] h h := fz_fr_rf
  have b1 : 0 ≤ h 53 10 ∧ h 53 10 ≤ 11 := hI.1 53 _
  have b2 : 0 ≤ h 53 0 ∧ h 53 0 ≤ 8 := hI.1 53 _
  refine fz_iload_n kX11_deed rfl rfl ?_
  refine fz_callS (d' := 2) (M' := mX11_isMarked) (As := [fz_i pm]) (st := []) kX11_deed rfl rfl vX11_isMarked rfl rfl (Nat.le_of_ble_eq_true rfl) (Nat.le_of_ble_eq_true rfl) (by decide) (sX11_isMarked h hI pm ) (fun H3 r4 q5 o6 => ?_)
  obtain ⟨e7, y8, rfl, p9⟩ := q5
  subst H3
  clear o6
  rcases p9 with ⟨rfl, c10⟩ | ⟨rfl, c10⟩
  · refine fz_if_eq (tgt := 25) kX11_deed rfl (by decide) (fun c11 => ?_) (fun c11 => ?_)
    · exfalso; omega
    · refine fz_aload_n kX11_deed rfl rfl ?_
      refine fz_iload_n kX11_deed rfl rfl ?_
      refine fz_callV (d' := 2) (M' := mX11_isWhen) (As := [fz_i th]) (st := []) kX11_deed rfl rfl vX11_isWhen rfl rfl rfl rfl (Nat.le_of_ble_eq_true rfl) (Nat.le_of_ble_eq_true rfl) (by decide) (sX11_isWhen h hI th ) (fun H12 r13 q14 o15 => ?_)
      obtain ⟨e16, y17, rfl, p18⟩ := q14
      subst H12
      clear o15
      rcases p18 with ⟨rfl, c19⟩ | ⟨rfl, c19⟩
      · refine fz_if_eq (tgt := 25) kX11_deed rfl (by decide) (fun c20 => ?_) (fun c20 => ?_)
        · exfalso; omega
        · refine fz_iload_n kX11_deed rfl rfl ?_
          refine fz_iconst ⟨by decide, by decide⟩ kX11_deed rfl ?_
          refine fz_bipush ⟨by decide, by decide⟩ kX11_deed rfl ?_
          refine fz_callS (d' := 0) (M' := mX11_within) (As := [fz_i wt, fz_i 1, fz_i 9]) (st := []) kX11_deed rfl rfl vX11_within rfl rfl (Nat.le_of_ble_eq_true rfl) (Nat.le_of_ble_eq_true rfl) (by decide) (sX11_within h hI wt 1 9 ) (fun H21 r22 q23 o24 => ?_)
          obtain ⟨e25, y26, rfl, p27⟩ := q23
          subst H21
          clear o24
          rcases p27 with ⟨rfl, c28⟩ | ⟨rfl, c28⟩
          · refine fz_if_ne (tgt := 27) kX11_deed rfl (by decide) (fun c29 => ?_) (fun c29 => ?_)
            · refine fz_aload_n kX11_deed rfl rfl ?_
              refine fz_getV (v := h 53 10) kX11_deed rfl rfl rfl ?_
              have b30 : 0 ≤ h 53 10 ∧ h 53 10 ≤ 11 := hI.1 53 _
              refine fz_bipush ⟨by decide, by decide⟩ kX11_deed rfl ?_
              refine fz_icmp_ne (tgt := 41) kX11_deed rfl (by decide) (fun c31 => ?_) (fun c31 => ?_)
              · refine fz_aload_n kX11_deed rfl rfl ?_
                refine fz_iload_n kX11_deed rfl rfl ?_
                refine fz_bipush ⟨by decide, by decide⟩ kX11_deed rfl ?_
                refine fz_idivN kX11_deed rfl (by omega) (by omega) (by omega) ?_
                refine fz_iload_n kX11_deed rfl rfl ?_
                refine fz_sipush ⟨by decide, by decide⟩ kX11_deed rfl ?_
                refine fz_idivN kX11_deed rfl (by omega) (by omega) (by omega) ?_
                refine fz_iload_n kX11_deed rfl rfl ?_
                refine fz_sipush ⟨by decide, by decide⟩ kX11_deed rfl ?_
                refine fz_iremN kX11_deed rfl (by omega) (by omega) (by omega) ?_
                refine fz_iload_n kX11_deed rfl rfl ?_
                refine fz_bipush ⟨by decide, by decide⟩ kX11_deed rfl ?_
                refine fz_iremN kX11_deed rfl (by omega) (by omega) (by omega) ?_
                refine fz_iload_n kX11_deed rfl rfl ?_
                refine fz_callV (d' := 0) (M' := mX11_newDeed) (As := [fz_i (pm / 10), fz_i (th / 1000), fz_i (th % 1000), fz_i (pm % 10), fz_i wt]) (st := []) kX11_deed rfl rfl vX11_newDeed rfl rfl rfl rfl (Nat.le_of_ble_eq_true rfl) (Nat.le_of_ble_eq_true rfl) (by decide) (sX11_newDeed h hI (pm / 10) (th / 1000) (th % 1000) (pm % 10) wt (by omega) (by omega) (by omega) (by omega) (by omega)) (fun H32 r33 q34 o35 => ?_)
                obtain ⟨hI36, hf37, y42, rfl, f38, f39, f40, f41⟩ := q34
                clear o35
                have hf43 := fz_fr_tr hf hf37 (show fz_su [(53, 10), (60, 99999), (61, 99999), (62, 99999), (63, 99999), (64, 99999)] [(53, 10), (60, 99999), (61, 99999), (62, 99999), (63, 99999), (64, 99999)] = true from rfl)
                exact fz_iret kX11_deed rfl rfl (fun _ => ⟨hI36, hf43, _, rfl, (by omega), (by omega), (by omega), (by first | exact fz_apM_1 f41 (by omega) (by omega) | exact fz_apM_z (by omega))⟩)
              · refine fz_bipush ⟨by decide, by decide⟩ kX11_deed rfl ?_
                refine fz_goto (tgt := 64) kX11_deed rfl (by decide) ?_
                exact fz_iret kX11_deed rfl rfl (fun _ => ⟨hI, hf, _, rfl, (by omega), (by omega), (by omega), (by first | exact fz_apM_1 lost (by omega) (by omega) | exact fz_apM_z (by omega))⟩)
            · exfalso; omega
          · refine fz_if_ne (tgt := 27) kX11_deed rfl (by decide) (fun c46 => ?_) (fun c46 => ?_)
            · exfalso; omega
            · refine fz_iconst ⟨by decide, by decide⟩ kX11_deed rfl ?_
              exact fz_iret kX11_deed rfl rfl (fun _ => ⟨hI, hf, _, rfl, (by omega), (by omega), (by omega), (by first | exact fz_apM_1 lost (by omega) (by omega) | exact fz_apM_z (by omega))⟩)
      · refine fz_if_eq (tgt := 25) kX11_deed rfl (by decide) (fun c48 => ?_) (fun c48 => ?_)
        · refine fz_iconst ⟨by decide, by decide⟩ kX11_deed rfl ?_
          exact fz_iret kX11_deed rfl rfl (fun _ => ⟨hI, hf, _, rfl, (by omega), (by omega), (by omega), (by first | exact fz_apM_1 lost (by omega) (by omega) | exact fz_apM_z (by omega))⟩)
        · exfalso; omega
  · refine fz_if_eq (tgt := 25) kX11_deed rfl (by decide) (fun c50 => ?_) (fun c50 => ?_)
    · refine fz_iconst ⟨by decide, by decide⟩ kX11_deed rfl ?_
      exact fz_iret kX11_deed rfl rfl (fun _ => ⟨hI, hf, _, rfl, (by omega), (by omega), (by omega), (by first | exact fz_apM_1 lost (by omega) (by omega) | exact fz_apM_z (by omega))⟩)
    · exfalso; omega
