/-! ===== what the methods keep ===== -/
abbrev qX10_isOne (h : fz_H) (a : Int) : fz_H → Option fz_V → Prop := fun h' r0 => h' = h ∧ ∃ r : Int, r0 = some (fz_i r) ∧ ((r = 1 ∧ (0 ≤ a ∧ a < 4)) ∨ (r = 0 ∧ ¬ (0 ≤ a ∧ a < 4)))
set_option maxHeartbeats 1000000 in
set_option maxRecDepth 100000 in
theorem sX10_isOne (h : fz_H) (hI : fz_Iv h) (a : Int) : fz_R 0 mX10_isOne 0 [(0, fz_r 0), (1, fz_i a)] [] h (qX10_isOne h a) := by
  refine fz_knowl (fun hk => ?_)
  have hr_a : -2147483648 ≤ a ∧ a < 2147483648 := hk _ (List.Mem.tail _ (List.Mem.head _))
  clear hk
  refine fz_iload_n kX10_isOne rfl rfl ?_
  refine fz_if_lt (tgt := 13) kX10_isOne rfl (by decide) (fun c1 => ?_) (fun c1 => ?_)
  · refine fz_iconst ⟨by decide, by decide⟩ kX10_isOne rfl ?_
    exact fz_zret kX10_isOne rfl rfl (by omega) ⟨rfl, _, rfl, Or.inr ⟨rfl, by omega⟩⟩
  · refine fz_iload_n kX10_isOne rfl rfl ?_
    refine fz_iconst ⟨by decide, by decide⟩ kX10_isOne rfl ?_
    refine fz_icmp_ge (tgt := 13) kX10_isOne rfl (by decide) (fun c2 => ?_) (fun c2 => ?_)
    · refine fz_iconst ⟨by decide, by decide⟩ kX10_isOne rfl ?_
      exact fz_zret kX10_isOne rfl rfl (by omega) ⟨rfl, _, rfl, Or.inr ⟨rfl, by omega⟩⟩
    · refine fz_iconst ⟨by decide, by decide⟩ kX10_isOne rfl ?_
      refine fz_goto (tgt := 14) kX10_isOne rfl (by decide) ?_
      exact fz_zret kX10_isOne rfl rfl (by omega) ⟨rfl, _, rfl, Or.inl ⟨rfl, by omega⟩⟩

abbrev qX10_isHour (h : fz_H) (a : Int) : fz_H → Option fz_V → Prop := fun h' r0 => h' = h ∧ ∃ r : Int, r0 = some (fz_i r) ∧ ((r = 1 ∧ (0 ≤ a ∧ a ≤ 999)) ∨ (r = 0 ∧ ¬ (0 ≤ a ∧ a ≤ 999)))
set_option maxHeartbeats 1000000 in
set_option maxRecDepth 100000 in
theorem sX10_isHour (h : fz_H) (hI : fz_Iv h) (a : Int) : fz_R 0 mX10_isHour 0 [(0, fz_r 0), (1, fz_i a)] [] h (qX10_isHour h a) := by
  refine fz_knowl (fun hk => ?_)
  have hr_a : -2147483648 ≤ a ∧ a < 2147483648 := hk _ (List.Mem.tail _ (List.Mem.head _))
  clear hk
  refine fz_iload_n kX10_isHour rfl rfl ?_
  refine fz_if_lt (tgt := 15) kX10_isHour rfl (by decide) (fun c1 => ?_) (fun c1 => ?_)
  · refine fz_iconst ⟨by decide, by decide⟩ kX10_isHour rfl ?_
    exact fz_zret kX10_isHour rfl rfl (by omega) ⟨rfl, _, rfl, Or.inr ⟨rfl, by omega⟩⟩
  · refine fz_iload_n kX10_isHour rfl rfl ?_
    refine fz_sipush ⟨by decide, by decide⟩ kX10_isHour rfl ?_
    refine fz_icmp_gt (tgt := 15) kX10_isHour rfl (by decide) (fun c2 => ?_) (fun c2 => ?_)
    · refine fz_iconst ⟨by decide, by decide⟩ kX10_isHour rfl ?_
      exact fz_zret kX10_isHour rfl rfl (by omega) ⟨rfl, _, rfl, Or.inr ⟨rfl, by omega⟩⟩
    · refine fz_iconst ⟨by decide, by decide⟩ kX10_isHour rfl ?_
      refine fz_goto (tgt := 16) kX10_isHour rfl (by decide) ?_
      exact fz_zret kX10_isHour rfl rfl (by omega) ⟨rfl, _, rfl, Or.inl ⟨rfl, by omega⟩⟩

abbrev qX10_isWeight (h : fz_H) (a : Int) : fz_H → Option fz_V → Prop := fun h' r0 => h' = h ∧ ∃ r : Int, r0 = some (fz_i r) ∧ ((r = 1 ∧ (1 ≤ a ∧ a ≤ 9)) ∨ (r = 0 ∧ ¬ (1 ≤ a ∧ a ≤ 9)))
set_option maxHeartbeats 1000000 in
set_option maxRecDepth 100000 in
theorem sX10_isWeight (h : fz_H) (hI : fz_Iv h) (a : Int) : fz_R 0 mX10_isWeight 0 [(0, fz_r 0), (1, fz_i a)] [] h (qX10_isWeight h a) := by
  refine fz_knowl (fun hk => ?_)
  have hr_a : -2147483648 ≤ a ∧ a < 2147483648 := hk _ (List.Mem.tail _ (List.Mem.head _))
  clear hk
  refine fz_iload_n kX10_isWeight rfl rfl ?_
  refine fz_iconst ⟨by decide, by decide⟩ kX10_isWeight rfl ?_
  refine fz_icmp_lt (tgt := 15) kX10_isWeight rfl (by decide) (fun c1 => ?_) (fun c1 => ?_)
  · refine fz_iconst ⟨by decide, by decide⟩ kX10_isWeight rfl ?_
    exact fz_zret kX10_isWeight rfl rfl (by omega) ⟨rfl, _, rfl, Or.inr ⟨rfl, by omega⟩⟩
  · refine fz_iload_n kX10_isWeight rfl rfl ?_
    refine fz_bipush ⟨by decide, by decide⟩ kX10_isWeight rfl ?_
    refine fz_icmp_gt (tgt := 15) kX10_isWeight rfl (by decide) (fun c2 => ?_) (fun c2 => ?_)
    · refine fz_iconst ⟨by decide, by decide⟩ kX10_isWeight rfl ?_
      exact fz_zret kX10_isWeight rfl rfl (by omega) ⟨rfl, _, rfl, Or.inr ⟨rfl, by omega⟩⟩
    · refine fz_iconst ⟨by decide, by decide⟩ kX10_isWeight rfl ?_
      refine fz_goto (tgt := 16) kX10_isWeight rfl (by decide) ?_
      exact fz_zret kX10_isWeight rfl rfl (by omega) ⟨rfl, _, rfl, Or.inl ⟨rfl, by omega⟩⟩

abbrev qX10_isVolume (h : fz_H) (a : Int) : fz_H → Option fz_V → Prop := fun h' r0 => h' = h ∧ ∃ r : Int, r0 = some (fz_i r) ∧ ((r = 1 ∧ (1 ≤ a ∧ a ≤ 99)) ∨ (r = 0 ∧ ¬ (1 ≤ a ∧ a ≤ 99)))
set_option maxHeartbeats 1000000 in
set_option maxRecDepth 100000 in
theorem sX10_isVolume (h : fz_H) (hI : fz_Iv h) (a : Int) : fz_R 0 mX10_isVolume 0 [(0, fz_r 0), (1, fz_i a)] [] h (qX10_isVolume h a) := by
  refine fz_knowl (fun hk => ?_)
  have hr_a : -2147483648 ≤ a ∧ a < 2147483648 := hk _ (List.Mem.tail _ (List.Mem.head _))
  clear hk
  refine fz_iload_n kX10_isVolume rfl rfl ?_
  refine fz_iconst ⟨by decide, by decide⟩ kX10_isVolume rfl ?_
  refine fz_icmp_lt (tgt := 15) kX10_isVolume rfl (by decide) (fun c1 => ?_) (fun c1 => ?_)
  · refine fz_iconst ⟨by decide, by decide⟩ kX10_isVolume rfl ?_
    exact fz_zret kX10_isVolume rfl rfl (by omega) ⟨rfl, _, rfl, Or.inr ⟨rfl, by omega⟩⟩
  · refine fz_iload_n kX10_isVolume rfl rfl ?_
    refine fz_bipush ⟨by decide, by decide⟩ kX10_isVolume rfl ?_
    refine fz_icmp_gt (tgt := 15) kX10_isVolume rfl (by decide) (fun c2 => ?_) (fun c2 => ?_)
    · refine fz_iconst ⟨by decide, by decide⟩ kX10_isVolume rfl ?_
      exact fz_zret kX10_isVolume rfl rfl (by omega) ⟨rfl, _, rfl, Or.inr ⟨rfl, by omega⟩⟩
    · refine fz_iconst ⟨by decide, by decide⟩ kX10_isVolume rfl ?_
      refine fz_goto (tgt := 16) kX10_isVolume rfl (by decide) ?_
      exact fz_zret kX10_isVolume rfl rfl (by omega) ⟨rfl, _, rfl, Or.inl ⟨rfl, by omega⟩⟩

abbrev qX10_isMarkOfOne (h : fz_H) (a : Int) : fz_H → Option fz_V → Prop := fun h' r0 => h' = h ∧ ∃ r : Int, r0 = some (fz_i r) ∧ ((r = 1 ∧ (0 ≤ a ∧ a ≤ 39 ∧ a / 10 < 4 ∧ a % 10 < 5)) ∨ (r = 0 ∧ ¬ (0 ≤ a ∧ a ≤ 39 ∧ a / 10 < 4 ∧ a % 10 < 5)))
set_option maxHeartbeats 1000000 in
set_option maxRecDepth 100000 in
theorem sX10_isMarkOfOne (h : fz_H) (hI : fz_Iv h) (a : Int) : fz_R 1 mX10_isMarkOfOne 0 [(0, fz_r 0), (1, fz_i a)] [] h (qX10_isMarkOfOne h a) := by
  refine fz_knowl (fun hk => ?_)
  have hr_a : -2147483648 ≤ a ∧ a < 2147483648 := hk _ (List.Mem.tail _ (List.Mem.head _))
  clear hk
  refine fz_iload_n kX10_isMarkOfOne rfl rfl ?_
  refine fz_if_lt (tgt := 27) kX10_isMarkOfOne rfl (by decide) (fun c1 => ?_) (fun c1 => ?_)
  · refine fz_iconst ⟨by decide, by decide⟩ kX10_isMarkOfOne rfl ?_
    exact fz_zret kX10_isMarkOfOne rfl rfl (by omega) ⟨rfl, _, rfl, Or.inr ⟨rfl, by omega⟩⟩
  · refine fz_aload_n kX10_isMarkOfOne rfl rfl ?_
    refine fz_iload_n kX10_isMarkOfOne rfl rfl ?_
    refine fz_bipush ⟨by decide, by decide⟩ kX10_isMarkOfOne rfl ?_
    refine fz_idivN kX10_isMarkOfOne rfl (by omega) (by omega) (by omega) ?_
    refine fz_callV (d' := 0) (M' := mX10_isOne) (As := [fz_i (a / 10)]) (st := []) kX10_isMarkOfOne rfl rfl vX10_isOne rfl rfl rfl rfl (Nat.le_of_ble_eq_true rfl) (Nat.le_of_ble_eq_true rfl) (by decide) (sX10_isOne h hI (a / 10) ) (fun H2 r3 q4 o5 => ?_)
    obtain ⟨e6, y7, rfl, p8⟩ := q4
    subst H2
    clear o5
    rcases p8 with ⟨rfl, c9⟩ | ⟨rfl, c9⟩
    · refine fz_if_eq (tgt := 27) kX10_isMarkOfOne rfl (by decide) (fun c10 => ?_) (fun c10 => ?_)
      · exfalso; omega
      · refine fz_iload_n kX10_isMarkOfOne rfl rfl ?_
        refine fz_bipush ⟨by decide, by decide⟩ kX10_isMarkOfOne rfl ?_
        refine fz_iremN kX10_isMarkOfOne rfl (by omega) (by omega) (by omega) ?_
        refine fz_iconst ⟨by decide, by decide⟩ kX10_isMarkOfOne rfl ?_
        refine fz_icmp_ge (tgt := 27) kX10_isMarkOfOne rfl (by decide) (fun c11 => ?_) (fun c11 => ?_)
        · refine fz_iconst ⟨by decide, by decide⟩ kX10_isMarkOfOne rfl ?_
          exact fz_zret kX10_isMarkOfOne rfl rfl (by omega) ⟨rfl, _, rfl, Or.inr ⟨rfl, by omega⟩⟩
        · refine fz_iconst ⟨by decide, by decide⟩ kX10_isMarkOfOne rfl ?_
          refine fz_goto (tgt := 28) kX10_isMarkOfOne rfl (by decide) ?_
          exact fz_zret kX10_isMarkOfOne rfl rfl (by omega) ⟨rfl, _, rfl, Or.inl ⟨rfl, by omega⟩⟩
    · refine fz_if_eq (tgt := 27) kX10_isMarkOfOne rfl (by decide) (fun c12 => ?_) (fun c12 => ?_)
      · refine fz_iconst ⟨by decide, by decide⟩ kX10_isMarkOfOne rfl ?_
        exact fz_zret kX10_isMarkOfOne rfl rfl (by omega) ⟨rfl, _, rfl, Or.inr ⟨rfl, by omega⟩⟩
      · exfalso; omega

abbrev qX10_isTownAndHour (h : fz_H) (a : Int) : fz_H → Option fz_V → Prop := fun h' r0 => h' = h ∧ ∃ r : Int, r0 = some (fz_i r) ∧ ((r = 1 ∧ (0 ≤ a ∧ a ≤ 7999 ∧ a / 1000 ≤ 7 ∧ a / 1000 < h 1 7)) ∨ (r = 0 ∧ ¬ (0 ≤ a ∧ a ≤ 7999 ∧ a / 1000 ≤ 7 ∧ a / 1000 < h 1 7)))
set_option maxHeartbeats 1000000 in
set_option maxRecDepth 100000 in
theorem sX10_isTownAndHour (h : fz_H) (hI : fz_Iv h) (a : Int) : fz_R 1 mX10_isTownAndHour 0 [(0, fz_r 0), (1, fz_i a)] [] h (qX10_isTownAndHour h a) := by
  refine fz_knowl (fun hk => ?_)
  have hr_a : -2147483648 ≤ a ∧ a < 2147483648 := hk _ (List.Mem.tail _ (List.Mem.head _))
  clear hk
  have b1 : 0 ≤ h 1 7 ∧ h 1 7 ≤ 8 := hI.1 1 _
  refine fz_iload_n kX10_isTownAndHour rfl rfl ?_
  refine fz_if_lt (tgt := 23) kX10_isTownAndHour rfl (by decide) (fun c2 => ?_) (fun c2 => ?_)
  · refine fz_iconst ⟨by decide, by decide⟩ kX10_isTownAndHour rfl ?_
    exact fz_zret kX10_isTownAndHour rfl rfl (by omega) ⟨rfl, _, rfl, Or.inr ⟨rfl, by omega⟩⟩
  · refine fz_aload_n kX10_isTownAndHour rfl rfl ?_
    refine fz_getR (t := 1) kX10_isTownAndHour rfl rfl ?_
    refine fz_iload_n kX10_isTownAndHour rfl rfl ?_
    refine fz_sipush ⟨by decide, by decide⟩ kX10_isTownAndHour rfl ?_
    refine fz_idivN kX10_isTownAndHour rfl (by omega) (by omega) (by omega) ?_
    refine fz_callV (d' := 0) (M' := mX2_isTown) (As := [fz_i (a / 1000)]) (st := []) kX10_isTownAndHour rfl rfl vX2_isTown rfl rfl rfl rfl (Nat.le_of_ble_eq_true rfl) (Nat.le_of_ble_eq_true rfl) (by decide) (sX2_isTown h hI (a / 1000) ) (fun H3 r4 q5 o6 => ?_)
    obtain ⟨e7, y8, rfl, p9⟩ := q5
    subst H3
    clear o6
    rcases p9 with ⟨rfl, c10⟩ | ⟨rfl, c10⟩
    · refine fz_if_eq (tgt := 23) kX10_isTownAndHour rfl (by decide) (fun c11 => ?_) (fun c11 => ?_)
      · exfalso; omega
      · refine fz_iconst ⟨by decide, by decide⟩ kX10_isTownAndHour rfl ?_
        refine fz_goto (tgt := 24) kX10_isTownAndHour rfl (by decide) ?_
        exact fz_zret kX10_isTownAndHour rfl rfl (by omega) ⟨rfl, _, rfl, Or.inl ⟨rfl, by omega⟩⟩
    · refine fz_if_eq (tgt := 23) kX10_isTownAndHour rfl (by decide) (fun c12 => ?_) (fun c12 => ?_)
      · refine fz_iconst ⟨by decide, by decide⟩ kX10_isTownAndHour rfl ?_
        exact fz_zret kX10_isTownAndHour rfl rfl (by omega) ⟨rfl, _, rfl, Or.inr ⟨rfl, by omega⟩⟩
      · exfalso; omega

abbrev qX10_arePair (h : fz_H) (a : Int) : fz_H → Option fz_V → Prop := fun h' r0 => h' = h ∧ ∃ r : Int, r0 = some (fz_i r) ∧ ((r = 1 ∧ (0 ≤ a ∧ a ≤ 77 ∧ a / 10 ≤ 7 ∧ a % 10 ≤ 7 ∧ a / 10 < h 1 7 ∧ a % 10 < h 1 7)) ∨ (r = 0 ∧ ¬ (0 ≤ a ∧ a ≤ 77 ∧ a / 10 ≤ 7 ∧ a % 10 ≤ 7 ∧ a / 10 < h 1 7 ∧ a % 10 < h 1 7)))
set_option maxHeartbeats 1000000 in
set_option maxRecDepth 100000 in
theorem sX10_arePair (h : fz_H) (hI : fz_Iv h) (a : Int) : fz_R 1 mX10_arePair 0 [(0, fz_r 0), (1, fz_i a)] [] h (qX10_arePair h a) := by
  refine fz_knowl (fun hk => ?_)
  have hr_a : -2147483648 ≤ a ∧ a < 2147483648 := hk _ (List.Mem.tail _ (List.Mem.head _))
  clear hk
  have b1 : 0 ≤ h 1 7 ∧ h 1 7 ≤ 8 := hI.1 1 _
  refine fz_iload_n kX10_arePair rfl rfl ?_
  refine fz_if_lt (tgt := 36) kX10_arePair rfl (by decide) (fun c2 => ?_) (fun c2 => ?_)
  · refine fz_iconst ⟨by decide, by decide⟩ kX10_arePair rfl ?_
    exact fz_zret kX10_arePair rfl rfl (by omega) ⟨rfl, _, rfl, Or.inr ⟨rfl, by omega⟩⟩
  · refine fz_aload_n kX10_arePair rfl rfl ?_
    refine fz_getR (t := 1) kX10_arePair rfl rfl ?_
    refine fz_iload_n kX10_arePair rfl rfl ?_
    refine fz_bipush ⟨by decide, by decide⟩ kX10_arePair rfl ?_
    refine fz_idivN kX10_arePair rfl (by omega) (by omega) (by omega) ?_
    refine fz_callV (d' := 0) (M' := mX2_isTown) (As := [fz_i (a / 10)]) (st := []) kX10_arePair rfl rfl vX2_isTown rfl rfl rfl rfl (Nat.le_of_ble_eq_true rfl) (Nat.le_of_ble_eq_true rfl) (by decide) (sX2_isTown h hI (a / 10) ) (fun H3 r4 q5 o6 => ?_)
    obtain ⟨e7, y8, rfl, p9⟩ := q5
    subst H3
    clear o6
    rcases p9 with ⟨rfl, c10⟩ | ⟨rfl, c10⟩
    · refine fz_if_eq (tgt := 36) kX10_arePair rfl (by decide) (fun c11 => ?_) (fun c11 => ?_)
      · exfalso; omega
      · refine fz_aload_n kX10_arePair rfl rfl ?_
        refine fz_getR (t := 1) kX10_arePair rfl rfl ?_
        refine fz_iload_n kX10_arePair rfl rfl ?_
        refine fz_bipush ⟨by decide, by decide⟩ kX10_arePair rfl ?_
        refine fz_iremN kX10_arePair rfl (by omega) (by omega) (by omega) ?_
        refine fz_callV (d' := 0) (M' := mX2_isTown) (As := [fz_i (a % 10)]) (st := []) kX10_arePair rfl rfl vX2_isTown rfl rfl rfl rfl (Nat.le_of_ble_eq_true rfl) (Nat.le_of_ble_eq_true rfl) (by decide) (sX2_isTown h hI (a % 10) ) (fun H12 r13 q14 o15 => ?_)
        obtain ⟨e16, y17, rfl, p18⟩ := q14
        subst H12
        clear o15
        rcases p18 with ⟨rfl, c19⟩ | ⟨rfl, c19⟩
        · refine fz_if_eq (tgt := 36) kX10_arePair rfl (by decide) (fun c20 => ?_) (fun c20 => ?_)
          · exfalso; omega
          · refine fz_iconst ⟨by decide, by decide⟩ kX10_arePair rfl ?_
            refine fz_goto (tgt := 37) kX10_arePair rfl (by decide) ?_
            exact fz_zret kX10_arePair rfl rfl (by omega) ⟨rfl, _, rfl, Or.inl ⟨rfl, by omega⟩⟩
        · refine fz_if_eq (tgt := 36) kX10_arePair rfl (by decide) (fun c21 => ?_) (fun c21 => ?_)
          · refine fz_iconst ⟨by decide, by decide⟩ kX10_arePair rfl ?_
            exact fz_zret kX10_arePair rfl rfl (by omega) ⟨rfl, _, rfl, Or.inr ⟨rfl, by omega⟩⟩
          · exfalso; omega
    · refine fz_if_eq (tgt := 36) kX10_arePair rfl (by decide) (fun c22 => ?_) (fun c22 => ?_)
      · refine fz_iconst ⟨by decide, by decide⟩ kX10_arePair rfl ?_
        exact fz_zret kX10_arePair rfl rfl (by omega) ⟨rfl, _, rfl, Or.inr ⟨rfl, by omega⟩⟩
      · exfalso; omega

abbrev qX10_isMendable (h : fz_H) (nu wh : Int) : fz_H → Option fz_V → Prop := fun h' r0 => h' = h ∧ ∃ r : Int, r0 = some (fz_i r) ∧ ((r = 1 ∧ ((wh = 0 ∧ 0 ≤ nu ∧ nu < h 1 7) ∨ (wh = 1 ∧ 0 ≤ nu ∧ nu < h 1 8) ∨ (wh = 2 ∧ 0 ≤ nu ∧ nu < h 1 8) ∨ (wh = 3 ∧ 0 ≤ nu ∧ nu < h 9 5) ∨ (wh = 4 ∧ 0 ≤ nu ∧ nu < h 9 5) ∨ (wh = 5 ∧ 0 ≤ nu ∧ nu < h 9 5) ∨ (wh = 6 ∧ 0 ≤ nu ∧ nu < 5) ∨ (wh = 7 ∧ nu = 0) ∨ (wh = 8 ∧ nu = 0))) ∨ (r = 0 ∧ ¬ ((wh = 0 ∧ 0 ≤ nu ∧ nu < h 1 7) ∨ (wh = 1 ∧ 0 ≤ nu ∧ nu < h 1 8) ∨ (wh = 2 ∧ 0 ≤ nu ∧ nu < h 1 8) ∨ (wh = 3 ∧ 0 ≤ nu ∧ nu < h 9 5) ∨ (wh = 4 ∧ 0 ≤ nu ∧ nu < h 9 5) ∨ (wh = 5 ∧ 0 ≤ nu ∧ nu < h 9 5) ∨ (wh = 6 ∧ 0 ≤ nu ∧ nu < 5) ∨ (wh = 7 ∧ nu = 0) ∨ (wh = 8 ∧ nu = 0))))
set_option maxHeartbeats 1000000 in
set_option maxRecDepth 100000 in
theorem sX10_isMendable (h : fz_H) (hI : fz_Iv h) (nu wh : Int) : fz_R 1 mX10_isMendable 0 [(0, fz_r 0), (1, fz_i nu), (2, fz_i wh)] [] h (qX10_isMendable h nu wh) := by
  refine fz_knowl (fun hk => ?_)
  have hr_nu : -2147483648 ≤ nu ∧ nu < 2147483648 := hk _ (List.Mem.tail _ (List.Mem.head _))
  have hr_wh : -2147483648 ≤ wh ∧ wh < 2147483648 := hk _ (List.Mem.tail _ (List.Mem.tail _ (List.Mem.head _)))
  clear hk
  have b1 : 0 ≤ h 1 7 ∧ h 1 7 ≤ 8 := hI.1 1 _
  have b2 : 0 ≤ h 1 8 ∧ h 1 8 ≤ 12 := hI.1 1 _
  have b3 : 0 ≤ h 9 5 ∧ h 9 5 ≤ 10 := hI.1 9 _
  refine fz_iload_n kX10_isMendable rfl rfl ?_
  rcases (show wh = 0 ∨ wh = 1 ∨ wh = 2 ∨ wh = 3 ∨ wh = 4 ∨ wh = 5 ∨ wh = 6 ∨ wh = 7 ∨ wh = 8 ∨ (wh < 0 ∨ 8 < wh) by omega) with c4 | c4 | c4 | c4 | c4 | c4 | c4 | c4 | c4 | c4
  · refine fz_tswC (j := 0) (tgt := 52) kX10_isMendable rfl c4 (by decide) (by decide) rfl (by decide) ?_
    refine fz_aload_n kX10_isMendable rfl rfl ?_
    refine fz_getR (t := 1) kX10_isMendable rfl rfl ?_
    refine fz_iload_n kX10_isMendable rfl rfl ?_
    refine fz_callV (d' := 0) (M' := mX2_isTown) (As := [fz_i nu]) (st := []) kX10_isMendable rfl rfl vX2_isTown rfl rfl rfl rfl (Nat.le_of_ble_eq_true rfl) (Nat.le_of_ble_eq_true rfl) (by decide) (sX2_isTown h hI nu ) (fun H5 r6 q7 o8 => ?_)
    obtain ⟨e9, y10, rfl, p11⟩ := q7
    subst H5
    clear o8
    rcases p11 with ⟨rfl, c12⟩ | ⟨rfl, c12⟩
    · exact fz_zret kX10_isMendable rfl rfl (by omega) ⟨rfl, _, rfl, Or.inl ⟨rfl, by first | exact Or.inl (by omega) | exact Or.inr (Or.inl (by omega)) | exact Or.inr (Or.inr (Or.inl (by omega))) | exact Or.inr (Or.inr (Or.inr (Or.inl (by omega)))) | exact Or.inr (Or.inr (Or.inr (Or.inr (Or.inl (by omega))))) | exact Or.inr (Or.inr (Or.inr (Or.inr (Or.inr (Or.inl (by omega)))))) | exact Or.inr (Or.inr (Or.inr (Or.inr (Or.inr (Or.inr (Or.inl (by omega))))))) | exact Or.inr (Or.inr (Or.inr (Or.inr (Or.inr (Or.inr (Or.inr (Or.inl (by omega)))))))) | exact Or.inr (Or.inr (Or.inr (Or.inr (Or.inr (Or.inr (Or.inr (Or.inr ((by omega))))))))) | omega⟩⟩
    · exact fz_zret kX10_isMendable rfl rfl (by omega) ⟨rfl, _, rfl, Or.inr ⟨rfl, by exact fun z => (by rcases z with z | z | z | z | z | z | z | z | z <;> omega)⟩⟩
  · refine fz_tswC (j := 1) (tgt := 61) kX10_isMendable rfl c4 (by decide) (by decide) rfl (by decide) ?_
    refine fz_aload_n kX10_isMendable rfl rfl ?_
    refine fz_getR (t := 1) kX10_isMendable rfl rfl ?_
    refine fz_iload_n kX10_isMendable rfl rfl ?_
    refine fz_callV (d' := 0) (M' := mX2_isRoad) (As := [fz_i nu]) (st := []) kX10_isMendable rfl rfl vX2_isRoad rfl rfl rfl rfl (Nat.le_of_ble_eq_true rfl) (Nat.le_of_ble_eq_true rfl) (by decide) (sX2_isRoad h hI nu ) (fun H13 r14 q15 o16 => ?_)
    obtain ⟨e17, y18, rfl, p19⟩ := q15
    subst H13
    clear o16
    rcases p19 with ⟨rfl, c20⟩ | ⟨rfl, c20⟩
    · exact fz_zret kX10_isMendable rfl rfl (by omega) ⟨rfl, _, rfl, Or.inl ⟨rfl, by first | exact Or.inl (by omega) | exact Or.inr (Or.inl (by omega)) | exact Or.inr (Or.inr (Or.inl (by omega))) | exact Or.inr (Or.inr (Or.inr (Or.inl (by omega)))) | exact Or.inr (Or.inr (Or.inr (Or.inr (Or.inl (by omega))))) | exact Or.inr (Or.inr (Or.inr (Or.inr (Or.inr (Or.inl (by omega)))))) | exact Or.inr (Or.inr (Or.inr (Or.inr (Or.inr (Or.inr (Or.inl (by omega))))))) | exact Or.inr (Or.inr (Or.inr (Or.inr (Or.inr (Or.inr (Or.inr (Or.inl (by omega)))))))) | exact Or.inr (Or.inr (Or.inr (Or.inr (Or.inr (Or.inr (Or.inr (Or.inr ((by omega))))))))) | omega⟩⟩
    · exact fz_zret kX10_isMendable rfl rfl (by omega) ⟨rfl, _, rfl, Or.inr ⟨rfl, by exact fun z => (by rcases z with z | z | z | z | z | z | z | z | z <;> omega)⟩⟩
  · refine fz_tswC (j := 2) (tgt := 61) kX10_isMendable rfl c4 (by decide) (by decide) rfl (by decide) ?_
    refine fz_aload_n kX10_isMendable rfl rfl ?_
    refine fz_getR (t := 1) kX10_isMendable rfl rfl ?_
    refine fz_iload_n kX10_isMendable rfl rfl ?_
    refine fz_callV (d' := 0) (M' := mX2_isRoad) (As := [fz_i nu]) (st := []) kX10_isMendable rfl rfl vX2_isRoad rfl rfl rfl rfl (Nat.le_of_ble_eq_true rfl) (Nat.le_of_ble_eq_true rfl) (by decide) (sX2_isRoad h hI nu ) (fun H21 r22 q23 o24 => ?_)
    obtain ⟨e25, y26, rfl, p27⟩ := q23
    subst H21
    clear o24
    rcases p27 with ⟨rfl, c28⟩ | ⟨rfl, c28⟩
    · exact fz_zret kX10_isMendable rfl rfl (by omega) ⟨rfl, _, rfl, Or.inl ⟨rfl, by first | exact Or.inl (by omega) | exact Or.inr (Or.inl (by omega)) | exact Or.inr (Or.inr (Or.inl (by omega))) | exact Or.inr (Or.inr (Or.inr (Or.inl (by omega)))) | exact Or.inr (Or.inr (Or.inr (Or.inr (Or.inl (by omega))))) | exact Or.inr (Or.inr (Or.inr (Or.inr (Or.inr (Or.inl (by omega)))))) | exact Or.inr (Or.inr (Or.inr (Or.inr (Or.inr (Or.inr (Or.inl (by omega))))))) | exact Or.inr (Or.inr (Or.inr (Or.inr (Or.inr (Or.inr (Or.inr (Or.inl (by omega)))))))) | exact Or.inr (Or.inr (Or.inr (Or.inr (Or.inr (Or.inr (Or.inr (Or.inr ((by omega))))))))) | omega⟩⟩
    · exact fz_zret kX10_isMendable rfl rfl (by omega) ⟨rfl, _, rfl, Or.inr ⟨rfl, by exact fun z => (by rcases z with z | z | z | z | z | z | z | z | z <;> omega)⟩⟩
  · refine fz_tswC (j := 3) (tgt := 70) kX10_isMendable rfl c4 (by decide) (by decide) rfl (by decide) ?_
    refine fz_aload_n kX10_isMendable rfl rfl ?_
    refine fz_getR (t := 9) kX10_isMendable rfl rfl ?_
    refine fz_iload_n kX10_isMendable rfl rfl ?_
    refine fz_callV (d' := 0) (M' := mX4_isDeed) (As := [fz_i nu]) (st := []) kX10_isMendable rfl rfl vX4_isDeed rfl rfl rfl rfl (Nat.le_of_ble_eq_true rfl) (Nat.le_of_ble_eq_true rfl) (by decide) (sX4_isDeed h hI nu ) (fun H29 r30 q31 o32 => ?_)
    obtain ⟨e33, y34, rfl, p35⟩ := q31
    subst H29
    clear o32
    rcases p35 with ⟨rfl, c36⟩ | ⟨rfl, c36⟩
    · exact fz_zret kX10_isMendable rfl rfl (by omega) ⟨rfl, _, rfl, Or.inl ⟨rfl, by first | exact Or.inl (by omega) | exact Or.inr (Or.inl (by omega)) | exact Or.inr (Or.inr (Or.inl (by omega))) | exact Or.inr (Or.inr (Or.inr (Or.inl (by omega)))) | exact Or.inr (Or.inr (Or.inr (Or.inr (Or.inl (by omega))))) | exact Or.inr (Or.inr (Or.inr (Or.inr (Or.inr (Or.inl (by omega)))))) | exact Or.inr (Or.inr (Or.inr (Or.inr (Or.inr (Or.inr (Or.inl (by omega))))))) | exact Or.inr (Or.inr (Or.inr (Or.inr (Or.inr (Or.inr (Or.inr (Or.inl (by omega)))))))) | exact Or.inr (Or.inr (Or.inr (Or.inr (Or.inr (Or.inr (Or.inr (Or.inr ((by omega))))))))) | omega⟩⟩
    · exact fz_zret kX10_isMendable rfl rfl (by omega) ⟨rfl, _, rfl, Or.inr ⟨rfl, by exact fun z => (by rcases z with z | z | z | z | z | z | z | z | z <;> omega)⟩⟩
  · refine fz_tswC (j := 4) (tgt := 70) kX10_isMendable rfl c4 (by decide) (by decide) rfl (by decide) ?_
    refine fz_aload_n kX10_isMendable rfl rfl ?_
    refine fz_getR (t := 9) kX10_isMendable rfl rfl ?_
    refine fz_iload_n kX10_isMendable rfl rfl ?_
    refine fz_callV (d' := 0) (M' := mX4_isDeed) (As := [fz_i nu]) (st := []) kX10_isMendable rfl rfl vX4_isDeed rfl rfl rfl rfl (Nat.le_of_ble_eq_true rfl) (Nat.le_of_ble_eq_true rfl) (by decide) (sX4_isDeed h hI nu ) (fun H37 r38 q39 o40 => ?_)
    obtain ⟨e41, y42, rfl, p43⟩ := q39
    subst H37
    clear o40
    rcases p43 with ⟨rfl, c44⟩ | ⟨rfl, c44⟩
    · exact fz_zret kX10_isMendable rfl rfl (by omega) ⟨rfl, _, rfl, Or.inl ⟨rfl, by first | exact Or.inl (by omega) | exact Or.inr (Or.inl (by omega)) | exact Or.inr (Or.inr (Or.inl (by omega))) | exact Or.inr (Or.inr (Or.inr (Or.inl (by omega)))) | exact Or.inr (Or.inr (Or.inr (Or.inr (Or.inl (by omega))))) | exact Or.inr (Or.inr (Or.inr (Or.inr (Or.inr (Or.inl (by omega)))))) | exact Or.inr (Or.inr (Or.inr (Or.inr (Or.inr (Or.inr (Or.inl (by omega))))))) | exact Or.inr (Or.inr (Or.inr (Or.inr (Or.inr (Or.inr (Or.inr (Or.inl (by omega)))))))) | exact Or.inr (Or.inr (Or.inr (Or.inr (Or.inr (Or.inr (Or.inr (Or.inr ((by omega))))))))) | omega⟩⟩
    · exact fz_zret kX10_isMendable rfl rfl (by omega) ⟨rfl, _, rfl, Or.inr ⟨rfl, by exact fun z => (by rcases z with z | z | z | z | z | z | z | z | z <;> omega)⟩⟩
  · refine fz_tswC (j := 5) (tgt := 70) kX10_isMendable rfl c4 (by decide) (by decide) rfl (by decide) ?_
    refine fz_aload_n kX10_isMendable rfl rfl ?_
    refine fz_getR (t := 9) kX10_isMendable rfl rfl ?_
    refine fz_iload_n kX10_isMendable rfl rfl ?_
    refine fz_callV (d' := 0) (M' := mX4_isDeed) (As := [fz_i nu]) (st := []) kX10_isMendable rfl rfl vX4_isDeed rfl rfl rfl rfl (Nat.le_of_ble_eq_true rfl) (Nat.le_of_ble_eq_true rfl) (by decide) (sX4_isDeed h hI nu ) (fun H45 r46 q47 o48 => ?_)
    obtain ⟨e49, y50, rfl, p51⟩ := q47
    subst H45
    clear o48
    rcases p51 with ⟨rfl, c52⟩ | ⟨rfl, c52⟩
    · exact fz_zret kX10_isMendable rfl rfl (by omega) ⟨rfl, _, rfl, Or.inl ⟨rfl, by first | exact Or.inl (by omega) | exact Or.inr (Or.inl (by omega)) | exact Or.inr (Or.inr (Or.inl (by omega))) | exact Or.inr (Or.inr (Or.inr (Or.inl (by omega)))) | exact Or.inr (Or.inr (Or.inr (Or.inr (Or.inl (by omega))))) | exact Or.inr (Or.inr (Or.inr (Or.inr (Or.inr (Or.inl (by omega)))))) | exact Or.inr (Or.inr (Or.inr (Or.inr (Or.inr (Or.inr (Or.inl (by omega))))))) | exact Or.inr (Or.inr (Or.inr (Or.inr (Or.inr (Or.inr (Or.inr (Or.inl (by omega)))))))) | exact Or.inr (Or.inr (Or.inr (Or.inr (Or.inr (Or.inr (Or.inr (Or.inr ((by omega))))))))) | omega⟩⟩
    · exact fz_zret kX10_isMendable rfl rfl (by omega) ⟨rfl, _, rfl, Or.inr ⟨rfl, by exact fun z => (by rcases z with z | z | z | z | z | z | z | z | z <;> omega)⟩⟩
  · refine fz_tswC (j := 6) (tgt := 79) kX10_isMendable rfl c4 (by decide) (by decide) rfl (by decide) ?_
    refine fz_iload_n kX10_isMendable rfl rfl ?_
    refine fz_if_lt (tgt := 92) kX10_isMendable rfl (by decide) (fun c53 => ?_) (fun c53 => ?_)
    · refine fz_iconst ⟨by decide, by decide⟩ kX10_isMendable rfl ?_
      exact fz_zret kX10_isMendable rfl rfl (by omega) ⟨rfl, _, rfl, Or.inr ⟨rfl, by exact fun z => (by rcases z with z | z | z | z | z | z | z | z | z <;> omega)⟩⟩
    · refine fz_iload_n kX10_isMendable rfl rfl ?_
      refine fz_iconst ⟨by decide, by decide⟩ kX10_isMendable rfl ?_
      refine fz_icmp_ge (tgt := 92) kX10_isMendable rfl (by decide) (fun c54 => ?_) (fun c54 => ?_)
      · refine fz_iconst ⟨by decide, by decide⟩ kX10_isMendable rfl ?_
        exact fz_zret kX10_isMendable rfl rfl (by omega) ⟨rfl, _, rfl, Or.inr ⟨rfl, by exact fun z => (by rcases z with z | z | z | z | z | z | z | z | z <;> omega)⟩⟩
      · refine fz_iconst ⟨by decide, by decide⟩ kX10_isMendable rfl ?_
        refine fz_goto (tgt := 93) kX10_isMendable rfl (by decide) ?_
        exact fz_zret kX10_isMendable rfl rfl (by omega) ⟨rfl, _, rfl, Or.inl ⟨rfl, by first | exact Or.inl (by omega) | exact Or.inr (Or.inl (by omega)) | exact Or.inr (Or.inr (Or.inl (by omega))) | exact Or.inr (Or.inr (Or.inr (Or.inl (by omega)))) | exact Or.inr (Or.inr (Or.inr (Or.inr (Or.inl (by omega))))) | exact Or.inr (Or.inr (Or.inr (Or.inr (Or.inr (Or.inl (by omega)))))) | exact Or.inr (Or.inr (Or.inr (Or.inr (Or.inr (Or.inr (Or.inl (by omega))))))) | exact Or.inr (Or.inr (Or.inr (Or.inr (Or.inr (Or.inr (Or.inr (Or.inl (by omega)))))))) | exact Or.inr (Or.inr (Or.inr (Or.inr (Or.inr (Or.inr (Or.inr (Or.inr ((by omega))))))))) | omega⟩⟩
  · refine fz_tswC (j := 7) (tgt := 94) kX10_isMendable rfl c4 (by decide) (by decide) rfl (by decide) ?_
    refine fz_iload_n kX10_isMendable rfl rfl ?_
    refine fz_if_ne (tgt := 102) kX10_isMendable rfl (by decide) (fun c55 => ?_) (fun c55 => ?_)
    · refine fz_iconst ⟨by decide, by decide⟩ kX10_isMendable rfl ?_
      exact fz_zret kX10_isMendable rfl rfl (by omega) ⟨rfl, _, rfl, Or.inr ⟨rfl, by exact fun z => (by rcases z with z | z | z | z | z | z | z | z | z <;> omega)⟩⟩
    · refine fz_iconst ⟨by decide, by decide⟩ kX10_isMendable rfl ?_
      refine fz_goto (tgt := 103) kX10_isMendable rfl (by decide) ?_
      exact fz_zret kX10_isMendable rfl rfl (by omega) ⟨rfl, _, rfl, Or.inl ⟨rfl, by first | exact Or.inl (by omega) | exact Or.inr (Or.inl (by omega)) | exact Or.inr (Or.inr (Or.inl (by omega))) | exact Or.inr (Or.inr (Or.inr (Or.inl (by omega)))) | exact Or.inr (Or.inr (Or.inr (Or.inr (Or.inl (by omega))))) | exact Or.inr (Or.inr (Or.inr (Or.inr (Or.inr (Or.inl (by omega)))))) | exact Or.inr (Or.inr (Or.inr (Or.inr (Or.inr (Or.inr (Or.inl (by omega))))))) | exact Or.inr (Or.inr (Or.inr (Or.inr (Or.inr (Or.inr (Or.inr (Or.inl (by omega)))))))) | exact Or.inr (Or.inr (Or.inr (Or.inr (Or.inr (Or.inr (Or.inr (Or.inr ((by omega))))))))) | omega⟩⟩
  · refine fz_tswC (j := 8) (tgt := 94) kX10_isMendable rfl c4 (by decide) (by decide) rfl (by decide) ?_
    refine fz_iload_n kX10_isMendable rfl rfl ?_
    refine fz_if_ne (tgt := 102) kX10_isMendable rfl (by decide) (fun c56 => ?_) (fun c56 => ?_)
    · refine fz_iconst ⟨by decide, by decide⟩ kX10_isMendable rfl ?_
      exact fz_zret kX10_isMendable rfl rfl (by omega) ⟨rfl, _, rfl, Or.inr ⟨rfl, by exact fun z => (by rcases z with z | z | z | z | z | z | z | z | z <;> omega)⟩⟩
    · refine fz_iconst ⟨by decide, by decide⟩ kX10_isMendable rfl ?_
      refine fz_goto (tgt := 103) kX10_isMendable rfl (by decide) ?_
      exact fz_zret kX10_isMendable rfl rfl (by omega) ⟨rfl, _, rfl, Or.inl ⟨rfl, by first | exact Or.inl (by omega) | exact Or.inr (Or.inl (by omega)) | exact Or.inr (Or.inr (Or.inl (by omega))) | exact Or.inr (Or.inr (Or.inr (Or.inl (by omega)))) | exact Or.inr (Or.inr (Or.inr (Or.inr (Or.inl (by omega))))) | exact Or.inr (Or.inr (Or.inr (Or.inr (Or.inr (Or.inl (by omega)))))) | exact Or.inr (Or.inr (Or.inr (Or.inr (Or.inr (Or.inr (Or.inl (by omega))))))) | exact Or.inr (Or.inr (Or.inr (Or.inr (Or.inr (Or.inr (Or.inr (Or.inl (by omega)))))))) | exact Or.inr (Or.inr (Or.inr (Or.inr (Or.inr (Or.inr (Or.inr (Or.inr ((by omega))))))))) | omega⟩⟩
  · refine fz_tswO (tgt := 104) kX10_isMendable rfl c4 (by decide) ?_
    refine fz_iconst ⟨by decide, by decide⟩ kX10_isMendable rfl ?_
    exact fz_zret kX10_isMendable rfl rfl (by omega) ⟨rfl, _, rfl, Or.inr ⟨rfl, by exact fun z => (by rcases z with z | z | z | z | z | z | z | z | z <;> omega)⟩⟩

abbrev qX10_town (h : fz_H) (df : Int) : fz_H → Option fz_V → Prop := fun h' r0 => fz_Iv h' ∧ fz_fr [(1, 7), (2, 99999), (7, 99999), (8, 99999)] h h' ∧ fz_RE h' ∧ fz_RV h' ∧ ∃ r : Int, r0 = some (fz_i r) ∧ ((-3) ≤ r ∧ r ≤ 7) ∧ (((0 ≤ df ∧ df ≤ 9) ∧ h 1 7 < 8 ∧ r = h 1 7 ∧ h' 1 7 = h 1 7 + 1) ∨ ((0 ≤ df ∧ df ≤ 9) ∧ 8 ≤ h 1 7 ∧ r = -3 ∧ h' 1 7 = h 1 7) ∨ (¬ (0 ≤ df ∧ df ≤ 9) ∧ r = -1 ∧ h' 1 7 = h 1 7)) ∧ (fz_tC h h' df)
set_option maxHeartbeats 1000000 in
set_option maxRecDepth 100000 in
theorem sX10_town (h : fz_H) (hI : fz_Iv h) (df : Int) (hRE : fz_RE h) (hRV : fz_RV h) : fz_R 4 mX10_town 0 [(0, fz_r 0), (1, fz_i df)] [] h (qX10_town h df) := by
  refine fz_knowl (fun hk => ?_)
  have hr_df : -2147483648 ≤ df ∧ df < 2147483648 := hk _ (List.Mem.tail _ (List.Mem.head _))
  clear hk
  have hf : fz_fr [(1, 7), (2, 99999), (7, 99999), (8, 99999)] h h := fz_fr_rf
  have b1 : 0 ≤ h 1 7 ∧ h 1 7 ≤ 8 := hI.1 1 _
  refine fz_iload_n kX10_town rfl rfl ?_
  refine fz_gets kX10_town rfl ?_
  refine fz_iconst ⟨by decide, by decide⟩ kX10_town rfl ?_
  refine fz_taldV (v := 0) kX10_town rfl ⟨by decide, by decide⟩ (by omega) (by rw [hI.2.1]; decide) (by rw [hI.2.1]; rfl) ?_
  refine fz_icmp_lt (tgt := 18) kX10_town rfl (by decide) (fun c4 => ?_) (fun c4 => ?_)
  · refine fz_iconst ⟨by decide, by decide⟩ kX10_town rfl ?_
    exact fz_iret kX10_town rfl rfl (fun _ => ⟨hI, hf, hRE, hRV, _, rfl, (by omega), (by omega), (by first | exact Or.inl ⟨by omega, lost⟩ | exact Or.inr ⟨by omega, rfl⟩)⟩)
  · refine fz_iload_n kX10_town rfl rfl ?_
    refine fz_gets kX10_town rfl ?_
    refine fz_iconst ⟨by decide, by decide⟩ kX10_town rfl ?_
    refine fz_taldV (v := 9) kX10_town rfl ⟨by decide, by decide⟩ (by omega) (by rw [hI.2.2.1]; decide) (by rw [hI.2.2.1]; rfl) ?_
    refine fz_icmp_le (tgt := 20) kX10_town rfl (by decide) (fun c8 => ?_) (fun c8 => ?_)
    · refine fz_aload_n kX10_town rfl rfl ?_
      refine fz_getR (t := 1) kX10_town rfl rfl ?_
      refine fz_iload_n kX10_town rfl rfl ?_
      refine fz_callV (d' := 3) (M' := mX2_addTown) (As := [fz_i df]) (st := []) kX10_town rfl rfl vX2_addTown rfl rfl rfl rfl (Nat.le_of_ble_eq_true rfl) (Nat.le_of_ble_eq_true rfl) (by decide) (sX2_addTown h hI df hRE hRV (by omega)) (fun H9 r10 q11 o12 => ?_)
      obtain ⟨hI13, hf14, hRE15, hRV16, y20, rfl, f17, f18, f19⟩ := q11
      clear o12
      have hf21 := fz_fr_tr hf hf14 (show fz_su [(1, 7), (2, 99999), (7, 99999), (8, 99999)] [(1, 7), (2, 99999), (7, 99999), (8, 99999)] = true from rfl)
      exact fz_iret kX10_town rfl rfl (fun _ => ⟨hI13, hf21, hRE15, hRV16, _, rfl, (by omega), (by omega), (by first | exact Or.inl ⟨by omega, f19⟩ | exact Or.inr ⟨by omega, rfl⟩)⟩)
    · refine fz_iconst ⟨by decide, by decide⟩ kX10_town rfl ?_
      exact fz_iret kX10_town rfl rfl (fun _ => ⟨hI, hf, hRE, hRV, _, rfl, (by omega), (by omega), (by first | exact Or.inl ⟨by omega, lost⟩ | exact Or.inr ⟨by omega, rfl⟩)⟩)

abbrev qX10_road (h : fz_H) (ab ln : Int) : fz_H → Option fz_V → Prop := fun h' r0 => fz_Iv h' ∧ fz_fr [(1, 8), (3, 99999), (4, 99999), (5, 99999), (6, 99999), (7, 99999), (8, 99999)] h h' ∧ fz_RE h' ∧ fz_RV h' ∧ ∃ r : Int, r0 = some (fz_i r) ∧ ((-3) ≤ r ∧ r ≤ 11) ∧ (((0 ≤ ab ∧ ab / 10 < h 1 7 ∧ ab % 10 < h 1 7 ∧ ab / 10 ≠ ab % 10 ∧ 1 ≤ ln ∧ ln ≤ 24) ∧ h 1 8 < 12 ∧ r = h 1 8 ∧ h' 1 8 = h 1 8 + 1) ∨ ((0 ≤ ab ∧ ab / 10 < h 1 7 ∧ ab % 10 < h 1 7 ∧ ab / 10 ≠ ab % 10 ∧ 1 ≤ ln ∧ ln ≤ 24) ∧ 12 ≤ h 1 8 ∧ r = -3 ∧ h' 1 8 = h 1 8) ∨ (¬ (0 ≤ ab ∧ ab / 10 < h 1 7 ∧ ab % 10 < h 1 7 ∧ ab / 10 ≠ ab % 10 ∧ 1 ≤ ln ∧ ln ≤ 24) ∧ r = -1 ∧ h' 1 8 = h 1 8)) ∧ (fz_roC h h' ab ln)
set_option maxHeartbeats 1000000 in
set_option maxRecDepth 100000 in
theorem sX10_road (h : fz_H) (hI : fz_Iv h) (ab ln : Int) (hRE : fz_RE h) (hRV : fz_RV h) : fz_R 4 mX10_road 0 [(0, fz_r 0), (1, fz_i ab), (2, fz_i ln)] [] h (qX10_road h ab ln) := by
  refine fz_knowl (fun hk => ?_)
  have hr_ab : -2147483648 ≤ ab ∧ ab < 2147483648 := hk _ (List.Mem.tail _ (List.Mem.head _))
  have hr_ln : -2147483648 ≤ ln ∧ ln < 2147483648 := hk _ (List.Mem.tail _ (List.Mem.tail _ (List.Mem.head _)))
  clear hk
  have hf : fz_fr [(1, 8), (3, 99999), (4, 99999), (5, 99999), (6, 99999), (7, 99999), (8, 99999)] h h := fz_fr_rf
  have b1 : 0 ≤ h 1 7 ∧ h 1 7 ≤ 8 := hI.1 1 _
  have b2 : 0 ≤ h 1 8 ∧ h 1 8 ≤ 12 := hI.1 1 _
  refine fz_aload_n kX10_road rfl rfl ?_
  refine fz_iload_n kX10_road rfl rfl ?_
  refine fz_callV (d' := 1) (M' := mX10_arePair) (As := [fz_i ab]) (st := []) kX10_road rfl rfl vX10_arePair rfl rfl rfl rfl (Nat.le_of_ble_eq_true rfl) (Nat.le_of_ble_eq_true rfl) (by decide) (sX10_arePair h hI ab ) (fun H3 r4 q5 o6 => ?_)
  obtain ⟨e7, y8, rfl, p9⟩ := q5
  subst H3
  clear o6
  rcases p9 with ⟨rfl, c10⟩ | ⟨rfl, c10⟩
  · refine fz_if_eq (tgt := 37) kX10_road rfl (by decide) (fun c11 => ?_) (fun c11 => ?_)
    · exfalso; omega
    · refine fz_iload_n kX10_road rfl rfl ?_
      refine fz_bipush ⟨by decide, by decide⟩ kX10_road rfl ?_
      refine fz_idivN kX10_road rfl (by omega) (by omega) (by omega) ?_
      refine fz_iload_n kX10_road rfl rfl ?_
      refine fz_bipush ⟨by decide, by decide⟩ kX10_road rfl ?_
      refine fz_iremN kX10_road rfl (by omega) (by omega) (by omega) ?_
      refine fz_icmp_eq (tgt := 37) kX10_road rfl (by decide) (fun c12 => ?_) (fun c12 => ?_)
      · refine fz_iconst ⟨by decide, by decide⟩ kX10_road rfl ?_
        exact fz_iret kX10_road rfl rfl (fun _ => ⟨hI, hf, hRE, hRV, _, rfl, (by omega), (by omega), (by first | exact Or.inl ⟨(by unfold fz_rdC; omega), lost⟩ | exact Or.inr ⟨(by unfold fz_rdC; omega), rfl⟩)⟩)
      · refine fz_iload_n kX10_road rfl rfl ?_
        refine fz_gets kX10_road rfl ?_
        refine fz_iconst ⟨by decide, by decide⟩ kX10_road rfl ?_
        refine fz_taldV (v := 1) kX10_road rfl ⟨by decide, by decide⟩ (by omega) (by rw [hI.2.1]; decide) (by rw [hI.2.1]; rfl) ?_
        refine fz_icmp_lt (tgt := 37) kX10_road rfl (by decide) (fun c16 => ?_) (fun c16 => ?_)
        · refine fz_iconst ⟨by decide, by decide⟩ kX10_road rfl ?_
          exact fz_iret kX10_road rfl rfl (fun _ => ⟨hI, hf, hRE, hRV, _, rfl, (by omega), (by omega), (by first | exact Or.inl ⟨(by unfold fz_rdC; omega), lost⟩ | exact Or.inr ⟨(by unfold fz_rdC; omega), rfl⟩)⟩)
        · refine fz_iload_n kX10_road rfl rfl ?_
          refine fz_gets kX10_road rfl ?_
          refine fz_iconst ⟨by decide, by decide⟩ kX10_road rfl ?_
          refine fz_taldV (v := 24) kX10_road rfl ⟨by decide, by decide⟩ (by omega) (by rw [hI.2.2.1]; decide) (by rw [hI.2.2.1]; rfl) ?_
          refine fz_icmp_le (tgt := 39) kX10_road rfl (by decide) (fun c20 => ?_) (fun c20 => ?_)
          · refine fz_aload_n kX10_road rfl rfl ?_
            refine fz_getR (t := 1) kX10_road rfl rfl ?_
            refine fz_iload_n kX10_road rfl rfl ?_
            refine fz_bipush ⟨by decide, by decide⟩ kX10_road rfl ?_
            refine fz_idivN kX10_road rfl (by omega) (by omega) (by omega) ?_
            refine fz_iload_n kX10_road rfl rfl ?_
            refine fz_bipush ⟨by decide, by decide⟩ kX10_road rfl ?_
            refine fz_iremN kX10_road rfl (by omega) (by omega) (by omega) ?_
            refine fz_iload_n kX10_road rfl rfl ?_
            refine fz_callV (d' := 3) (M' := mX2_addRoad) (As := [fz_i (ab / 10), fz_i (ab % 10), fz_i ln]) (st := []) kX10_road rfl rfl vX2_addRoad rfl rfl rfl rfl (Nat.le_of_ble_eq_true rfl) (Nat.le_of_ble_eq_true rfl) (by decide) (sX2_addRoad h hI (ab / 10) (ab % 10) ln hRE hRV (by omega) (by omega) (by omega) (by omega)) (fun H21 r22 q23 o24 => ?_)
            obtain ⟨hI25, hf26, hRE27, hRV28, y32, rfl, f29, f30, f31⟩ := q23
            clear o24
            have hf33 := fz_fr_tr hf hf26 (show fz_su [(1, 8), (3, 99999), (4, 99999), (5, 99999), (6, 99999), (7, 99999), (8, 99999)] [(1, 8), (3, 99999), (4, 99999), (5, 99999), (6, 99999), (7, 99999), (8, 99999)] = true from rfl)
            exact fz_iret kX10_road rfl rfl (fun _ => ⟨hI25, hf33, hRE27, hRV28, _, rfl, (by omega), (by omega), (by first | exact Or.inl ⟨(by unfold fz_rdC; omega), f31⟩ | exact Or.inr ⟨(by unfold fz_rdC; omega), rfl⟩)⟩)
          · refine fz_iconst ⟨by decide, by decide⟩ kX10_road rfl ?_
            exact fz_iret kX10_road rfl rfl (fun _ => ⟨hI, hf, hRE, hRV, _, rfl, (by omega), (by omega), (by first | exact Or.inl ⟨(by unfold fz_rdC; omega), lost⟩ | exact Or.inr ⟨(by unfold fz_rdC; omega), rfl⟩)⟩)
  · refine fz_if_eq (tgt := 37) kX10_road rfl (by decide) (fun c36 => ?_) (fun c36 => ?_)
    · refine fz_iconst ⟨by decide, by decide⟩ kX10_road rfl ?_
      exact fz_iret kX10_road rfl rfl (fun _ => ⟨hI, hf, hRE, hRV, _, rfl, (by omega), (by omega), (by first | exact Or.inl ⟨(by unfold fz_rdC; omega), lost⟩ | exact Or.inr ⟨(by unfold fz_rdC; omega), rfl⟩)⟩)
    · exfalso; omega

abbrev qX10_deed (h : fz_H) (pm th wt : Int) : fz_H → Option fz_V → Prop := fun h' r0 => fz_Iv h' ∧ fz_fr [(9, 5), (10, 99999), (11, 99999), (12, 99999), (13, 99999), (14, 99999)] h h' ∧ ∃ r : Int, r0 = some (fz_i r) ∧ ((-3) ≤ r ∧ r ≤ 9) ∧ (((0 ≤ pm ∧ pm ≤ 39 ∧ pm % 10 < 5 ∧ 0 ≤ th ∧ th / 1000 < h 1 7 ∧ 1 ≤ wt ∧ wt ≤ 9) ∧ h 9 5 < 10 ∧ r = h 9 5 ∧ h' 9 5 = h 9 5 + 1) ∨ ((0 ≤ pm ∧ pm ≤ 39 ∧ pm % 10 < 5 ∧ 0 ≤ th ∧ th / 1000 < h 1 7 ∧ 1 ≤ wt ∧ wt ≤ 9) ∧ 10 ≤ h 9 5 ∧ r = -3 ∧ h' 9 5 = h 9 5) ∨ (¬ (0 ≤ pm ∧ pm ≤ 39 ∧ pm % 10 < 5 ∧ 0 ≤ th ∧ th / 1000 < h 1 7 ∧ 1 ≤ wt ∧ wt ≤ 9) ∧ r = -1 ∧ h' 9 5 = h 9 5)) ∧ (fz_apC h h' (h' 9 5 - h 9 5) (fun _ => (pm / 10, th / 1000, th % 1000, pm % 10, wt)))
set_option maxHeartbeats 1000000 in
set_option maxRecDepth 100000 in
theorem sX10_deed (h : fz_H) (hI : fz_Iv h) (pm th wt : Int) : fz_R 2 mX10_deed 0 [(0, fz_r 0), (1, fz_i pm), (2, fz_i th), (3, fz_i wt)] [] h (qX10_deed h pm th wt) := by
  refine fz_knowl (fun hk => ?_)
  have hr_pm : -2147483648 ≤ pm ∧ pm < 2147483648 := hk _ (List.Mem.tail _ (List.Mem.head _))
  have hr_th : -2147483648 ≤ th ∧ th < 2147483648 := hk _ (List.Mem.tail _ (List.Mem.tail _ (List.Mem.head _)))
  have hr_wt : -2147483648 ≤ wt ∧ wt < 2147483648 := hk _ (List.Mem.tail _ (List.Mem.tail _ (List.Mem.tail _ (List.Mem.head _))))
  clear hk
  have hf : fz_fr [(9, 5), (10, 99999), (11, 99999), (12, 99999), (13, 99999), (14, 99999)] h h := fz_fr_rf
  have b1 : 0 ≤ h 1 7 ∧ h 1 7 ≤ 8 := hI.1 1 _
  have b2 : 0 ≤ h 9 5 ∧ h 9 5 ≤ 10 := hI.1 9 _
  refine fz_aload_n kX10_deed rfl rfl ?_
  refine fz_iload_n kX10_deed rfl rfl ?_
  refine fz_callV (d' := 1) (M' := mX10_isMarkOfOne) (As := [fz_i pm]) (st := []) kX10_deed rfl rfl vX10_isMarkOfOne rfl rfl rfl rfl (Nat.le_of_ble_eq_true rfl) (Nat.le_of_ble_eq_true rfl) (by decide) (sX10_isMarkOfOne h hI pm ) (fun H3 r4 q5 o6 => ?_)
  obtain ⟨e7, y8, rfl, p9⟩ := q5
  subst H3
  clear o6
  rcases p9 with ⟨rfl, c10⟩ | ⟨rfl, c10⟩
  · refine fz_if_eq (tgt := 24) kX10_deed rfl (by decide) (fun c11 => ?_) (fun c11 => ?_)
    · exfalso; omega
    · refine fz_aload_n kX10_deed rfl rfl ?_
      refine fz_iload_n kX10_deed rfl rfl ?_
      refine fz_callV (d' := 1) (M' := mX10_isTownAndHour) (As := [fz_i th]) (st := []) kX10_deed rfl rfl vX10_isTownAndHour rfl rfl rfl rfl (Nat.le_of_ble_eq_true rfl) (Nat.le_of_ble_eq_true rfl) (by decide) (sX10_isTownAndHour h hI th ) (fun H12 r13 q14 o15 => ?_)
      obtain ⟨e16, y17, rfl, p18⟩ := q14
      subst H12
      clear o15
      rcases p18 with ⟨rfl, c19⟩ | ⟨rfl, c19⟩
      · refine fz_if_eq (tgt := 24) kX10_deed rfl (by decide) (fun c20 => ?_) (fun c20 => ?_)
        · exfalso; omega
        · refine fz_aload_n kX10_deed rfl rfl ?_
          refine fz_iload_n kX10_deed rfl rfl ?_
          refine fz_callV (d' := 0) (M' := mX10_isWeight) (As := [fz_i wt]) (st := []) kX10_deed rfl rfl vX10_isWeight rfl rfl rfl rfl (Nat.le_of_ble_eq_true rfl) (Nat.le_of_ble_eq_true rfl) (by decide) (sX10_isWeight h hI wt ) (fun H21 r22 q23 o24 => ?_)
          obtain ⟨e25, y26, rfl, p27⟩ := q23
          subst H21
          clear o24
          rcases p27 with ⟨rfl, c28⟩ | ⟨rfl, c28⟩
          · refine fz_if_ne (tgt := 26) kX10_deed rfl (by decide) (fun c29 => ?_) (fun c29 => ?_)
            · refine fz_aload_n kX10_deed rfl rfl ?_
              refine fz_getR (t := 9) kX10_deed rfl rfl ?_
              refine fz_iload_n kX10_deed rfl rfl ?_
              refine fz_bipush ⟨by decide, by decide⟩ kX10_deed rfl ?_
              refine fz_idivN kX10_deed rfl (by omega) (by omega) (by omega) ?_
              refine fz_iload_n kX10_deed rfl rfl ?_
              refine fz_sipush ⟨by decide, by decide⟩ kX10_deed rfl ?_
              refine fz_idivN kX10_deed rfl (by omega) (by omega) (by omega) ?_
              refine fz_iload_n kX10_deed rfl rfl ?_
              refine fz_sipush ⟨by decide, by decide⟩ kX10_deed rfl ?_
              refine fz_iremN kX10_deed rfl (by omega) (by omega) (by omega) ?_
              refine fz_iload_n kX10_deed rfl rfl ?_
              refine fz_bipush ⟨by decide, by decide⟩ kX10_deed rfl ?_
              refine fz_iremN kX10_deed rfl (by omega) (by omega) (by omega) ?_
              refine fz_iload_n kX10_deed rfl rfl ?_
              refine fz_callV (d' := 1) (M' := mX4_enter) (As := [fz_i (pm / 10), fz_i (th / 1000), fz_i (th % 1000), fz_i (pm % 10), fz_i wt]) (st := []) kX10_deed rfl rfl vX4_enter rfl rfl rfl rfl (Nat.le_of_ble_eq_true rfl) (Nat.le_of_ble_eq_true rfl) (by decide) (sX4_enter h hI (pm / 10) (th / 1000) (th % 1000) (pm % 10) wt (by omega) (by omega) (by omega) (by omega) (by omega)) (fun H30 r31 q32 o33 => ?_)
              obtain ⟨hI34, hf35, y39, rfl, f36, f37, f38⟩ := q32
              clear o33
              have hf40 := fz_fr_tr hf hf35 (show fz_su [(9, 5), (10, 99999), (11, 99999), (12, 99999), (13, 99999), (14, 99999)] [(9, 5), (10, 99999), (11, 99999), (12, 99999), (13, 99999), (14, 99999)] = true from rfl)
              exact fz_iret kX10_deed rfl rfl (fun _ => ⟨hI34, hf40, _, rfl, (by omega), (by omega), (by first | exact f38 | exact fz_apC_z (by omega))⟩)
            · exfalso; omega
          · refine fz_if_ne (tgt := 26) kX10_deed rfl (by decide) (fun c42 => ?_) (fun c42 => ?_)
            · exfalso; omega
            · refine fz_iconst ⟨by decide, by decide⟩ kX10_deed rfl ?_
              exact fz_iret kX10_deed rfl rfl (fun _ => ⟨hI, hf, _, rfl, (by omega), (by omega), (by first | exact lost | exact fz_apC_z (by omega))⟩)
      · refine fz_if_eq (tgt := 24) kX10_deed rfl (by decide) (fun c44 => ?_) (fun c44 => ?_)
        · refine fz_iconst ⟨by decide, by decide⟩ kX10_deed rfl ?_
          exact fz_iret kX10_deed rfl rfl (fun _ => ⟨hI, hf, _, rfl, (by omega), (by omega), (by first | exact lost | exact fz_apC_z (by omega))⟩)
        · exfalso; omega
  · refine fz_if_eq (tgt := 24) kX10_deed rfl (by decide) (fun c46 => ?_) (fun c46 => ?_)
    · refine fz_iconst ⟨by decide, by decide⟩ kX10_deed rfl ?_
      exact fz_iret kX10_deed rfl rfl (fun _ => ⟨hI, hf, _, rfl, (by omega), (by omega), (by first | exact lost | exact fz_apC_z (by omega))⟩)
    · exfalso; omega

abbrev qX10_enterFive (h : fz_H) (s i : Int) : fz_H → Option fz_V → Prop := fun h' r0 => fz_Iv h' ∧ fz_fr [(9, 5), (10, 99999), (11, 99999), (12, 99999), (13, 99999), (14, 99999)] h h' ∧ ∃ r : Int, r0 = some (fz_i r) ∧ (r = 0 ∨ r = 1) ∧ ((r = 1 ∧ h' 9 5 = h 9 5 + 1) ∨ (r = 0 ∧ h' 9 5 = h 9 5)) ∧ (fz_e5 h s i r) ∧ (fz_apC h h' r (fun _ => fz_row5 (h 52) (60 * s + i)))
set_option maxHeartbeats 1000000 in
set_option maxRecDepth 100000 in
theorem sX10_enterFive (h : fz_H) (hI : fz_Iv h) (s i : Int) (hp0 : 0 ≤ s ∧ s < 6) (hp1 : h 48 s.toNat = 2) : fz_R 2 mX10_enterFive 0 [(0, fz_r 0), (1, fz_i s), (2, fz_i i)] [] h (qX10_enterFive h s i) := by
  refine fz_knowl (fun hk => ?_)
  have hr_s : -2147483648 ≤ s ∧ s < 2147483648 := hk _ (List.Mem.tail _ (List.Mem.head _))
  have hr_i : -2147483648 ≤ i ∧ i < 2147483648 := hk _ (List.Mem.tail _ (List.Mem.tail _ (List.Mem.head _)))
  clear hk
  have hf : fz_fr [(9, 5), (10, 99999), (11, 99999), (12, 99999), (13, 99999), (14, 99999)] h h := fz_fr_rf
  have b1 : 0 ≤ h 9 5 ∧ h 9 5 ≤ 10 := hI.1 9 _
  have k2 : 0 ≤ h 51 s.toNat ∧ h 51 s.toNat ≤ 60 := hI.1 51 _
  refine fz_aload_n kX10_enterFive rfl rfl ?_
  refine fz_getR (t := 47) kX10_enterFive rfl rfl ?_
  refine fz_iload_n kX10_enterFive rfl rfl ?_
  refine fz_iload_n kX10_enterFive rfl rfl ?_
  refine fz_iconst ⟨by decide, by decide⟩ kX10_enterFive rfl ?_
  refine fz_callV (d' := 1) (M' := mX7_hasPlaces) (As := [fz_i s, fz_i i, fz_i 5]) (st := []) kX10_enterFive rfl rfl vX7_hasPlaces rfl rfl rfl rfl (Nat.le_of_ble_eq_true rfl) (Nat.le_of_ble_eq_true rfl) (by decide) (sX7_hasPlaces h hI s i 5 (by omega)) (fun H3 r4 q5 o6 => ?_)
  obtain ⟨e7, y8, rfl, p9⟩ := q5
  subst H3
  clear o6
  rcases p9 with ⟨rfl, c10⟩ | ⟨rfl, c10⟩
  · refine fz_if_ne (tgt := 15) kX10_enterFive rfl (by decide) (fun c11 => ?_) (fun c11 => ?_)
    · refine fz_aload_n kX10_enterFive rfl rfl ?_
      refine fz_getR (t := 47) kX10_enterFive rfl rfl ?_
      refine fz_iload_n kX10_enterFive rfl rfl ?_
      refine fz_iload_n kX10_enterFive rfl rfl ?_
      refine fz_callV (d' := 0) (M' := mX7_get) (As := [fz_i s, fz_i i]) (st := []) kX10_enterFive rfl rfl vX7_get rfl rfl rfl rfl (Nat.le_of_ble_eq_true rfl) (Nat.le_of_ble_eq_true rfl) (by decide) (sX7_get h hI s i (by omega) (by omega)) (fun H12 r13 q14 o15 => ?_)
      obtain ⟨e16, y19, rfl, f17, f18⟩ := q14
      subst H12
      clear o15
      refine fz_l2i kX10_enterFive rfl ?_
      have b20 : -2147483648 ≤ (fz_w y19) ∧ (fz_w y19) < 2147483648 := fz_w_b _
      have k21 : (fz_w y19) = fz_w (h 52 (60 * s + i).toNat) := congrArg fz_w (f18.trans (congrArg (fun z : Int => h 52 z.toNat) (by omega)))
      refine fz_istore_n (ls' := [(3, fz_i (fz_w y19)), (0, fz_r 0), (1, fz_i s), (2, fz_i i)]) kX10_enterFive rfl (by decide) rfl ?_
      refine fz_aload_n kX10_enterFive rfl rfl ?_
      refine fz_getR (t := 47) kX10_enterFive rfl rfl ?_
      refine fz_iload_n kX10_enterFive rfl rfl ?_
      refine fz_iload_n kX10_enterFive rfl rfl ?_
      refine fz_iconst ⟨by decide, by decide⟩ kX10_enterFive rfl ?_
      refine fz_iaddN kX10_enterFive rfl (by omega) ?_
      refine fz_callV (d' := 0) (M' := mX7_get) (As := [fz_i s, fz_i (i + 1)]) (st := []) kX10_enterFive rfl rfl vX7_get rfl rfl rfl rfl (Nat.le_of_ble_eq_true rfl) (Nat.le_of_ble_eq_true rfl) (by decide) (sX7_get h hI s (i + 1) (by omega) (by omega)) (fun H23 r24 q25 o26 => ?_)
      obtain ⟨e27, y30, rfl, f28, f29⟩ := q25
      subst H23
      clear o26
      refine fz_l2i kX10_enterFive rfl ?_
      have b31 : -2147483648 ≤ (fz_w y30) ∧ (fz_w y30) < 2147483648 := fz_w_b _
      have k32 : (fz_w y30) = fz_w (h 52 (60 * s + i + 1).toNat) := congrArg fz_w (f29.trans (congrArg (fun z : Int => h 52 z.toNat) (by omega)))
      refine fz_istore (ls' := [(4, fz_i (fz_w y30)), (3, fz_i (fz_w y19)), (0, fz_r 0), (1, fz_i s), (2, fz_i i)]) kX10_enterFive rfl (by decide) rfl ?_
      refine fz_aload_n kX10_enterFive rfl rfl ?_
      refine fz_getR (t := 47) kX10_enterFive rfl rfl ?_
      refine fz_iload_n kX10_enterFive rfl rfl ?_
      refine fz_iload_n kX10_enterFive rfl rfl ?_
      refine fz_iconst ⟨by decide, by decide⟩ kX10_enterFive rfl ?_
      refine fz_iaddN kX10_enterFive rfl (by omega) ?_
      refine fz_callV (d' := 0) (M' := mX7_get) (As := [fz_i s, fz_i (i + 2)]) (st := []) kX10_enterFive rfl rfl vX7_get rfl rfl rfl rfl (Nat.le_of_ble_eq_true rfl) (Nat.le_of_ble_eq_true rfl) (by decide) (sX7_get h hI s (i + 2) (by omega) (by omega)) (fun H34 r35 q36 o37 => ?_)
      obtain ⟨e38, y41, rfl, f39, f40⟩ := q36
      subst H34
      clear o37
      refine fz_l2i kX10_enterFive rfl ?_
      have b42 : -2147483648 ≤ (fz_w y41) ∧ (fz_w y41) < 2147483648 := fz_w_b _
      have k43 : (fz_w y41) = fz_w (h 52 (60 * s + i + 2).toNat) := congrArg fz_w (f40.trans (congrArg (fun z : Int => h 52 z.toNat) (by omega)))
      refine fz_istore (ls' := [(5, fz_i (fz_w y41)), (4, fz_i (fz_w y30)), (3, fz_i (fz_w y19)), (0, fz_r 0), (1, fz_i s), (2, fz_i i)]) kX10_enterFive rfl (by decide) rfl ?_
      refine fz_aload_n kX10_enterFive rfl rfl ?_
      refine fz_getR (t := 47) kX10_enterFive rfl rfl ?_
      refine fz_iload_n kX10_enterFive rfl rfl ?_
      refine fz_iload_n kX10_enterFive rfl rfl ?_
      refine fz_iconst ⟨by decide, by decide⟩ kX10_enterFive rfl ?_
      refine fz_iaddN kX10_enterFive rfl (by omega) ?_
      refine fz_callV (d' := 0) (M' := mX7_get) (As := [fz_i s, fz_i (i + 3)]) (st := []) kX10_enterFive rfl rfl vX7_get rfl rfl rfl rfl (Nat.le_of_ble_eq_true rfl) (Nat.le_of_ble_eq_true rfl) (by decide) (sX7_get h hI s (i + 3) (by omega) (by omega)) (fun H45 r46 q47 o48 => ?_)
      obtain ⟨e49, y52, rfl, f50, f51⟩ := q47
      subst H45
      clear o48
      refine fz_l2i kX10_enterFive rfl ?_
      have b53 : -2147483648 ≤ (fz_w y52) ∧ (fz_w y52) < 2147483648 := fz_w_b _
      have k54 : (fz_w y52) = fz_w (h 52 (60 * s + i + 3).toNat) := congrArg fz_w (f51.trans (congrArg (fun z : Int => h 52 z.toNat) (by omega)))
      refine fz_istore (ls' := [(6, fz_i (fz_w y52)), (5, fz_i (fz_w y41)), (4, fz_i (fz_w y30)), (3, fz_i (fz_w y19)), (0, fz_r 0), (1, fz_i s), (2, fz_i i)]) kX10_enterFive rfl (by decide) rfl ?_
      refine fz_aload_n kX10_enterFive rfl rfl ?_
      refine fz_getR (t := 47) kX10_enterFive rfl rfl ?_
      refine fz_iload_n kX10_enterFive rfl rfl ?_
      refine fz_iload_n kX10_enterFive rfl rfl ?_
      refine fz_iconst ⟨by decide, by decide⟩ kX10_enterFive rfl ?_
      refine fz_iaddN kX10_enterFive rfl (by omega) ?_
      refine fz_callV (d' := 0) (M' := mX7_get) (As := [fz_i s, fz_i (i + 4)]) (st := []) kX10_enterFive rfl rfl vX7_get rfl rfl rfl rfl (Nat.le_of_ble_eq_true rfl) (Nat.le_of_ble_eq_true rfl) (by decide) (sX7_get h hI s (i + 4) (by omega) (by omega)) (fun H56 r57 q58 o59 => ?_)
      obtain ⟨e60, y63, rfl, f61, f62⟩ := q58
      subst H56
      clear o59
      refine fz_l2i kX10_enterFive rfl ?_
      have b64 : -2147483648 ≤ (fz_w y63) ∧ (fz_w y63) < 2147483648 := fz_w_b _
      have k65 : (fz_w y63) = fz_w (h 52 (60 * s + i + 4).toNat) := congrArg fz_w (f62.trans (congrArg (fun z : Int => h 52 z.toNat) (by omega)))
      refine fz_istore (ls' := [(7, fz_i (fz_w y63)), (6, fz_i (fz_w y52)), (5, fz_i (fz_w y41)), (4, fz_i (fz_w y30)), (3, fz_i (fz_w y19)), (0, fz_r 0), (1, fz_i s), (2, fz_i i)]) kX10_enterFive rfl (by decide) rfl ?_
      refine fz_aload_n kX10_enterFive rfl rfl ?_
      refine fz_iload_n kX10_enterFive rfl rfl ?_
      refine fz_callV (d' := 0) (M' := mX10_isOne) (As := [fz_i (fz_w y19)]) (st := []) kX10_enterFive rfl rfl vX10_isOne rfl rfl rfl rfl (Nat.le_of_ble_eq_true rfl) (Nat.le_of_ble_eq_true rfl) (by decide) (sX10_isOne h hI (fz_w y19) ) (fun H67 r68 q69 o70 => ?_)
      obtain ⟨e71, y72, rfl, p73⟩ := q69
      subst H67
      clear o70
      rcases p73 with ⟨rfl, c74⟩ | ⟨rfl, c74⟩
      · refine fz_if_eq (tgt := 135) kX10_enterFive rfl (by decide) (fun c75 => ?_) (fun c75 => ?_)
        · exfalso; omega
        · refine fz_aload_n kX10_enterFive rfl rfl ?_
          refine fz_getR (t := 1) kX10_enterFive rfl rfl ?_
          refine fz_iload kX10_enterFive rfl rfl ?_
          have b76 : 0 ≤ h 1 7 ∧ h 1 7 ≤ 8 := hI.1 1 _
          refine fz_callV (d' := 0) (M' := mX2_isTown) (As := [fz_i (fz_w y30)]) (st := []) kX10_enterFive rfl rfl vX2_isTown rfl rfl rfl rfl (Nat.le_of_ble_eq_true rfl) (Nat.le_of_ble_eq_true rfl) (by decide) (sX2_isTown h hI (fz_w y30) ) (fun H77 r78 q79 o80 => ?_)
          obtain ⟨e81, y82, rfl, p83⟩ := q79
          subst H77
          clear o80
          rcases p83 with ⟨rfl, c84⟩ | ⟨rfl, c84⟩
          · refine fz_if_eq (tgt := 135) kX10_enterFive rfl (by decide) (fun c85 => ?_) (fun c85 => ?_)
            · exfalso; omega
            · refine fz_aload_n kX10_enterFive rfl rfl ?_
              refine fz_iload kX10_enterFive rfl rfl ?_
              refine fz_callV (d' := 0) (M' := mX10_isHour) (As := [fz_i (fz_w y41)]) (st := []) kX10_enterFive rfl rfl vX10_isHour rfl rfl rfl rfl (Nat.le_of_ble_eq_true rfl) (Nat.le_of_ble_eq_true rfl) (by decide) (sX10_isHour h hI (fz_w y41) ) (fun H86 r87 q88 o89 => ?_)
              obtain ⟨e90, y91, rfl, p92⟩ := q88
              subst H86
              clear o89
              rcases p92 with ⟨rfl, c93⟩ | ⟨rfl, c93⟩
              · refine fz_if_eq (tgt := 135) kX10_enterFive rfl (by decide) (fun c94 => ?_) (fun c94 => ?_)
                · exfalso; omega
                · refine fz_iload kX10_enterFive rfl rfl ?_
                  refine fz_if_lt (tgt := 135) kX10_enterFive rfl (by decide) (fun c95 => ?_) (fun c95 => ?_)
                  · refine fz_iconst ⟨by decide, by decide⟩ kX10_enterFive rfl ?_
                    refine fz_istore (ls' := [(8, fz_i 0), (7, fz_i (fz_w y63)), (6, fz_i (fz_w y52)), (5, fz_i (fz_w y41)), (4, fz_i (fz_w y30)), (3, fz_i (fz_w y19)), (0, fz_r 0), (1, fz_i s), (2, fz_i i)]) kX10_enterFive rfl (by decide) rfl ?_
                    refine fz_iload kX10_enterFive rfl rfl ?_
                    refine fz_if_eq (tgt := 166) kX10_enterFive rfl (by decide) (fun c96 => ?_) (fun c96 => ?_)
                    · refine fz_iconst ⟨by decide, by decide⟩ kX10_enterFive rfl ?_
                      exact fz_zret kX10_enterFive rfl rfl (by omega) ⟨hI, hf, _, rfl, (by omega), (by omega), (by first | exact Or.inl ⟨by omega, (by unfold fz_k5 fz_five; omega)⟩ | exact Or.inr ⟨by omega, (by unfold fz_k5 fz_five; omega)⟩), (by first | exact fz_apC_row lost k21 k32 k43 k54 k65 (by omega) | exact fz_apC_z (by omega))⟩
                    · exfalso; omega
                  · refine fz_iload kX10_enterFive rfl rfl ?_
                    refine fz_iconst ⟨by decide, by decide⟩ kX10_enterFive rfl ?_
                    refine fz_icmp_ge (tgt := 135) kX10_enterFive rfl (by decide) (fun c99 => ?_) (fun c99 => ?_)
                    · refine fz_iconst ⟨by decide, by decide⟩ kX10_enterFive rfl ?_
                      refine fz_istore (ls' := [(8, fz_i 0), (7, fz_i (fz_w y63)), (6, fz_i (fz_w y52)), (5, fz_i (fz_w y41)), (4, fz_i (fz_w y30)), (3, fz_i (fz_w y19)), (0, fz_r 0), (1, fz_i s), (2, fz_i i)]) kX10_enterFive rfl (by decide) rfl ?_
                      refine fz_iload kX10_enterFive rfl rfl ?_
                      refine fz_if_eq (tgt := 166) kX10_enterFive rfl (by decide) (fun c100 => ?_) (fun c100 => ?_)
                      · refine fz_iconst ⟨by decide, by decide⟩ kX10_enterFive rfl ?_
                        exact fz_zret kX10_enterFive rfl rfl (by omega) ⟨hI, hf, _, rfl, (by omega), (by omega), (by first | exact Or.inl ⟨by omega, (by unfold fz_k5 fz_five; omega)⟩ | exact Or.inr ⟨by omega, (by unfold fz_k5 fz_five; omega)⟩), (by first | exact fz_apC_row lost k21 k32 k43 k54 k65 (by omega) | exact fz_apC_z (by omega))⟩
                      · exfalso; omega
                    · refine fz_aload_n kX10_enterFive rfl rfl ?_
                      refine fz_iload kX10_enterFive rfl rfl ?_
                      refine fz_callV (d' := 0) (M' := mX10_isWeight) (As := [fz_i (fz_w y63)]) (st := []) kX10_enterFive rfl rfl vX10_isWeight rfl rfl rfl rfl (Nat.le_of_ble_eq_true rfl) (Nat.le_of_ble_eq_true rfl) (by decide) (sX10_isWeight h hI (fz_w y63) ) (fun H103 r104 q105 o106 => ?_)
                      obtain ⟨e107, y108, rfl, p109⟩ := q105
                      subst H103
                      clear o106
                      rcases p109 with ⟨rfl, c110⟩ | ⟨rfl, c110⟩
                      · refine fz_if_eq (tgt := 135) kX10_enterFive rfl (by decide) (fun c111 => ?_) (fun c111 => ?_)
                        · exfalso; omega
                        · refine fz_iconst ⟨by decide, by decide⟩ kX10_enterFive rfl ?_
                          refine fz_goto (tgt := 136) kX10_enterFive rfl (by decide) ?_
                          refine fz_istore (ls' := [(8, fz_i 1), (7, fz_i (fz_w y63)), (6, fz_i (fz_w y52)), (5, fz_i (fz_w y41)), (4, fz_i (fz_w y30)), (3, fz_i (fz_w y19)), (0, fz_r 0), (1, fz_i s), (2, fz_i i)]) kX10_enterFive rfl (by decide) rfl ?_
                          refine fz_iload kX10_enterFive rfl rfl ?_
                          refine fz_if_eq (tgt := 166) kX10_enterFive rfl (by decide) (fun c112 => ?_) (fun c112 => ?_)
                          · exfalso; omega
                          · refine fz_aload_n kX10_enterFive rfl rfl ?_
                            refine fz_getR (t := 9) kX10_enterFive rfl rfl ?_
                            refine fz_iload_n kX10_enterFive rfl rfl ?_
                            refine fz_iload kX10_enterFive rfl rfl ?_
                            refine fz_iload kX10_enterFive rfl rfl ?_
                            refine fz_iload kX10_enterFive rfl rfl ?_
                            refine fz_iload kX10_enterFive rfl rfl ?_
                            refine fz_callV (d' := 1) (M' := mX4_enter) (As := [fz_i (fz_w y19), fz_i (fz_w y30), fz_i (fz_w y41), fz_i (fz_w y52), fz_i (fz_w y63)]) (st := []) kX10_enterFive rfl rfl vX4_enter rfl rfl rfl rfl (Nat.le_of_ble_eq_true rfl) (Nat.le_of_ble_eq_true rfl) (by decide) (sX4_enter h hI (fz_w y19) (fz_w y30) (fz_w y41) (fz_w y52) (fz_w y63) (by omega) (by omega) (by omega) (by omega) (by omega)) (fun H113 r114 q115 o116 => ?_)
                            obtain ⟨hI117, hf118, y122, rfl, f119, f120, f121⟩ := q115
                            clear o116
                            have hf123 := fz_fr_tr hf hf118 (show fz_su [(9, 5), (10, 99999), (11, 99999), (12, 99999), (13, 99999), (14, 99999)] [(9, 5), (10, 99999), (11, 99999), (12, 99999), (13, 99999), (14, 99999)] = true from rfl)
                            refine fz_if_lt (tgt := 166) kX10_enterFive rfl (by decide) (fun c124 => ?_) (fun c124 => ?_)
                            · refine fz_iconst ⟨by decide, by decide⟩ kX10_enterFive rfl ?_
                              exact fz_zret kX10_enterFive rfl rfl (by omega) ⟨hI117, hf123, _, rfl, (by omega), (by omega), (by first | exact Or.inl ⟨by omega, (by unfold fz_k5 fz_five; omega)⟩ | exact Or.inr ⟨by omega, (by unfold fz_k5 fz_five; omega)⟩), (by first | exact fz_apC_row f121 k21 k32 k43 k54 k65 (by omega) | exact fz_apC_z (by omega))⟩
                            · refine fz_iconst ⟨by decide, by decide⟩ kX10_enterFive rfl ?_
                              refine fz_goto (tgt := 167) kX10_enterFive rfl (by decide) ?_
                              exact fz_zret kX10_enterFive rfl rfl (by omega) ⟨hI117, hf123, _, rfl, (by omega), (by omega), (by first | exact Or.inl ⟨by omega, (by unfold fz_k5 fz_five; omega)⟩ | exact Or.inr ⟨by omega, (by unfold fz_k5 fz_five; omega)⟩), (by first | exact fz_apC_row f121 k21 k32 k43 k54 k65 (by omega) | exact fz_apC_z (by omega))⟩
                      · refine fz_if_eq (tgt := 135) kX10_enterFive rfl (by decide) (fun c129 => ?_) (fun c129 => ?_)
                        · refine fz_iconst ⟨by decide, by decide⟩ kX10_enterFive rfl ?_
                          refine fz_istore (ls' := [(8, fz_i 0), (7, fz_i (fz_w y63)), (6, fz_i (fz_w y52)), (5, fz_i (fz_w y41)), (4, fz_i (fz_w y30)), (3, fz_i (fz_w y19)), (0, fz_r 0), (1, fz_i s), (2, fz_i i)]) kX10_enterFive rfl (by decide) rfl ?_
                          refine fz_iload kX10_enterFive rfl rfl ?_
                          refine fz_if_eq (tgt := 166) kX10_enterFive rfl (by decide) (fun c130 => ?_) (fun c130 => ?_)
                          · refine fz_iconst ⟨by decide, by decide⟩ kX10_enterFive rfl ?_
                            exact fz_zret kX10_enterFive rfl rfl (by omega) ⟨hI, hf, _, rfl, (by omega), (by omega), (by first | exact Or.inl ⟨by omega, (by unfold fz_k5 fz_five; omega)⟩ | exact Or.inr ⟨by omega, (by unfold fz_k5 fz_five; omega)⟩), (by first | exact fz_apC_row lost k21 k32 k43 k54 k65 (by omega) | exact fz_apC_z (by omega))⟩
                          · exfalso; omega
                        · exfalso; omega
              · refine fz_if_eq (tgt := 135) kX10_enterFive rfl (by decide) (fun c133 => ?_) (fun c133 => ?_)
                · refine fz_iconst ⟨by decide, by decide⟩ kX10_enterFive rfl ?_
                  refine fz_istore (ls' := [(8, fz_i 0), (7, fz_i (fz_w y63)), (6, fz_i (fz_w y52)), (5, fz_i (fz_w y41)), (4, fz_i (fz_w y30)), (3, fz_i (fz_w y19)), (0, fz_r 0), (1, fz_i s), (2, fz_i i)]) kX10_enterFive rfl (by decide) rfl ?_
                  refine fz_iload kX10_enterFive rfl rfl ?_
                  refine fz_if_eq (tgt := 166) kX10_enterFive rfl (by decide) (fun c134 => ?_) (fun c134 => ?_)
                  · refine fz_iconst ⟨by decide, by decide⟩ kX10_enterFive rfl ?_
                    exact fz_zret kX10_enterFive rfl rfl (by omega) ⟨hI, hf, _, rfl, (by omega), (by omega), (by first | exact Or.inl ⟨by omega, (by unfold fz_k5 fz_five; omega)⟩ | exact Or.inr ⟨by omega, (by unfold fz_k5 fz_five; omega)⟩), (by first | exact fz_apC_row lost k21 k32 k43 k54 k65 (by omega) | exact fz_apC_z (by omega))⟩
                  · exfalso; omega
                · exfalso; omega
          · refine fz_if_eq (tgt := 135) kX10_enterFive rfl (by decide) (fun c137 => ?_) (fun c137 => ?_)
            · refine fz_iconst ⟨by decide, by decide⟩ kX10_enterFive rfl ?_
              refine fz_istore (ls' := [(8, fz_i 0), (7, fz_i (fz_w y63)), (6, fz_i (fz_w y52)), (5, fz_i (fz_w y41)), (4, fz_i (fz_w y30)), (3, fz_i (fz_w y19)), (0, fz_r 0), (1, fz_i s), (2, fz_i i)]) kX10_enterFive rfl (by decide) rfl ?_
              refine fz_iload kX10_enterFive rfl rfl ?_
              refine fz_if_eq (tgt := 166) kX10_enterFive rfl (by decide) (fun c138 => ?_) (fun c138 => ?_)
              · refine fz_iconst ⟨by decide, by decide⟩ kX10_enterFive rfl ?_
                exact fz_zret kX10_enterFive rfl rfl (by omega) ⟨hI, hf, _, rfl, (by omega), (by omega), (by first | exact Or.inl ⟨by omega, (by unfold fz_k5 fz_five; omega)⟩ | exact Or.inr ⟨by omega, (by unfold fz_k5 fz_five; omega)⟩), (by first | exact fz_apC_row lost k21 k32 k43 k54 k65 (by omega) | exact fz_apC_z (by omega))⟩
              · exfalso; omega
            · exfalso; omega
      · refine fz_if_eq (tgt := 135) kX10_enterFive rfl (by decide) (fun c141 => ?_) (fun c141 => ?_)
        · refine fz_iconst ⟨by decide, by decide⟩ kX10_enterFive rfl ?_
          refine fz_istore (ls' := [(8, fz_i 0), (7, fz_i (fz_w y63)), (6, fz_i (fz_w y52)), (5, fz_i (fz_w y41)), (4, fz_i (fz_w y30)), (3, fz_i (fz_w y19)), (0, fz_r 0), (1, fz_i s), (2, fz_i i)]) kX10_enterFive rfl (by decide) rfl ?_
          refine fz_iload kX10_enterFive rfl rfl ?_
          refine fz_if_eq (tgt := 166) kX10_enterFive rfl (by decide) (fun c142 => ?_) (fun c142 => ?_)
          · refine fz_iconst ⟨by decide, by decide⟩ kX10_enterFive rfl ?_
            exact fz_zret kX10_enterFive rfl rfl (by omega) ⟨hI, hf, _, rfl, (by omega), (by omega), (by first | exact Or.inl ⟨by omega, (by unfold fz_k5 fz_five; omega)⟩ | exact Or.inr ⟨by omega, (by unfold fz_k5 fz_five; omega)⟩), (by first | exact fz_apC_row lost k21 k32 k43 k54 k65 (by omega) | exact fz_apC_z (by omega))⟩
          · exfalso; omega
        · exfalso; omega
    · exfalso; omega
  · refine fz_if_ne (tgt := 15) kX10_enterFive rfl (by decide) (fun c145 => ?_) (fun c145 => ?_)
    · exfalso; omega
    · refine fz_iconst ⟨by decide, by decide⟩ kX10_enterFive rfl ?_
      exact fz_zret kX10_enterFive rfl rfl (by omega) ⟨hI, hf, _, rfl, (by omega), (by omega), (by first | exact Or.inl ⟨by omega, (by unfold fz_k5 fz_five; omega)⟩ | exact Or.inr ⟨by omega, (by unfold fz_k5 fz_five; omega)⟩), (by first | exact fz_apC_row lost lost lost lost lost lost (by omega) | exact fz_apC_z (by omega))⟩

abbrev qX10_deeds (h : fz_H) (s i n : Int) : fz_H → Option fz_V → Prop := fun h' r0 => fz_Iv h' ∧ fz_fr [(9, 5), (10, 99999), (11, 99999), (12, 99999), (13, 99999), (14, 99999)] h h' ∧ ∃ r : Int, r0 = some (fz_i r) ∧ ((-12) ≤ r ∧ r ≤ 10) ∧ (fz_qC h h' s i n r) ∧ (fz_apC h h' (h' 9 5 - h 9 5) (fun k => fz_row5 (h 52) (60 * s + (i + 5 * k))))
set_option maxHeartbeats 1000000 in
set_option maxRecDepth 100000 in
theorem sX10_deeds (h : fz_H) (hI : fz_Iv h) (s i n : Int) : fz_R 3 mX10_deeds 0 [(0, fz_r 0), (1, fz_i s), (2, fz_i i), (3, fz_i n)] [] h (qX10_deeds h s i n) := by
  refine fz_knowl (fun hk => ?_)
  have hr_s : -2147483648 ≤ s ∧ s < 2147483648 := hk _ (List.Mem.tail _ (List.Mem.head _))
  have hr_i : -2147483648 ≤ i ∧ i < 2147483648 := hk _ (List.Mem.tail _ (List.Mem.tail _ (List.Mem.head _)))
  have hr_n : -2147483648 ≤ n ∧ n < 2147483648 := hk _ (List.Mem.tail _ (List.Mem.tail _ (List.Mem.tail _ (List.Mem.head _))))
  clear hk
  have hf : fz_fr [(9, 5), (10, 99999), (11, 99999), (12, 99999), (13, 99999), (14, 99999)] h h := fz_fr_rf
  have b1 : 0 ≤ h 9 5 ∧ h 9 5 ≤ 10 := hI.1 9 _
  refine fz_aload_n kX10_deeds rfl rfl ?_
  refine fz_getR (t := 47) kX10_deeds rfl rfl ?_
  refine fz_iload_n kX10_deeds rfl rfl ?_
  refine fz_callV (d' := 0) (M' := mX7_isShelf) (As := [fz_i s]) (st := []) kX10_deeds rfl rfl vX7_isShelf rfl rfl rfl rfl (Nat.le_of_ble_eq_true rfl) (Nat.le_of_ble_eq_true rfl) (by decide) (sX7_isShelf h hI s ) (fun H2 r3 q4 o5 => ?_)
  obtain ⟨e6, y7, rfl, p8⟩ := q4
  subst H2
  clear o5
  rcases p8 with ⟨rfl, c9⟩ | ⟨rfl, c9⟩
  · refine fz_if_eq (tgt := 22) kX10_deeds rfl (by decide) (fun c10 => ?_) (fun c10 => ?_)
    · exfalso; omega
    · refine fz_iload_n kX10_deeds rfl rfl ?_
      refine fz_iconst ⟨by decide, by decide⟩ kX10_deeds rfl ?_
      refine fz_icmp_lt (tgt := 22) kX10_deeds rfl (by decide) (fun c11 => ?_) (fun c11 => ?_)
      · refine fz_iconst ⟨by decide, by decide⟩ kX10_deeds rfl ?_
        exact fz_iret kX10_deeds rfl rfl (fun _ => ⟨hI, hf, _, rfl, (by omega), (by first | exact Or.inr (Or.inl ⟨by omega, by omega, by omega⟩) | exact Or.inr (Or.inr (Or.inl ⟨by omega, by omega, by omega, by omega⟩)) | exact Or.inr (Or.inr (Or.inr ⟨by omega, by omega, by omega, by omega, by omega⟩)) | exact Or.inl ⟨by omega, ⟨by omega, by omega, fun k a b => lost k a (by omega), Or.inr (lost.elim (fun z => absurd z.1 (by omega)) (fun z => z.2))⟩, by omega⟩ | exact Or.inl ⟨by omega, ⟨by omega, by omega, fun k a b => lost k a (by omega), Or.inl (by omega)⟩, by omega⟩), (by first | exact fz_apC_s0 lost lost (by omega) (by omega) (by omega) (by omega) | exact fz_apC_r lost (by omega) | exact fz_apC_z (by omega))⟩)
      · refine fz_iload_n kX10_deeds rfl rfl ?_
        refine fz_bipush ⟨by decide, by decide⟩ kX10_deeds rfl ?_
        refine fz_icmp_le (tgt := 24) kX10_deeds rfl (by decide) (fun c14 => ?_) (fun c14 => ?_)
        · refine fz_aload_n kX10_deeds rfl rfl ?_
          refine fz_getR (t := 47) kX10_deeds rfl rfl ?_
          refine fz_iload_n kX10_deeds rfl rfl ?_
          refine fz_callV (d' := 0) (M' := mX7_isEmpty) (As := [fz_i s]) (st := []) kX10_deeds rfl rfl vX7_isEmpty rfl rfl rfl rfl (Nat.le_of_ble_eq_true rfl) (Nat.le_of_ble_eq_true rfl) (by decide) (sX7_isEmpty h hI s (by omega)) (fun H15 r16 q17 o18 => ?_)
          obtain ⟨e19, y20, rfl, p21⟩ := q17
          subst H15
          clear o18
          rcases p21 with ⟨rfl, c22⟩ | ⟨rfl, c22⟩
          · refine fz_if_eq (tgt := 37) kX10_deeds rfl (by decide) (fun c23 => ?_) (fun c23 => ?_)
            · exfalso; omega
            · refine fz_iconst ⟨by decide, by decide⟩ kX10_deeds rfl ?_
              exact fz_iret kX10_deeds rfl rfl (fun _ => ⟨hI, hf, _, rfl, (by omega), (by first | exact Or.inr (Or.inl ⟨by omega, by omega, by omega⟩) | exact Or.inr (Or.inr (Or.inl ⟨by omega, by omega, by omega, by omega⟩)) | exact Or.inr (Or.inr (Or.inr ⟨by omega, by omega, by omega, by omega, by omega⟩)) | exact Or.inl ⟨by omega, ⟨by omega, by omega, fun k a b => lost k a (by omega), Or.inr (lost.elim (fun z => absurd z.1 (by omega)) (fun z => z.2))⟩, by omega⟩ | exact Or.inl ⟨by omega, ⟨by omega, by omega, fun k a b => lost k a (by omega), Or.inl (by omega)⟩, by omega⟩), (by first | exact fz_apC_s0 lost lost (by omega) (by omega) (by omega) (by omega) | exact fz_apC_r lost (by omega) | exact fz_apC_z (by omega))⟩)
          · refine fz_if_eq (tgt := 37) kX10_deeds rfl (by decide) (fun c26 => ?_) (fun c26 => ?_)
            · refine fz_aload_n kX10_deeds rfl rfl ?_
              refine fz_getR (t := 47) kX10_deeds rfl rfl ?_
              refine fz_iload_n kX10_deeds rfl rfl ?_
              refine fz_iconst ⟨by decide, by decide⟩ kX10_deeds rfl ?_
              refine fz_callV (d' := 1) (M' := mX7_holdsRow) (As := [fz_i s, fz_i 1]) (st := []) kX10_deeds rfl rfl vX7_holdsRow rfl rfl rfl rfl (Nat.le_of_ble_eq_true rfl) (Nat.le_of_ble_eq_true rfl) (by decide) (sX7_holdsRow h hI s 1 (by omega)) (fun H27 r28 q29 o30 => ?_)
              obtain ⟨e31, y32, rfl, p33⟩ := q29
              subst H27
              clear o30
              rcases p33 with ⟨rfl, c34⟩ | ⟨rfl, c34⟩
              · refine fz_if_ne (tgt := 52) kX10_deeds rfl (by decide) (fun c35 => ?_) (fun c35 => ?_)
                · refine fz_iconst ⟨by decide, by decide⟩ kX10_deeds rfl ?_
                  refine fz_istore (ls' := [(4, fz_i 0), (0, fz_r 0), (1, fz_i s), (2, fz_i i), (3, fz_i n)]) kX10_deeds rfl (by decide) rfl ?_
                  have lp41 : ∀ (n40 : Nat) (x36 : Int) (H37 : fz_H), fz_Iv H37 → fz_fr [(9, 5), (10, 99999), (11, 99999), (12, 99999), (13, 99999), (14, 99999)] h H37 → (0 ≤ x36 ∧ x36 ≤ 10) → (H37 9 5 = h 9 5 + x36) → (x36 ≤ n) → (∀ k : Int, 0 ≤ k → k < x36 → fz_k5 (h 52) (h 1 7) (h 51 s.toNat) (60 * s) (i + 5 * k) (h 9 5 + k)) → (fz_apC h H37 x36 (fun k => fz_row5 (h 52) (60 * s + (i + 5 * k)))) → (n - x36).toNat < n40 → fz_R 3 mX10_deeds 55 [(4, fz_i x36), (0, fz_r 0), (1, fz_i s), (2, fz_i i), (3, fz_i n)] [] H37 (qX10_deeds h s i n) := by
                    intro n40
                    induction n40 with
                    | zero => intro x36 H37 hI38 hf39 hv44 hv45 hv46 hv47 hv48 hm43; exact absurd hm43 (by omega)
                    | succ n40 ih42 =>
                      intro x36 H37 hI38 hf39 hv44 hv45 hv46 hv47 hv48 hm43
                      refine fz_iload kX10_deeds rfl rfl ?_
                      refine fz_iload_n kX10_deeds rfl rfl ?_
                      refine fz_icmp_ge (tgt := 84) kX10_deeds rfl (by decide) (fun c49 => ?_) (fun c49 => ?_)
                      · refine fz_iload_n kX10_deeds rfl rfl ?_
                        exact fz_iret kX10_deeds rfl rfl (fun _ => ⟨hI38, hf39, _, rfl, (by omega), (by first | exact Or.inr (Or.inl ⟨by omega, by omega, by omega⟩) | exact Or.inr (Or.inr (Or.inl ⟨by omega, by omega, by omega, by omega⟩)) | exact Or.inr (Or.inr (Or.inr ⟨by omega, by omega, by omega, by omega, by omega⟩)) | exact Or.inl ⟨by omega, ⟨by omega, by omega, fun k a b => hv47 k a (by omega), Or.inr (lost.elim (fun z => absurd z.1 (by omega)) (fun z => z.2))⟩, by omega⟩ | exact Or.inl ⟨by omega, ⟨by omega, by omega, fun k a b => hv47 k a (by omega), Or.inl (by omega)⟩, by omega⟩), (by first | exact fz_apC_s0 hv48 lost (by omega) (by omega) (by omega) (by omega) | exact fz_apC_r hv48 (by omega) | exact fz_apC_z (by omega))⟩)
                      · refine fz_aload_n kX10_deeds rfl rfl ?_
                        refine fz_iload_n kX10_deeds rfl rfl ?_
                        refine fz_iload_n kX10_deeds rfl rfl ?_
                        refine fz_iconst ⟨by decide, by decide⟩ kX10_deeds rfl ?_
                        refine fz_iload kX10_deeds rfl rfl ?_
                        refine fz_imulN kX10_deeds rfl (by omega) ?_
                        refine fz_iadd kX10_deeds rfl ?_
                        have b52 := fz_w_b (i + (5 * x36))
                        have k53 : 0 ≤ h 51 s.toNat ∧ h 51 s.toNat ≤ 60 := hI.1 51 _
                        have k54 := fz_k5_w hv47 (by omega) (by omega) (by omega)
                        have b56 : 0 ≤ H37 9 5 ∧ H37 9 5 ≤ 10 := hI38.1 9 _
                        have e57 : H37 48 s.toNat = h 48 s.toNat := hf39 48 _ rfl
                        refine fz_callV (d' := 2) (M' := mX10_enterFive) (As := [fz_i s, fz_i (fz_w (i + (5 * x36)))]) (st := []) kX10_deeds rfl rfl vX10_enterFive rfl rfl rfl rfl (Nat.le_of_ble_eq_true rfl) (Nat.le_of_ble_eq_true rfl) (by decide) (sX10_enterFive H37 hI38 s (fz_w (i + (5 * x36))) (by omega) (by omega)) (fun H58 r59 q60 o61 => ?_)
                        obtain ⟨hI62, hf63, y67, rfl, p68, f64, f65, f66⟩ := q60
                        clear o61
                        have hf69 := fz_fr_tr hf39 hf63 (show fz_su [(9, 5), (10, 99999), (11, 99999), (12, 99999), (13, 99999), (14, 99999)] [(9, 5), (10, 99999), (11, 99999), (12, 99999), (13, 99999), (14, 99999)] = true from rfl)
                        refine fz_if_ne (tgt := 78) kX10_deeds rfl (by decide) (fun c70 => ?_) (fun c70 => ?_)
                        · have k71 := fz_e5_k f65 (funext fun z => hf39 52 z rfl) (hf39 1 7 rfl) (funext fun z => hf39 51 z rfl) k54 (by omega)
                          refine fz_iincN (ls' := [(4, fz_i (x36 + 1)), (0, fz_r 0), (1, fz_i s), (2, fz_i i), (3, fz_i n)]) kX10_deeds rfl (by decide) rfl (by omega) rfl ?_
                          refine fz_goto (tgt := 55) kX10_deeds rfl (by decide) ?_
                          exact ih42 (x36 + 1) H58 hI62 hf69 (by omega) (by omega) (by omega) (fz_k5_st hv47 (k71.elim (fun z => z.2) (fun z => absurd z.1 (by omega)))) (fz_apC_s hv48 f66 (by omega) (by omega) (by omega) (by omega) (fz_row5_e (funext fun z => hf39 52 z rfl) (by rw [k54]))) (by omega)
                        · have k75 := fz_e5_k f65 (funext fun z => hf39 52 z rfl) (hf39 1 7 rfl) (funext fun z => hf39 51 z rfl) k54 (by omega)
                          refine fz_iload kX10_deeds rfl rfl ?_
                          exact fz_iret kX10_deeds rfl rfl (fun _ => ⟨hI62, hf69, _, rfl, (by omega), (by first | exact Or.inr (Or.inl ⟨by omega, by omega, by omega⟩) | exact Or.inr (Or.inr (Or.inl ⟨by omega, by omega, by omega, by omega⟩)) | exact Or.inr (Or.inr (Or.inr ⟨by omega, by omega, by omega, by omega, by omega⟩)) | exact Or.inl ⟨by omega, ⟨by omega, by omega, fun k a b => hv47 k a (by omega), Or.inr (k75.elim (fun z => absurd z.1 (by omega)) (fun z => z.2))⟩, by omega⟩ | exact Or.inl ⟨by omega, ⟨by omega, by omega, fun k a b => hv47 k a (by omega), Or.inl (by omega)⟩, by omega⟩), (by first | exact fz_apC_s0 hv48 f66 (by omega) (by omega) (by omega) (by omega) | exact fz_apC_r hv48 (by omega) | exact fz_apC_z (by omega))⟩)
                  exact lp41 _ 0 h hI hf (by omega) (by omega) (by omega) (fun k a b => absurd b (by omega)) (fz_apC_z (by omega)) (Nat.lt_succ_self _)
                · exfalso; omega
              · refine fz_if_ne (tgt := 52) kX10_deeds rfl (by decide) (fun c81 => ?_) (fun c81 => ?_)
                · exfalso; omega
                · refine fz_bipush ⟨by decide, by decide⟩ kX10_deeds rfl ?_
                  exact fz_iret kX10_deeds rfl rfl (fun _ => ⟨hI, hf, _, rfl, (by omega), (by first | exact Or.inr (Or.inl ⟨by omega, by omega, by omega⟩) | exact Or.inr (Or.inr (Or.inl ⟨by omega, by omega, by omega, by omega⟩)) | exact Or.inr (Or.inr (Or.inr ⟨by omega, by omega, by omega, by omega, by omega⟩)) | exact Or.inl ⟨by omega, ⟨by omega, by omega, fun k a b => lost k a (by omega), Or.inr (lost.elim (fun z => absurd z.1 (by omega)) (fun z => z.2))⟩, by omega⟩ | exact Or.inl ⟨by omega, ⟨by omega, by omega, fun k a b => lost k a (by omega), Or.inl (by omega)⟩, by omega⟩), (by first | exact fz_apC_s0 lost lost (by omega) (by omega) (by omega) (by omega) | exact fz_apC_r lost (by omega) | exact fz_apC_z (by omega))⟩)
            · exfalso; omega
        · refine fz_iconst ⟨by decide, by decide⟩ kX10_deeds rfl ?_
          exact fz_iret kX10_deeds rfl rfl (fun _ => ⟨hI, hf, _, rfl, (by omega), (by first | exact Or.inr (Or.inl ⟨by omega, by omega, by omega⟩) | exact Or.inr (Or.inr (Or.inl ⟨by omega, by omega, by omega, by omega⟩)) | exact Or.inr (Or.inr (Or.inr ⟨by omega, by omega, by omega, by omega, by omega⟩)) | exact Or.inl ⟨by omega, ⟨by omega, by omega, fun k a b => lost k a (by omega), Or.inr (lost.elim (fun z => absurd z.1 (by omega)) (fun z => z.2))⟩, by omega⟩ | exact Or.inl ⟨by omega, ⟨by omega, by omega, fun k a b => lost k a (by omega), Or.inl (by omega)⟩, by omega⟩), (by first | exact fz_apC_s0 lost lost (by omega) (by omega) (by omega) (by omega) | exact fz_apC_r lost (by omega) | exact fz_apC_z (by omega))⟩)
  · refine fz_if_eq (tgt := 22) kX10_deeds rfl (by decide) (fun c86 => ?_) (fun c86 => ?_)
    · refine fz_iconst ⟨by decide, by decide⟩ kX10_deeds rfl ?_
      exact fz_iret kX10_deeds rfl rfl (fun _ => ⟨hI, hf, _, rfl, (by omega), (by first | exact Or.inr (Or.inl ⟨by omega, by omega, by omega⟩) | exact Or.inr (Or.inr (Or.inl ⟨by omega, by omega, by omega, by omega⟩)) | exact Or.inr (Or.inr (Or.inr ⟨by omega, by omega, by omega, by omega, by omega⟩)) | exact Or.inl ⟨by omega, ⟨by omega, by omega, fun k a b => lost k a (by omega), Or.inr (lost.elim (fun z => absurd z.1 (by omega)) (fun z => z.2))⟩, by omega⟩ | exact Or.inl ⟨by omega, ⟨by omega, by omega, fun k a b => lost k a (by omega), Or.inl (by omega)⟩, by omega⟩), (by first | exact fz_apC_s0 lost lost (by omega) (by omega) (by omega) (by omega) | exact fz_apC_r lost (by omega) | exact fz_apC_z (by omega))⟩)
    · exfalso; omega
