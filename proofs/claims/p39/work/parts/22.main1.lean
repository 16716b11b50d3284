/-! ===== what the methods keep ===== -/
abbrev qX10_isOne (h : fz_H) (a : Int) : fz_H → Option fz_V → Prop := fun h' r0 => h' = h ∧ ∃ r : Int, r0 = some (fz_i r) ∧ ((r = 1 ∧ (0 ≤ a ∧ a < 4)) ∨ (r = 0 ∧ ¬ (0 ≤ a ∧ a < 4)))
set_option maxHeartbeats 1000000 in
set_option maxRecDepth 100000 in
theorem sX10_isOne (h : fz_H) (hI : fz_Iv h) (a : Int) : fz_R 0 mX10_isOne 0 [(0, fz_r 0), (1, fz_i a)] [] h (qX10_isOne h a) := by
  refine fz_knowl (fun hk => ?_)
  have hr_a : -2147483648 ≤ a ∧ a < 2147483648 := hk _ (List.Mem.tail _ (List.Mem.head _))
  clear hk
  refine fz_iload_n kX10_isOne rfl rfl ?_
  refine fz_if_lt (tgt := 13) kX10_isOne rfl (by decide) (fun c1 => ?_) (fun c1 => ?_)
  · refine fz_iconst ⟨by decide, by decide⟩ kX10_isOne rfl ?_
    exact fz_zret kX10_isOne rfl rfl (by omega) ⟨rfl, _, rfl, Or.inr ⟨rfl, by omega⟩⟩
  · refine fz_iload_n kX10_isOne rfl rfl ?_
    refine fz_iconst ⟨by decide, by decide⟩ kX10_isOne rfl ?_
    refine fz_icmp_ge (tgt := 13) kX10_isOne rfl (by decide) (fun c2 => ?_) (fun c2 => ?_)
    · refine fz_iconst ⟨by decide, by decide⟩ kX10_isOne rfl ?_
      exact fz_zret kX10_isOne rfl rfl (by omega) ⟨rfl, _, rfl, Or.inr ⟨rfl, by omega⟩⟩
    · refine fz_iconst ⟨by decide, by decide⟩ kX10_isOne rfl ?_
      refine fz_goto (tgt := 14) kX10_isOne rfl (by decide) ?_
      exact fz_zret kX10_isOne rfl rfl (by omega) ⟨rfl, _, rfl, Or.inl ⟨rfl, by omega⟩⟩

abbrev qX10_isHour (h : fz_H) (a : Int) : fz_H → Option fz_V → Prop := fun h' r0 => h' = h ∧ ∃ r : Int, r0 = some (fz_i r) ∧ ((r = 1 ∧ (0 ≤ a ∧ a ≤ 999)) ∨ (r = 0 ∧ ¬ (0 ≤ a ∧ a ≤ 999)))
set_option maxHeartbeats 1000000 in
set_option maxRecDepth 100000 in
theorem sX10_isHour (h : fz_H) (hI : fz_Iv h) (a : Int) : fz_R 0 mX10_isHour 0 [(0, fz_r 0), (1, fz_i a)] [] h (qX10_isHour h a) := by
  refine fz_knowl (fun hk => ?_)
  have hr_a : -2147483648 ≤ a ∧ a < 2147483648 := hk _ (List.Mem.tail _ (List.Mem.head _))
  clear hk
  refine fz_iload_n kX10_isHour rfl rfl ?_
  refine fz_if_lt (tgt := 15) kX10_isHour rfl (by decide) (fun c1 => ?_) (fun c1 => ?_)
  · refine fz_iconst ⟨by decide, by decide⟩ kX10_isHour rfl ?_
    exact fz_zret kX10_isHour rfl rfl (by omega) ⟨rfl, _, rfl, Or.inr ⟨rfl, by omega⟩⟩
  · refine fz_iload_n kX10_isHour rfl rfl ?_
    refine fz_sipush ⟨by decide, by decide⟩ kX10_isHour rfl ?_
    refine fz_icmp_gt (tgt := 15) kX10_isHour rfl (by decide) (fun c2 => ?_) (fun c2 => ?_)
    · refine fz_iconst ⟨by decide, by decide⟩ kX10_isHour rfl ?_
      exact fz_zret kX10_isHour rfl rfl (by omega) ⟨rfl, _, rfl, Or.inr ⟨rfl, by omega⟩⟩
    · refine fz_iconst ⟨by decide, by decide⟩ kX10_isHour rfl ?_
      refine fz_goto (tgt := 16) kX10_isHour rfl (by decide) ?_
      exact fz_zret kX10_isHour rfl rfl (by omega) ⟨rfl, _, rfl, Or.inl ⟨rfl, by omega⟩⟩

abbrev qX10_isWeight (h : fz_H) (a : Int) : fz_H → Option fz_V → Prop := fun h' r0 => h' = h ∧ ∃ r : Int, r0 = some (fz_i r) ∧ ((r = 1 ∧ (1 ≤ a ∧ a ≤ 9)) ∨ (r = 0 ∧ ¬ (1 ≤ a ∧ a ≤ 9)))
set_option maxHeartbeats 1000000 in
set_option maxRecDepth 100000 in
theorem sX10_isWeight (h : fz_H) (hI : fz_Iv h) (a : Int) : fz_R 0 mX10_isWeight 0 [(0, fz_r 0), (1, fz_i a)] [] h (qX10_isWeight h a) := by
  refine fz_knowl (fun hk => ?_)
  have hr_a : -2147483648 ≤ a ∧ a < 2147483648 := hk _ (List.Mem.tail _ (List.Mem.head _))
  clear hk
  refine fz_iload_n kX10_isWeight rfl rfl ?_
  refine fz_iconst ⟨by decide, by decide⟩ kX10_isWeight rfl ?_
  refine fz_icmp_lt (tgt := 15) kX10_isWeight rfl (by decide) (fun c1 => ?_) (fun c1 => ?_)
  · refine fz_iconst ⟨by decide, by decide⟩ kX10_isWeight rfl ?_
    exact fz_zret kX10_isWeight rfl rfl (by omega) ⟨rfl, _, rfl, Or.inr ⟨rfl, by omega⟩⟩
  · refine fz_iload_n kX10_isWeight rfl rfl ?_
    refine fz_bipush ⟨by decide, by decide⟩ kX10_isWeight rfl ?_
    refine fz_icmp_gt (tgt := 15) kX10_isWeight rfl (by decide) (fun c2 => ?_) (fun c2 => ?_)
    · refine fz_iconst ⟨by decide, by decide⟩ kX10_isWeight rfl ?_
      exact fz_zret kX10_isWeight rfl rfl (by omega) ⟨rfl, _, rfl, Or.inr ⟨rfl, by omega⟩⟩
    · refine fz_iconst ⟨by decide, by decide⟩ kX10_isWeight rfl ?_
      refine fz_goto (tgt := 16) kX10_isWeight rfl (by decide) ?_
      exact fz_zret kX10_isWeight rfl rfl (by omega) ⟨rfl, _, rfl, Or.inl ⟨rfl, by omega⟩⟩

abbrev qX10_isVolume (h : fz_H) (a : Int) : fz_H → Option fz_V → Prop := fun h' r0 => h' = h ∧ ∃ r : Int, r0 = some (fz_i r) ∧ ((r = 1 ∧ (1 ≤ a ∧ a ≤ 99)) ∨ (r = 0 ∧ ¬ (1 ≤ a ∧ a ≤ 99)))
set_option maxHeartbeats 1000000 in
set_option maxRecDepth 100000 in
theorem sX10_isVolume (h : fz_H) (hI : fz_Iv h) (a : Int) : fz_R 0 mX10_isVolume 0 [(0, fz_r 0), (1, fz_i a)] [] h (qX10_isVolume h a) := by
  refine fz_knowl (fun hk => ?_)
  have hr_a : -2147483648 ≤ a ∧ a < 2147483648 := hk _ (List.Mem.tail _ (List.Mem.head _))
  clear hk
  refine fz_iload_n kX10_isVolume rfl rfl ?_
  refine fz_iconst ⟨by decide, by decide⟩ kX10_isVolume rfl ?_
  refine fz_icmp_lt (tgt := 15) kX10_isVolume rfl (by decide) (fun c1 => ?_) (fun c1 => ?_)
  · refine fz_iconst ⟨by decide, by decide⟩ kX10_isVolume rfl ?_
    exact fz_zret kX10_isVolume rfl rfl (by omega) ⟨rfl, _, rfl, Or.inr ⟨rfl, by omega⟩⟩
  · refine fz_iload_n kX10_isVolume rfl rfl ?_
    refine fz_bipush ⟨by decide, by decide⟩ kX10_isVolume rfl ?_
    refine fz_icmp_gt (tgt := 15) kX10_isVolume rfl (by decide) (fun c2 => ?_) (fun c2 => ?_)
    · refine fz_iconst ⟨by decide, by decide⟩ kX10_isVolume rfl ?_
      exact fz_zret kX10_isVolume rfl rfl (by omega) ⟨rfl, _, rfl, Or.inr ⟨rfl, by omega⟩⟩
    · refine fz_iconst ⟨by decide, by decide⟩ kX10_isVolume rfl ?_
      refine fz_goto (tgt := 16) kX10_isVolume rfl (by decide) ?_
      exact fz_zret kX10_isVolume rfl rfl (by omega) ⟨rfl, _, rfl, Or.inl ⟨rfl, by omega⟩⟩

abbrev qX10_isMarkOfOne (h : fz_H) (a : Int) : fz_H → Option fz_V → Prop := fun h' r0 => h' = h ∧ ∃ r : Int, r0 = some (fz_i r) ∧ ((r = 1 ∧ (0 ≤ a ∧ a ≤ 39 ∧ a / 10 < 4 ∧ a % 10 < 5)) ∨ (r = 0 ∧ ¬ (0 ≤ a ∧ a ≤ 39 ∧ a / 10 < 4 ∧ a % 10 < 5)))
set_option maxHeartbeats 1000000 in
set_option maxRecDepth 100000 in
theorem sX10_isMarkOfOne (h : fz_H) (hI : fz_Iv h) (a : Int) : fz_R 1 mX10_isMarkOfOne 0 [(0, fz_r 0), (1, fz_i a)] [] h (qX10_isMarkOfOne h a) := by
  refine fz_knowl (fun hk => ?_)
  have hr_a : -2147483648 ≤ a ∧ a < 2147483648 := hk _ (List.Mem.tail _ (List.Mem.head _))
  clear hk
  refine fz_iload_n kX10_isMarkOfOne rfl rfl ?_
  refine fz_if_lt (tgt := 27) kX10_isMarkOfOne rfl (by decide) (fun c1 => ?_) (fun c1 => ?_)
  · refine fz_iconst ⟨by decide, by decide⟩ kX10_isMarkOfOne rfl ?_
    exact fz_zret kX10_isMarkOfOne rfl rfl (by omega) ⟨rfl, _, rfl, Or.inr ⟨rfl, by omega⟩⟩
  · refine fz_aload_n kX10_isMarkOfOne rfl rfl ?_
    refine fz_iload_n kX10_isMarkOfOne rfl rfl ?_
    refine fz_bipush ⟨by decide, by decide⟩ kX10_isMarkOfOne rfl ?_
    refine fz_idivN kX10_isMarkOfOne rfl (by omega) (by omega) (by omega) ?_
    refine fz_callV (d' := 0) (M' := mX10_isOne) (As := [fz_i (a / 10)]) (st := []) kX10_isMarkOfOne rfl rfl vX10_isOne rfl rfl rfl rfl (Nat.le_of_ble_eq_true rfl) (Nat.le_of_ble_eq_true rfl) (by decide) (sX10_isOne h hI (a / 10) ) (fun H2 r3 q4 o5 => ?_)
    obtain ⟨e6, y7, rfl, p8⟩ := q4
    subst H2
    clear o5
    rcases p8 with ⟨rfl, c9⟩ | ⟨rfl, c9⟩
    · refine fz_if_eq (tgt := 27) kX10_isMarkOfOne rfl (by decide) (fun c10 => ?_) (fun c10 => ?_)
      · exfalso; omega
      · refine fz_iload_n kX10_isMarkOfOne rfl rfl ?_
        refine fz_bipush ⟨by decide, by decide⟩ kX10_isMarkOfOne rfl ?_
        refine fz_iremN kX10_isMarkOfOne rfl (by omega) (by omega) (by omega) ?_
        refine fz_iconst ⟨by decide, by decide⟩ kX10_isMarkOfOne rfl ?_
        refine fz_icmp_ge (tgt := 27) kX10_isMarkOfOne rfl (by decide) (fun c11 => ?_) (fun c11 => ?_)
        · refine fz_iconst ⟨by decide, by decide⟩ kX10_isMarkOfOne rfl ?_
          exact fz_zret kX10_isMarkOfOne rfl rfl (by omega) ⟨rfl, _, rfl, Or.inr ⟨rfl, by omega⟩⟩
        · refine fz_iconst ⟨by decide, by decide⟩ kX10_isMarkOfOne rfl ?_
          refine fz_goto (tgt := 28) kX10_isMarkOfOne rfl (by decide) ?_
          exact fz_zret kX10_isMarkOfOne rfl rfl (by omega) ⟨rfl, _, rfl, Or.inl ⟨rfl, by omega⟩⟩
    · refine fz_if_eq (tgt := 27) kX10_isMarkOfOne rfl (by decide) (fun c12 => ?_) (fun c12 => ?_)
      · refine fz_iconst ⟨by decide, by decide⟩ kX10_isMarkOfOne rfl ?_
        exact fz_zret kX10_isMarkOfOne rfl rfl (by omega) ⟨rfl, _, rfl, Or.inr ⟨rfl, by omega⟩⟩
      · exfalso; omega

abbrev qX10_isTownAndHour (h : fz_H) (a : Int) : fz_H → Option fz_V → Prop := fun h' r0 => h' = h ∧ ∃ r : Int, r0 = some (fz_i r) ∧ ((r = 1 ∧ (0 ≤ a ∧ a ≤ 7999 ∧ a / 1000 ≤ 7 ∧ a / 1000 < h 1 7)) ∨ (r = 0 ∧ ¬ (0 ≤ a ∧ a ≤ 7999 ∧ a / 1000 ≤ 7 ∧ a / 1000 < h 1 7)))
set_option maxHeartbeats 1000000 in
set_option maxRecDepth 100000 in
theorem sX10_isTownAndHour (h : fz_H) (hI : fz_Iv h) (a : Int) : fz_R 1 mX10_isTownAndHour 0 [(0, fz_r 0), (1, fz_i a)] [] h (qX10_isTownAndHour h a) := by
  refine fz_knowl (fun hk => ?_)
  have hr_a : -2147483648 ≤ a ∧ a < 2147483648 := hk _ (List.Mem.tail _ (List.Mem.head _))
  clear hk
  have b1 : 0 ≤ h 1 7 ∧ h 1 7 ≤ 8 := hI.1 1 _
  refine fz_iload_n kX10_isTownAndHour rfl rfl ?_
  refine fz_if_lt (tgt := 23) kX10_isTownAndHour rfl (by decide) (fun c2 => ?_) (fun c2 => ?_)
  · refine fz_iconst ⟨by decide, by decide⟩ kX10_isTownAndHour rfl ?_
    exact fz_zret kX10_isTownAndHour rfl rfl (by omega) ⟨rfl, _, rfl, Or.inr ⟨rfl, by omega⟩⟩
  · refine fz_aload_n kX10_isTownAndHour rfl rfl ?_
    refine fz_getR (t := 1) kX10_isTownAndHour rfl rfl ?_
    refine fz_iload_n kX10_isTownAndHour rfl rfl ?_
    refine fz_sipush ⟨by decide, by decide⟩ kX10_isTownAndHour rfl ?_
    refine fz_idivN kX10_isTownAndHour rfl (by omega) (by omega) (by omega) ?_
    refine fz_callV (d' := 0) (M' := mX2_isTown) (As := [fz_i (a / 1000)]) (st := []) kX10_isTownAndHour rfl rfl vX2_isTown rfl rfl rfl rfl (Nat.le_of_ble_eq_true rfl) (Nat.le_of_ble_eq_true rfl) (by decide) (sX2_isTown h hI (a / 1000) ) (fun H3 r4 q5 o6 => ?_)
    obtain ⟨e7, y8, rfl, p9⟩ := q5
    subst H3
    clear o6
    rcases p9 with ⟨rfl, c10⟩ | ⟨rfl, c10⟩
    · refine fz_if_eq (tgt := 23) kX10_isTownAndHour rfl (by decide) (fun c11 => ?_) (fun c11 => ?_)
      · exfalso; omega
      · refine fz_iconst ⟨by decide, by decide⟩ kX10_isTownAndHour rfl ?_
        refine fz_goto (tgt := 24) kX10_isTownAndHour rfl (by decide) ?_
        exact fz_zret kX10_isTownAndHour rfl rfl (by omega) ⟨rfl, _, rfl, Or.inl ⟨rfl, by omega⟩⟩
    · refine fz_if_eq (tgt := 23) kX10_isTownAndHour rfl (by decide) (fun c12 => ?_) (fun c12 => ?_)
      · refine fz_iconst ⟨by decide, by decide⟩ kX10_isTownAndHour rfl ?_
        exact fz_zret kX10_isTownAndHour rfl rfl (by omega) ⟨rfl, _, rfl, Or.inr ⟨rfl, by omega⟩⟩
      · exfalso; omega

abbrev qX10_arePair (h : fz_H) (a : Int) : fz_H → Option fz_V → Prop := fun h' r0 => h' = h ∧ ∃ r : Int, r0 = some (fz_i r) ∧ ((r = 1 ∧ (0 ≤ a ∧ a ≤ 77 ∧ a / 10 ≤ 7 ∧ a % 10 ≤ 7 ∧ a / 10 < h 1 7 ∧ a % 10 < h 1 7)) ∨ (r = 0 ∧ ¬ (0 ≤ a ∧ a ≤ 77 ∧ a / 10 ≤ 7 ∧ a % 10 ≤ 7 ∧ a / 10 < h 1 7 ∧ a % 10 < h 1 7)))
set_option maxHeartbeats 1000000 in
set_option maxRecDepth 100000 in
theorem sX10_arePair (h : fz_H) (hI : fz_Iv h) (a : Int) : fz_R 1 mX10_arePair 0 [(0, fz_r 0), (1, fz_i a)] [] h (qX10_arePair h a) := by
  refine fz_knowl (fun hk => ?_)
  have hr_a : -2147483648 ≤ a ∧ a < 2147483648 := hk _ (List.Mem.tail _ (List.Mem.head _))
  clear hk
  have b1 : 0 ≤ h 1 7 ∧ h 1 7 ≤ 8 := hI.1 1 _
  refine fz_iload_n kX10_arePair rfl rfl ?_
  refine fz_if_lt (tgt := 36) kX10_arePair rfl (by decide) (fun c2 => ?_) (fun c2 => ?_)
  · refine fz_iconst ⟨by decide, by decide⟩ kX10_arePair rfl ?_
    exact fz_zret kX10_arePair rfl rfl (by omega) ⟨rfl, _, rfl, Or.inr ⟨rfl, by omega⟩⟩
  · refine fz_aload_n kX10_arePair rfl rfl ?_
    refine fz_getR (t := 1) kX10_arePair rfl rfl ?_
    refine fz_iload_n kX10_arePair rfl rfl ?_
    refine fz_bipush ⟨by decide, by decide⟩ kX10_arePair rfl ?_
    refine fz_idivN kX10_arePair rfl (by omega) (by omega) (by omega) ?_
    refine fz_callV (d' := 0) (M' := mX2_isTown) (As := [fz_i (a / 10)]) (st := []) kX10_arePair rfl rfl vX2_isTown rfl rfl rfl rfl (Nat.le_of_ble_eq_true rfl) (Nat.le_of_ble_eq_true rfl) (by decide) (sX2_isTown h hI (a / 10) ) (fun H3 r4 q5 o6 => ?_)
    obtain ⟨e7, y8, rfl, p9⟩ := q5
    subst H3
    clear o6
    rcases p9 with ⟨rfl, c10⟩ | ⟨rfl, c10⟩
    · refine fz_if_eq (tgt := 36) kX10_arePair rfl (by decide) (fun c11 => ?_) (fun c11 => ?_)
      · exfalso; omega
      · refine fz_aload_n kX10_arePair rfl rfl ?_
        refine fz_getR (t := 1) kX10_arePair rfl rfl ?_
        refine fz_iload_n kX10_arePair rfl rfl ?_
        refine fz_bipush ⟨by decide, by decide⟩ kX10_arePair rfl ?_
        refine fz_iremN kX10_arePair rfl (by omega) (by omega) (by omega) ?_
        refine fz_callV (d' := 0) (M' := mX2_isTown) (As := [fz_i (a % 10)]) (st := []) kX10_arePair rfl rfl vX2_isTown rfl rfl rfl rfl (Nat.le_of_ble_eq_true rfl) (Nat.le_of_ble_eq_true rfl) (by decide) (sX2_isTown h hI (a % 10) ) (fun H12 r13 q14 o15 => ?_)
        obtain ⟨e16, y17, rfl, p18⟩ := q14
        subst H12
        clear o15
        rcases p18 with ⟨rfl, c19⟩ | ⟨rfl, c19⟩
        · refine fz_if_eq (tgt := 36) kX10_arePair rfl (by decide) (fun c20 => ?_) (fun c20 => ?_)
          · exfalso; omega
          · refine fz_iconst ⟨by decide, by decide⟩ kX10_arePair rfl ?_
            refine fz_goto (tgt := 37) kX10_arePair rfl (by decide) ?_
            exact fz_zret kX10_arePair rfl rfl (by omega) ⟨rfl, _, rfl, Or.inl ⟨rfl, by omega⟩⟩
        · refine fz_if_eq (tgt := 36) kX10_arePair rfl (by decide) (fun c21 => ?_) (fun c21 => ?_)
          · refine fz_iconst ⟨by decide, by decide⟩ kX10_arePair rfl ?_
            exact fz_zret kX10_arePair rfl rfl (by omega) ⟨rfl, _, rfl, Or.inr ⟨rfl, by omega⟩⟩
          · exfalso; omega
    · refine fz_if_eq (tgt := 36) kX10_arePair rfl (by decide) (fun c22 => ?_) (fun c22 => ?_)
      · refine fz_iconst ⟨by decide, by decide⟩ kX10_arePair rfl ?_
        exact fz_zret kX10_arePair rfl rfl (by omega) ⟨rfl, _, rfl, Or.inr ⟨rfl, by omega⟩⟩
      · exfalso; omega

abbrev qX10_isMendable (h : fz_H) (nu wh : Int) : fz_H → Option fz_V → Prop := fun h' r0 => h' = h ∧ ∃ r : Int, r0 = some (fz_i r) ∧ ((r = 1 ∧ ((wh = 0 ∧ 0 ≤ nu ∧ nu < h 1 7) ∨ (wh = 1 ∧ 0 ≤ nu ∧ nu < h 1 8) ∨ (wh = 2 ∧ 0 ≤ nu ∧ nu < h 1 8) ∨ (wh = 3 ∧ 0 ≤ nu ∧ nu < h 9 5) ∨ (wh = 4 ∧ 0 ≤ nu ∧ nu < h 9 5) ∨ (wh = 5 ∧ 0 ≤ nu ∧ nu < h 9 5) ∨ (wh = 6 ∧ 0 ≤ nu ∧ nu < 5) ∨ (wh = 7 ∧ nu = 0) ∨ (wh = 8 ∧ nu = 0))) ∨ (r = 0 ∧ ¬ ((wh = 0 ∧ 0 ≤ nu ∧ nu < h 1 7) ∨ (wh = 1 ∧ 0 ≤ nu ∧ nu < h 1 8) ∨ (wh = 2 ∧ 0 ≤ nu ∧ nu < h 1 8) ∨ (wh = 3 ∧ 0 ≤ nu ∧ nu < h 9 5) ∨ (wh = 4 ∧ 0 ≤ nu ∧ nu < h 9 5) ∨ (wh = 5 ∧ 0 ≤ nu ∧ nu < h 9 5) ∨ (wh = 6 ∧ 0 ≤ nu ∧ nu < 5) ∨ (wh = 7 ∧ nu = 0) ∨ (wh = 8 ∧ nu = 0))))
set_option maxHeartbeats 1000000 in
set_option maxRecDepth 100000 in
theorem sX10_isMendable (h : fz_H) (hI : fz_Iv h) (nu wh : Int) : fz_R 1 mX10_isMendable 0 [(0, fz_r 0), (1, fz_i nu), (2, fz_i wh)] [] h (qX10_isMendable h nu wh) := by
  refine fz_knowl (fun hk => ?_)
  have hr_nu : -2147483648 ≤ nu ∧ nu < 2147483648 := hk _ (List.Mem.tail _ (List.Mem.head _))
  have hr_wh : -2147483648 ≤ wh ∧ wh < 2147483648 := hk _ (List.Mem.tail _ (List.Mem.tail _ (List.Mem.head _)))
  clear hk
  have b1 : 0 ≤ h 1 7 ∧ h 1 7 ≤ 8 := hI.1 1 _
  have b2 : 0 ≤ h 1 8 ∧ h 1 8 ≤ 12 := hI.1 1 _
  have b3 : 0 ≤ h 9 5 ∧ h 9 5 ≤ 10 := hI.1 9 _
  refine fz_iload_n kX10_isMendable rfl rfl ?_
  rcases (show wh = 0 ∨ wh = 1 ∨ wh = 2 ∨ wh = 3 ∨ wh = 4 ∨ wh = 5 ∨ wh = 6 ∨ wh = 7 ∨ wh = 8 ∨ (wh < 0 ∨ 8 < wh) by omega) with c4 | c4 | c4 | c4 | c4 | c4 | c4 | c4 | c4 | c4
  · refine fz_tswC (j := 0) (tgt := 52) kX10_isMendable rfl c4 (by decide) (by decide) rfl (by decide) ?_
    refine fz_aload_n kX10_isMendable rfl rfl ?_
    refine fz_getR (t := 1) kX10_isMendable rfl rfl ?_
    refine fz_iload_n kX10_isMendable rfl rfl ?_
    refine fz_callV (d' := 0) (M' := mX2_isTown) (As := [fz_i nu]) (st := []) kX10_isMendable rfl rfl vX2_isTown rfl rfl rfl rfl (Nat.le_of_ble_eq_true rfl) (Nat.le_of_ble_eq_true rfl) (by decide) (sX2_isTown h hI nu ) (fun H5 r6 q7 o8 => ?_)
    obtain ⟨e9, y10, rfl, p11⟩ := q7
    subst H5
    clear o8
    rcases p11 with ⟨rfl, c12⟩ | ⟨rfl, c12⟩
    · exact fz_zret kX10_isMendable rfl rfl (by omega) ⟨rfl, _, rfl, Or.inl ⟨rfl, by omega⟩⟩
    · exact fz_zret kX10_isMendable rfl rfl (by omega) ⟨rfl, _, rfl, Or.inr ⟨rfl, by omega⟩⟩
  · refine fz_tswC (j := 1) (tgt := 61) kX10_isMendable rfl c4 (by decide) (by decide) rfl (by decide) ?_
    refine fz_aload_n kX10_isMendable rfl rfl ?_
    refine fz_getR (t := 1) kX10_isMendable rfl rfl ?_
    refine fz_iload_n kX10_isMendable rfl rfl ?_
    refine fz_callV (d' := 0) (M' := mX2_isRoad) (As := [fz_i nu]) (st := []) kX10_isMendable rfl rfl vX2_isRoad rfl rfl rfl rfl (Nat.le_of_ble_eq_true rfl) (Nat.le_of_ble_eq_true rfl) (by decide) (sX2_isRoad h hI nu ) (fun H13 r14 q15 o16 => ?_)
    obtain ⟨e17, y18, rfl, p19⟩ := q15
    subst H13
    clear o16
    rcases p19 with ⟨rfl, c20⟩ | ⟨rfl, c20⟩
    · exact fz_zret kX10_isMendable rfl rfl (by omega) ⟨rfl, _, rfl, Or.inl ⟨rfl, by omega⟩⟩
    · exact fz_zret kX10_isMendable rfl rfl (by omega) ⟨rfl, _, rfl, Or.inr ⟨rfl, by omega⟩⟩
  · refine fz_tswC (j := 2) (tgt := 61) kX10_isMendable rfl c4 (by decide) (by decide) rfl (by decide) ?_
    refine fz_aload_n kX10_isMendable rfl rfl ?_
    refine fz_getR (t := 1) kX10_isMendable rfl rfl ?_
    refine fz_iload_n kX10_isMendable rfl rfl ?_
    refine fz_callV (d' := 0) (M' := mX2_isRoad) (As := [fz_i nu]) (st := []) kX10_isMendable rfl rfl vX2_isRoad rfl rfl rfl rfl (Nat.le_of_ble_eq_true rfl) (Nat.le_of_ble_eq_true rfl) (by decide) (sX2_isRoad h hI nu ) (fun H21 r22 q23 o24 => ?_)
    obtain ⟨e25, y26, rfl, p27⟩ := q23
    subst H21
    clear o24
    rcases p27 with ⟨rfl, c28⟩ | ⟨rfl, c28⟩
    · exact fz_zret kX10_isMendable rfl rfl (by omega) ⟨rfl, _, rfl, Or.inl ⟨rfl, by omega⟩⟩
    · exact fz_zret kX10_isMendable rfl rfl (by omega) ⟨rfl, _, rfl, Or.inr ⟨rfl, by omega⟩⟩
  · refine fz_tswC (j := 3) (tgt := 70) kX10_isMendable rfl c4 (by decide) (by decide) rfl (by decide) ?_
    refine fz_aload_n kX10_isMendable rfl rfl ?_
    refine fz_getR (t := 9) kX10_isMendable rfl rfl ?_
    refine fz_iload_n kX10_isMendable rfl rfl ?_
    refine fz_callV (d' := 0) (M' := mX4_isDeed) (As := [fz_i nu]) (st := []) kX10_isMendable rfl rfl vX4_isDeed rfl rfl rfl rfl (Nat.le_of_ble_eq_true rfl) (Nat.le_of_ble_eq_true rfl) (by decide) (sX4_isDeed h hI nu ) (fun H29 r30 q31 o32 => ?_)
    obtain ⟨e33, y34, rfl, p35⟩ := q31
    subst H29
    clear o32
    rcases p35 with ⟨rfl, c36⟩ | ⟨rfl, c36⟩
    · exact fz_zret kX10_isMendable rfl rfl (by omega) ⟨rfl, _, rfl, Or.inl ⟨rfl, by omega⟩⟩
    · exact fz_zret kX10_isMendable rfl rfl (by omega) ⟨rfl, _, rfl, Or.inr ⟨rfl, by omega⟩⟩
  · refine fz_tswC (j := 4) (tgt := 70) kX10_isMendable rfl c4 (by decide) (by decide) rfl (by decide) ?_
    refine fz_aload_n kX10_isMendable rfl rfl ?_
    refine fz_getR (t := 9) kX10_isMendable rfl rfl ?_
    refine fz_iload_n kX10_isMendable rfl rfl ?_
    refine fz_callV (d' := 0) (M' := mX4_isDeed) (As := [fz_i nu]) (st := []) kX10_isMendable rfl rfl vX4_isDeed rfl rfl rfl rfl (Nat.le_of_ble_eq_true rfl) (Nat.le_of_ble_eq_true rfl) (by decide) (sX4_isDeed h hI nu ) (fun H37 r38 q39 o40 => ?_)
    obtain ⟨e41, y42, rfl, p43⟩ := q39
    subst H37
    clear o40
    rcases p43 with ⟨rfl, c44⟩ | ⟨rfl, c44⟩
    · exact fz_zret kX10_isMendable rfl rfl (by omega) ⟨rfl, _, rfl, Or.inl ⟨rfl, by omega⟩⟩
    · exact fz_zret kX10_isMendable rfl rfl (by omega) ⟨rfl, _, rfl, Or.inr ⟨rfl, by omega⟩⟩
  · refine fz_tswC (j := 5) (tgt := 70) kX10_isMendable rfl c4 (by decide) (by decide) rfl (by decide) ?_
    refine fz_aload_n kX10_isMendable rfl rfl ?_
    refine fz_getR (t := 9) kX10_isMendable rfl rfl ?_
    refine fz_iload_n kX10_isMendable rfl rfl ?_
    refine fz_callV (d' := 0) (M' := mX4_isDeed) (As := [fz_i nu]) (st := []) kX10_isMendable rfl rfl vX4_isDeed rfl rfl rfl rfl (Nat.le_of_ble_eq_true rfl) (Nat.le_of_ble_eq_true rfl) (by decide) (sX4_isDeed h hI nu ) (fun H45 r46 q47 o48 => ?_)
    obtain ⟨e49, y50, rfl, p51⟩ := q47
    subst H45
    clear o48
    rcases p51 with ⟨rfl, c52⟩ | ⟨rfl, c52⟩
    · exact fz_zret kX10_isMendable rfl rfl (by omega) ⟨rfl, _, rfl, Or.inl ⟨rfl, by omega⟩⟩
    · exact fz_zret kX10_isMendable rfl rfl (by omega) ⟨rfl, _, rfl, Or.inr ⟨rfl, by omega⟩⟩
  · refine fz_tswC (j := 6) (tgt := 79) kX10_isMendable rfl c4 (by decide) (by decide) rfl (by decide) ?_
    refine fz_iload_n kX10_isMendable rfl rfl ?_
    refine fz_if_lt (tgt := 92) kX10_isMendable rfl (by decide) (fun c53 => ?_) (fun c53 => ?_)
    · refine fz_iconst ⟨by decide, by decide⟩ kX10_isMendable rfl ?_
      exact fz_zret kX10_isMendable rfl rfl (by omega) ⟨rfl, _, rfl, Or.inr ⟨rfl, by omega⟩⟩
    · refine fz_iload_n kX10_isMendable rfl rfl ?_
      refine fz_iconst ⟨by decide, by decide⟩ kX10_isMendable rfl ?_
      refine fz_icmp_ge (tgt := 92) kX10_isMendable rfl (by decide) (fun c54 => ?_) (fun c54 => ?_)
      · refine fz_iconst ⟨by decide, by decide⟩ kX10_isMendable rfl ?_
        exact fz_zret kX10_isMendable rfl rfl (by omega) ⟨rfl, _, rfl, Or.inr ⟨rfl, by omega⟩⟩
      · refine fz_iconst ⟨by decide, by decide⟩ kX10_isMendable rfl ?_
        refine fz_goto (tgt := 93) kX10_isMendable rfl (by decide) ?_
        exact fz_zret kX10_isMendable rfl rfl (by omega) ⟨rfl, _, rfl, Or.inl ⟨rfl, by omega⟩⟩
  · refine fz_tswC (j := 7) (tgt := 94) kX10_isMendable rfl c4 (by decide) (by decide) rfl (by decide) ?_
    refine fz_iload_n kX10_isMendable rfl rfl ?_
    refine fz_if_ne (tgt := 102) kX10_isMendable rfl (by decide) (fun c55 => ?_) (fun c55 => ?_)
    · refine fz_iconst ⟨by decide, by decide⟩ kX10_isMendable rfl ?_
      exact fz_zret kX10_isMendable rfl rfl (by omega) ⟨rfl, _, rfl, Or.inr ⟨rfl, by omega⟩⟩
    · refine fz_iconst ⟨by decide, by decide⟩ kX10_isMendable rfl ?_
      refine fz_goto (tgt := 103) kX10_isMendable rfl (by decide) ?_
      exact fz_zret kX10_isMendable rfl rfl (by omega) ⟨rfl, _, rfl, Or.inl ⟨rfl, by omega⟩⟩
  · refine fz_tswC (j := 8) (tgt := 94) kX10_isMendable rfl c4 (by decide) (by decide) rfl (by decide) ?_
    refine fz_iload_n kX10_isMendable rfl rfl ?_
    refine fz_if_ne (tgt := 102) kX10_isMendable rfl (by decide) (fun c56 => ?_) (fun c56 => ?_)
    · refine fz_iconst ⟨by decide, by decide⟩ kX10_isMendable rfl ?_
      exact fz_zret kX10_isMendable rfl rfl (by omega) ⟨rfl, _, rfl, Or.inr ⟨rfl, by omega⟩⟩
    · refine fz_iconst ⟨by decide, by decide⟩ kX10_isMendable rfl ?_
      refine fz_goto (tgt := 103) kX10_isMendable rfl (by decide) ?_
      exact fz_zret kX10_isMendable rfl rfl (by omega) ⟨rfl, _, rfl, Or.inl ⟨rfl, by omega⟩⟩
  · refine fz_tswO (tgt := 104) kX10_isMendable rfl c4 (by decide) ?_
    refine fz_iconst ⟨by decide, by decide⟩ kX10_isMendable rfl ?_
    exact fz_zret kX10_isMendable rfl rfl (by omega) ⟨rfl, _, rfl, Or.inr ⟨rfl, by omega⟩⟩

abbrev qX10_town (h : fz_H) (df : Int) : fz_H → Option fz_V → Prop := fun h' r0 => fz_Iv h' ∧ fz_fr [(1, 7), (2, 99999), (7, 99999), (8, 99999)] h h' ∧ ∃ r : Int, r0 = some (fz_i r) ∧ ((-3) ≤ r ∧ r ≤ 7) ∧ (((0 ≤ df ∧ df ≤ 9) ∧ h 1 7 < 8 ∧ r = h 1 7 ∧ h' 1 7 = h 1 7 + 1) ∨ ((0 ≤ df ∧ df ≤ 9) ∧ 8 ≤ h 1 7 ∧ r = -3 ∧ h' 1 7 = h 1 7) ∨ (¬ (0 ≤ df ∧ df ≤ 9) ∧ r = -1 ∧ h' 1 7 = h 1 7))
set_option maxHeartbeats 1000000 in
set_option maxRecDepth 100000 in
theorem sX10_town (h : fz_H) (hI : fz_Iv h) (df : Int) : fz_R 4 mX10_town 0 [(0, fz_r 0), (1, fz_i df)] [] h (qX10_town h df) := by
  refine fz_knowl (fun hk => ?_)
  have hr_df : -2147483648 ≤ df ∧ df < 2147483648 := hk _ (List.Mem.tail _ (List.Mem.head _))
  clear hk
  have hf : fz_fr [(1, 7), (2, 99999), (7, 99999), (8, 99999)] h h := fz_fr_rf
  have b1 : 0 ≤ h 1 7 ∧ h 1 7 ≤ 8 := hI.1 1 _
  refine fz_iload_n kX10_town rfl rfl ?_
  refine fz_gets kX10_town rfl ?_
  refine fz_iconst ⟨by decide, by decide⟩ kX10_town rfl ?_
  refine fz_taldV (v := 0) kX10_town rfl ⟨by decide, by decide⟩ (by omega) (by rw [hI.2.1]; decide) (by rw [hI.2.1]; rfl) ?_
  refine fz_icmp_lt (tgt := 18) kX10_town rfl (by decide) (fun c4 => ?_) (fun c4 => ?_)
  · refine fz_iconst ⟨by decide, by decide⟩ kX10_town rfl ?_
    exact fz_iret kX10_town rfl rfl (fun _ => ⟨hI, hf, _, rfl, (by omega), (by omega)⟩)
  · refine fz_iload_n kX10_town rfl rfl ?_
    refine fz_gets kX10_town rfl ?_
    refine fz_iconst ⟨by decide, by decide⟩ kX10_town rfl ?_
    refine fz_taldV (v := 9) kX10_town rfl ⟨by decide, by decide⟩ (by omega) (by rw [hI.2.2.1]; decide) (by rw [hI.2.2.1]; rfl) ?_
    refine fz_icmp_le (tgt := 20) kX10_town rfl (by decide) (fun c7 => ?_) (fun c7 => ?_)
    · refine fz_aload_n kX10_town rfl rfl ?_
      refine fz_getR (t := 1) kX10_town rfl rfl ?_
      refine fz_iload_n kX10_town rfl rfl ?_
      refine fz_callV (d' := 3) (M' := mX2_addTown) (As := [fz_i df]) (st := []) kX10_town rfl rfl vX2_addTown rfl rfl rfl rfl (Nat.le_of_ble_eq_true rfl) (Nat.le_of_ble_eq_true rfl) (by decide) (sX2_addTown h hI df (by omega)) (fun H8 r9 q10 o11 => ?_)
      obtain ⟨hI12, hf13, y16, rfl, f14, f15⟩ := q10
      clear o11
      have hf17 := fz_fr_tr hf hf13 (show fz_su [(1, 7), (2, 99999), (7, 99999), (8, 99999)] [(1, 7), (2, 99999), (7, 99999), (8, 99999)] = true from rfl)
      exact fz_iret kX10_town rfl rfl (fun _ => ⟨hI12, hf17, _, rfl, (by omega), (by omega)⟩)
    · refine fz_iconst ⟨by decide, by decide⟩ kX10_town rfl ?_
      exact fz_iret kX10_town rfl rfl (fun _ => ⟨hI, hf, _, rfl, (by omega), (by omega)⟩)

abbrev qX10_road (h : fz_H) (ab ln : Int) : fz_H → Option fz_V → Prop := fun h' r0 => fz_Iv h' ∧ fz_fr [(1, 8), (3, 99999), (4, 99999), (5, 99999), (6, 99999), (7, 99999), (8, 99999)] h h' ∧ ∃ r : Int, r0 = some (fz_i r) ∧ ((-3) ≤ r ∧ r ≤ 11) ∧ (((0 ≤ ab ∧ ab / 10 < h 1 7 ∧ ab % 10 < h 1 7 ∧ ab / 10 ≠ ab % 10 ∧ 1 ≤ ln ∧ ln ≤ 24) ∧ h 1 8 < 12 ∧ r = h 1 8 ∧ h' 1 8 = h 1 8 + 1) ∨ ((0 ≤ ab ∧ ab / 10 < h 1 7 ∧ ab % 10 < h 1 7 ∧ ab / 10 ≠ ab % 10 ∧ 1 ≤ ln ∧ ln ≤ 24) ∧ 12 ≤ h 1 8 ∧ r = -3 ∧ h' 1 8 = h 1 8) ∨ (¬ (0 ≤ ab ∧ ab / 10 < h 1 7 ∧ ab % 10 < h 1 7 ∧ ab / 10 ≠ ab % 10 ∧ 1 ≤ ln ∧ ln ≤ 24) ∧ r = -1 ∧ h' 1 8 = h 1 8))
set_option maxHeartbeats 1000000 in
set_option maxRecDepth 100000 in
theorem sX10_road (h : fz_H) (hI : fz_Iv h) (ab ln : Int) : fz_R 4 mX10_road 0 [(0, fz_r 0), (1, fz_i ab), (2, fz_i ln)] [] h (qX10_road h ab ln) := by
  refine fz_knowl (fun hk => ?_)
  have hr_ab : -2147483648 ≤ ab ∧ ab < 2147483648 := hk _ (List.Mem.tail _ (List.Mem.head _))
  have hr_ln : -2147483648 ≤ ln ∧ ln < 2147483648 := hk _ (List.Mem.tail _ (List.Mem.tail _ (List.Mem.head _)))
  clear hk
  have hf : fz_fr [(1, 8), (3, 99999), (4, 99999), (5, 99999), (6, 99999), (7, 99999), (8, 99999)] h h := fz_fr_rf
  have b1 : 0 ≤ h 1 7 ∧ h 1 7 ≤ 8 := hI.1 1 _
  have b2 : 0 ≤ h 1 8 ∧ h 1 8 ≤ 12 := hI.1 1 _
  refine fz_aload_n kX10_road rfl rfl ?_
  refine fz_iload_n kX10_road rfl rfl ?_
  refine fz_callV (d' := 1) (M' := mX10_arePair) (As := [fz_i ab]) (st := []) kX10_road rfl rfl vX10_arePair rfl rfl rfl rfl (Nat.le_of_ble_eq_true rfl) (Nat.le_of_ble_eq_true rfl) (by decide) (sX10_arePair h hI ab ) (fun H3 r4 q5 o6 => ?_)
  obtain ⟨e7, y8, rfl, p9⟩ := q5
  subst H3
  clear o6
  rcases p9 with ⟨rfl, c10⟩ | ⟨rfl, c10⟩
  · refine fz_if_eq (tgt := 37) kX10_road rfl (by decide) (fun c11 => ?_) (fun c11 => ?_)
    · exfalso; omega
    · refine fz_iload_n kX10_road rfl rfl ?_
      refine fz_bipush ⟨by decide, by decide⟩ kX10_road rfl ?_
      refine fz_idivN kX10_road rfl (by omega) (by omega) (by omega) ?_
      refine fz_iload_n kX10_road rfl rfl ?_
      refine fz_bipush ⟨by decide, by decide⟩ kX10_road rfl ?_
      refine fz_iremN kX10_road rfl (by omega) (by omega) (by omega) ?_
      refine fz_icmp_eq (tgt := 37) kX10_road rfl (by decide) (fun c12 => ?_) (fun c12 => ?_)
      · refine fz_iconst ⟨by decide, by decide⟩ kX10_road rfl ?_
        exact fz_iret kX10_road rfl rfl (fun _ => ⟨hI, hf, _, rfl, (by omega), (by omega)⟩)
      · refine fz_iload_n kX10_road rfl rfl ?_
        refine fz_gets kX10_road rfl ?_
        refine fz_iconst ⟨by decide, by decide⟩ kX10_road rfl ?_
        refine fz_taldV (v := 1) kX10_road rfl ⟨by decide, by decide⟩ (by omega) (by rw [hI.2.1]; decide) (by rw [hI.2.1]; rfl) ?_
        refine fz_icmp_lt (tgt := 37) kX10_road rfl (by decide) (fun c15 => ?_) (fun c15 => ?_)
        · refine fz_iconst ⟨by decide, by decide⟩ kX10_road rfl ?_
          exact fz_iret kX10_road rfl rfl (fun _ => ⟨hI, hf, _, rfl, (by omega), (by omega)⟩)
        · refine fz_iload_n kX10_road rfl rfl ?_
          refine fz_gets kX10_road rfl ?_
          refine fz_iconst ⟨by decide, by decide⟩ kX10_road rfl ?_
          refine fz_taldV (v := 24) kX10_road rfl ⟨by decide, by decide⟩ (by omega) (by rw [hI.2.2.1]; decide) (by rw [hI.2.2.1]; rfl) ?_
          refine fz_icmp_le (tgt := 39) kX10_road rfl (by decide) (fun c18 => ?_) (fun c18 => ?_)
          · refine fz_aload_n kX10_road rfl rfl ?_
            refine fz_getR (t := 1) kX10_road rfl rfl ?_
            refine fz_iload_n kX10_road rfl rfl ?_
            refine fz_bipush ⟨by decide, by decide⟩ kX10_road rfl ?_
            refine fz_idivN kX10_road rfl (by omega) (by omega) (by omega) ?_
            refine fz_iload_n kX10_road rfl rfl ?_
            refine fz_bipush ⟨by decide, by decide⟩ kX10_road rfl ?_
            refine fz_iremN kX10_road rfl (by omega) (by omega) (by omega) ?_
            refine fz_iload_n kX10_road rfl rfl ?_
            refine fz_callV (d' := 3) (M' := mX2_addRoad) (As := [fz_i (ab / 10), fz_i (ab % 10), fz_i ln]) (st := []) kX10_road rfl rfl vX2_addRoad rfl rfl rfl rfl (Nat.le_of_ble_eq_true rfl) (Nat.le_of_ble_eq_true rfl) (by decide) (sX2_addRoad h hI (ab / 10) (ab % 10) ln (by omega) (by omega) (by omega)) (fun H19 r20 q21 o22 => ?_)
            obtain ⟨hI23, hf24, y27, rfl, f25, f26⟩ := q21
            clear o22
            have hf28 := fz_fr_tr hf hf24 (show fz_su [(1, 8), (3, 99999), (4, 99999), (5, 99999), (6, 99999), (7, 99999), (8, 99999)] [(1, 8), (3, 99999), (4, 99999), (5, 99999), (6, 99999), (7, 99999), (8, 99999)] = true from rfl)
            exact fz_iret kX10_road rfl rfl (fun _ => ⟨hI23, hf28, _, rfl, (by omega), (by omega)⟩)
          · refine fz_iconst ⟨by decide, by decide⟩ kX10_road rfl ?_
            exact fz_iret kX10_road rfl rfl (fun _ => ⟨hI, hf, _, rfl, (by omega), (by omega)⟩)
  · refine fz_if_eq (tgt := 37) kX10_road rfl (by decide) (fun c29 => ?_) (fun c29 => ?_)
    · refine fz_iconst ⟨by decide, by decide⟩ kX10_road rfl ?_
      exact fz_iret kX10_road rfl rfl (fun _ => ⟨hI, hf, _, rfl, (by omega), (by omega)⟩)
    · exfalso; omega

abbrev qX10_deed (h : fz_H) (pm th wt : Int) : fz_H → Option fz_V → Prop := fun h' r0 => fz_Iv h' ∧ fz_fr [(9, 5), (10, 99999), (11, 99999), (12, 99999), (13, 99999), (14, 99999)] h h' ∧ ∃ r : Int, r0 = some (fz_i r) ∧ ((-3) ≤ r ∧ r ≤ 9)
set_option maxHeartbeats 1000000 in
set_option maxRecDepth 100000 in
theorem sX10_deed (h : fz_H) (hI : fz_Iv h) (pm th wt : Int) : fz_R 2 mX10_deed 0 [(0, fz_r 0), (1, fz_i pm), (2, fz_i th), (3, fz_i wt)] [] h (qX10_deed h pm th wt) := by
  refine fz_knowl (fun hk => ?_)
  have hr_pm : -2147483648 ≤ pm ∧ pm < 2147483648 := hk _ (List.Mem.tail _ (List.Mem.head _))
  have hr_th : -2147483648 ≤ th ∧ th < 2147483648 := hk _ (List.Mem.tail _ (List.Mem.tail _ (List.Mem.head _)))
  have hr_wt : -2147483648 ≤ wt ∧ wt < 2147483648 := hk _ (List.Mem.tail _ (List.Mem.tail _ (List.Mem.tail _ (List.Mem.head _))))
  clear hk
  have hf : fz_fr [(9, 5), (10, 99999), (11, 99999), (12, 99999), (13, 99999), (14, 99999)] h h := fz_fr_rf
  refine fz_aload_n kX10_deed rfl rfl ?_
  refine fz_iload_n kX10_deed rfl rfl ?_
  refine fz_callV (d' := 1) (M' := mX10_isMarkOfOne) (As := [fz_i pm]) (st := []) kX10_deed rfl rfl vX10_isMarkOfOne rfl rfl rfl rfl (Nat.le_of_ble_eq_true rfl) (Nat.le_of_ble_eq_true rfl) (by decide) (sX10_isMarkOfOne h hI pm ) (fun H1 r2 q3 o4 => ?_)
  obtain ⟨e5, y6, rfl, p7⟩ := q3
  subst H1
  clear o4
  rcases p7 with ⟨rfl, c8⟩ | ⟨rfl, c8⟩
  · refine fz_if_eq (tgt := 24) kX10_deed rfl (by decide) (fun c9 => ?_) (fun c9 => ?_)
    · exfalso; omega
    · refine fz_aload_n kX10_deed rfl rfl ?_
      refine fz_iload_n kX10_deed rfl rfl ?_
      have b10 : 0 ≤ h 1 7 ∧ h 1 7 ≤ 8 := hI.1 1 _
      refine fz_callV (d' := 1) (M' := mX10_isTownAndHour) (As := [fz_i th]) (st := []) kX10_deed rfl rfl vX10_isTownAndHour rfl rfl rfl rfl (Nat.le_of_ble_eq_true rfl) (Nat.le_of_ble_eq_true rfl) (by decide) (sX10_isTownAndHour h hI th ) (fun H11 r12 q13 o14 => ?_)
      obtain ⟨e15, y16, rfl, p17⟩ := q13
      subst H11
      clear o14
      rcases p17 with ⟨rfl, c18⟩ | ⟨rfl, c18⟩
      · refine fz_if_eq (tgt := 24) kX10_deed rfl (by decide) (fun c19 => ?_) (fun c19 => ?_)
        · exfalso; omega
        · refine fz_aload_n kX10_deed rfl rfl ?_
          refine fz_iload_n kX10_deed rfl rfl ?_
          refine fz_callV (d' := 0) (M' := mX10_isWeight) (As := [fz_i wt]) (st := []) kX10_deed rfl rfl vX10_isWeight rfl rfl rfl rfl (Nat.le_of_ble_eq_true rfl) (Nat.le_of_ble_eq_true rfl) (by decide) (sX10_isWeight h hI wt ) (fun H20 r21 q22 o23 => ?_)
          obtain ⟨e24, y25, rfl, p26⟩ := q22
          subst H20
          clear o23
          rcases p26 with ⟨rfl, c27⟩ | ⟨rfl, c27⟩
          · refine fz_if_ne (tgt := 26) kX10_deed rfl (by decide) (fun c28 => ?_) (fun c28 => ?_)
            · refine fz_aload_n kX10_deed rfl rfl ?_
              refine fz_getR (t := 9) kX10_deed rfl rfl ?_
              refine fz_iload_n kX10_deed rfl rfl ?_
              refine fz_bipush ⟨by decide, by decide⟩ kX10_deed rfl ?_
              refine fz_idivN kX10_deed rfl (by omega) (by omega) (by omega) ?_
              refine fz_iload_n kX10_deed rfl rfl ?_
              refine fz_sipush ⟨by decide, by decide⟩ kX10_deed rfl ?_
              refine fz_idivN kX10_deed rfl (by omega) (by omega) (by omega) ?_
              refine fz_iload_n kX10_deed rfl rfl ?_
              refine fz_sipush ⟨by decide, by decide⟩ kX10_deed rfl ?_
              refine fz_iremN kX10_deed rfl (by omega) (by omega) (by omega) ?_
              refine fz_iload_n kX10_deed rfl rfl ?_
              refine fz_bipush ⟨by decide, by decide⟩ kX10_deed rfl ?_
              refine fz_iremN kX10_deed rfl (by omega) (by omega) (by omega) ?_
              refine fz_iload_n kX10_deed rfl rfl ?_
              refine fz_callV (d' := 1) (M' := mX4_enter) (As := [fz_i (pm / 10), fz_i (th / 1000), fz_i (th % 1000), fz_i (pm % 10), fz_i wt]) (st := []) kX10_deed rfl rfl vX4_enter rfl rfl rfl rfl (Nat.le_of_ble_eq_true rfl) (Nat.le_of_ble_eq_true rfl) (by decide) (sX4_enter h hI (pm / 10) (th / 1000) (th % 1000) (pm % 10) wt (by omega) (by omega) (by omega) (by omega) (by omega)) (fun H29 r30 q31 o32 => ?_)
              obtain ⟨hI33, hf34, y36, rfl, f35⟩ := q31
              clear o32
              have hf37 := fz_fr_tr hf hf34 (show fz_su [(9, 5), (10, 99999), (11, 99999), (12, 99999), (13, 99999), (14, 99999)] [(9, 5), (10, 99999), (11, 99999), (12, 99999), (13, 99999), (14, 99999)] = true from rfl)
              exact fz_iret kX10_deed rfl rfl (fun _ => ⟨hI33, hf37, _, rfl, (by omega)⟩)
            · exfalso; omega
          · refine fz_if_ne (tgt := 26) kX10_deed rfl (by decide) (fun c38 => ?_) (fun c38 => ?_)
            · exfalso; omega
            · refine fz_iconst ⟨by decide, by decide⟩ kX10_deed rfl ?_
              exact fz_iret kX10_deed rfl rfl (fun _ => ⟨hI, hf, _, rfl, (by omega)⟩)
      · refine fz_if_eq (tgt := 24) kX10_deed rfl (by decide) (fun c39 => ?_) (fun c39 => ?_)
        · refine fz_iconst ⟨by decide, by decide⟩ kX10_deed rfl ?_
          exact fz_iret kX10_deed rfl rfl (fun _ => ⟨hI, hf, _, rfl, (by omega)⟩)
        · exfalso; omega
  · refine fz_if_eq (tgt := 24) kX10_deed rfl (by decide) (fun c40 => ?_) (fun c40 => ?_)
    · refine fz_iconst ⟨by decide, by decide⟩ kX10_deed rfl ?_
      exact fz_iret kX10_deed rfl rfl (fun _ => ⟨hI, hf, _, rfl, (by omega)⟩)
    · exfalso; omega

abbrev qX10_enterFive (h : fz_H) (s i : Int) : fz_H → Option fz_V → Prop := fun h' r0 => fz_Iv h' ∧ fz_fr [(9, 5), (10, 99999), (11, 99999), (12, 99999), (13, 99999), (14, 99999)] h h' ∧ ∃ r : Int, r0 = some (fz_i r) ∧ (r = 0 ∨ r = 1)
set_option maxHeartbeats 1000000 in
set_option maxRecDepth 100000 in
theorem sX10_enterFive (h : fz_H) (hI : fz_Iv h) (s i : Int) (hp0 : 0 ≤ s ∧ s < 6) : fz_R 2 mX10_enterFive 0 [(0, fz_r 0), (1, fz_i s), (2, fz_i i)] [] h (qX10_enterFive h s i) := by
  refine fz_knowl (fun hk => ?_)
  have hr_s : -2147483648 ≤ s ∧ s < 2147483648 := hk _ (List.Mem.tail _ (List.Mem.head _))
  have hr_i : -2147483648 ≤ i ∧ i < 2147483648 := hk _ (List.Mem.tail _ (List.Mem.tail _ (List.Mem.head _)))
  clear hk
  have hf : fz_fr [(9, 5), (10, 99999), (11, 99999), (12, 99999), (13, 99999), (14, 99999)] h h := fz_fr_rf
  refine fz_aload_n kX10_enterFive rfl rfl ?_
  refine fz_getR (t := 47) kX10_enterFive rfl rfl ?_
  refine fz_iload_n kX10_enterFive rfl rfl ?_
  refine fz_iload_n kX10_enterFive rfl rfl ?_
  refine fz_iconst ⟨by decide, by decide⟩ kX10_enterFive rfl ?_
  refine fz_callV (d' := 1) (M' := mX7_hasPlaces) (As := [fz_i s, fz_i i, fz_i 5]) (st := []) kX10_enterFive rfl rfl vX7_hasPlaces rfl rfl rfl rfl (Nat.le_of_ble_eq_true rfl) (Nat.le_of_ble_eq_true rfl) (by decide) (sX7_hasPlaces h hI s i 5 (by omega)) (fun H1 r2 q3 o4 => ?_)
  obtain ⟨e5, y6, rfl, p7⟩ := q3
  subst H1
  clear o4
  rcases p7 with ⟨rfl, c8⟩ | ⟨rfl, c8⟩
  · refine fz_if_ne (tgt := 15) kX10_enterFive rfl (by decide) (fun c9 => ?_) (fun c9 => ?_)
    · refine fz_aload_n kX10_enterFive rfl rfl ?_
      refine fz_getR (t := 47) kX10_enterFive rfl rfl ?_
      refine fz_iload_n kX10_enterFive rfl rfl ?_
      refine fz_iload_n kX10_enterFive rfl rfl ?_
      refine fz_callV (d' := 0) (M' := mX7_get) (As := [fz_i s, fz_i i]) (st := []) kX10_enterFive rfl rfl vX7_get rfl rfl rfl rfl (Nat.le_of_ble_eq_true rfl) (Nat.le_of_ble_eq_true rfl) (by decide) (sX7_get h hI s i (by omega) (by omega)) (fun H10 r11 q12 o13 => ?_)
      obtain ⟨e14, y16, rfl, f15⟩ := q12
      subst H10
      clear o13
      refine fz_l2i kX10_enterFive rfl ?_
      have b17 : -2147483648 ≤ (fz_w y16) ∧ (fz_w y16) < 2147483648 := fz_w_b _
      refine fz_istore_n (ls' := [(3, fz_i (fz_w y16)), (0, fz_r 0), (1, fz_i s), (2, fz_i i)]) kX10_enterFive rfl (by decide) rfl ?_
      refine fz_aload_n kX10_enterFive rfl rfl ?_
      refine fz_getR (t := 47) kX10_enterFive rfl rfl ?_
      refine fz_iload_n kX10_enterFive rfl rfl ?_
      refine fz_iload_n kX10_enterFive rfl rfl ?_
      refine fz_iconst ⟨by decide, by decide⟩ kX10_enterFive rfl ?_
      refine fz_iaddN kX10_enterFive rfl (by omega) ?_
      refine fz_callV (d' := 0) (M' := mX7_get) (As := [fz_i s, fz_i (i + 1)]) (st := []) kX10_enterFive rfl rfl vX7_get rfl rfl rfl rfl (Nat.le_of_ble_eq_true rfl) (Nat.le_of_ble_eq_true rfl) (by decide) (sX7_get h hI s (i + 1) (by omega) (by omega)) (fun H18 r19 q20 o21 => ?_)
      obtain ⟨e22, y24, rfl, f23⟩ := q20
      subst H18
      clear o21
      refine fz_l2i kX10_enterFive rfl ?_
      have b25 : -2147483648 ≤ (fz_w y24) ∧ (fz_w y24) < 2147483648 := fz_w_b _
      refine fz_istore (ls' := [(4, fz_i (fz_w y24)), (3, fz_i (fz_w y16)), (0, fz_r 0), (1, fz_i s), (2, fz_i i)]) kX10_enterFive rfl (by decide) rfl ?_
      refine fz_aload_n kX10_enterFive rfl rfl ?_
      refine fz_getR (t := 47) kX10_enterFive rfl rfl ?_
      refine fz_iload_n kX10_enterFive rfl rfl ?_
      refine fz_iload_n kX10_enterFive rfl rfl ?_
      refine fz_iconst ⟨by decide, by decide⟩ kX10_enterFive rfl ?_
      refine fz_iaddN kX10_enterFive rfl (by omega) ?_
      refine fz_callV (d' := 0) (M' := mX7_get) (As := [fz_i s, fz_i (i + 2)]) (st := []) kX10_enterFive rfl rfl vX7_get rfl rfl rfl rfl (Nat.le_of_ble_eq_true rfl) (Nat.le_of_ble_eq_true rfl) (by decide) (sX7_get h hI s (i + 2) (by omega) (by omega)) (fun H26 r27 q28 o29 => ?_)
      obtain ⟨e30, y32, rfl, f31⟩ := q28
      subst H26
      clear o29
      refine fz_l2i kX10_enterFive rfl ?_
      have b33 : -2147483648 ≤ (fz_w y32) ∧ (fz_w y32) < 2147483648 := fz_w_b _
      refine fz_istore (ls' := [(5, fz_i (fz_w y32)), (4, fz_i (fz_w y24)), (3, fz_i (fz_w y16)), (0, fz_r 0), (1, fz_i s), (2, fz_i i)]) kX10_enterFive rfl (by decide) rfl ?_
      refine fz_aload_n kX10_enterFive rfl rfl ?_
      refine fz_getR (t := 47) kX10_enterFive rfl rfl ?_
      refine fz_iload_n kX10_enterFive rfl rfl ?_
      refine fz_iload_n kX10_enterFive rfl rfl ?_
      refine fz_iconst ⟨by decide, by decide⟩ kX10_enterFive rfl ?_
      refine fz_iaddN kX10_enterFive rfl (by omega) ?_
      refine fz_callV (d' := 0) (M' := mX7_get) (As := [fz_i s, fz_i (i + 3)]) (st := []) kX10_enterFive rfl rfl vX7_get rfl rfl rfl rfl (Nat.le_of_ble_eq_true rfl) (Nat.le_of_ble_eq_true rfl) (by decide) (sX7_get h hI s (i + 3) (by omega) (by omega)) (fun H34 r35 q36 o37 => ?_)
      obtain ⟨e38, y40, rfl, f39⟩ := q36
      subst H34
      clear o37
      refine fz_l2i kX10_enterFive rfl ?_
      have b41 : -2147483648 ≤ (fz_w y40) ∧ (fz_w y40) < 2147483648 := fz_w_b _
      refine fz_istore (ls' := [(6, fz_i (fz_w y40)), (5, fz_i (fz_w y32)), (4, fz_i (fz_w y24)), (3, fz_i (fz_w y16)), (0, fz_r 0), (1, fz_i s), (2, fz_i i)]) kX10_enterFive rfl (by decide) rfl ?_
      refine fz_aload_n kX10_enterFive rfl rfl ?_
      refine fz_getR (t := 47) kX10_enterFive rfl rfl ?_
      refine fz_iload_n kX10_enterFive rfl rfl ?_
      refine fz_iload_n kX10_enterFive rfl rfl ?_
      refine fz_iconst ⟨by decide, by decide⟩ kX10_enterFive rfl ?_
      refine fz_iaddN kX10_enterFive rfl (by omega) ?_
      refine fz_callV (d' := 0) (M' := mX7_get) (As := [fz_i s, fz_i (i + 4)]) (st := []) kX10_enterFive rfl rfl vX7_get rfl rfl rfl rfl (Nat.le_of_ble_eq_true rfl) (Nat.le_of_ble_eq_true rfl) (by decide) (sX7_get h hI s (i + 4) (by omega) (by omega)) (fun H42 r43 q44 o45 => ?_)
      obtain ⟨e46, y48, rfl, f47⟩ := q44
      subst H42
      clear o45
      refine fz_l2i kX10_enterFive rfl ?_
      have b49 : -2147483648 ≤ (fz_w y48) ∧ (fz_w y48) < 2147483648 := fz_w_b _
      refine fz_istore (ls' := [(7, fz_i (fz_w y48)), (6, fz_i (fz_w y40)), (5, fz_i (fz_w y32)), (4, fz_i (fz_w y24)), (3, fz_i (fz_w y16)), (0, fz_r 0), (1, fz_i s), (2, fz_i i)]) kX10_enterFive rfl (by decide) rfl ?_
      refine fz_aload_n kX10_enterFive rfl rfl ?_
      refine fz_iload_n kX10_enterFive rfl rfl ?_
      refine fz_callV (d' := 0) (M' := mX10_isOne) (As := [fz_i (fz_w y16)]) (st := []) kX10_enterFive rfl rfl vX10_isOne rfl rfl rfl rfl (Nat.le_of_ble_eq_true rfl) (Nat.le_of_ble_eq_true rfl) (by decide) (sX10_isOne h hI (fz_w y16) ) (fun H50 r51 q52 o53 => ?_)
      obtain ⟨e54, y55, rfl, p56⟩ := q52
      subst H50
      clear o53
      rcases p56 with ⟨rfl, c57⟩ | ⟨rfl, c57⟩
      · refine fz_if_eq (tgt := 135) kX10_enterFive rfl (by decide) (fun c58 => ?_) (fun c58 => ?_)
        · exfalso; omega
        · refine fz_aload_n kX10_enterFive rfl rfl ?_
          refine fz_getR (t := 1) kX10_enterFive rfl rfl ?_
          refine fz_iload kX10_enterFive rfl rfl ?_
          have b59 : 0 ≤ h 1 7 ∧ h 1 7 ≤ 8 := hI.1 1 _
          refine fz_callV (d' := 0) (M' := mX2_isTown) (As := [fz_i (fz_w y24)]) (st := []) kX10_enterFive rfl rfl vX2_isTown rfl rfl rfl rfl (Nat.le_of_ble_eq_true rfl) (Nat.le_of_ble_eq_true rfl) (by decide) (sX2_isTown h hI (fz_w y24) ) (fun H60 r61 q62 o63 => ?_)
          obtain ⟨e64, y65, rfl, p66⟩ := q62
          subst H60
          clear o63
          rcases p66 with ⟨rfl, c67⟩ | ⟨rfl, c67⟩
          · refine fz_if_eq (tgt := 135) kX10_enterFive rfl (by decide) (fun c68 => ?_) (fun c68 => ?_)
            · exfalso; omega
            · refine fz_aload_n kX10_enterFive rfl rfl ?_
              refine fz_iload kX10_enterFive rfl rfl ?_
              refine fz_callV (d' := 0) (M' := mX10_isHour) (As := [fz_i (fz_w y32)]) (st := []) kX10_enterFive rfl rfl vX10_isHour rfl rfl rfl rfl (Nat.le_of_ble_eq_true rfl) (Nat.le_of_ble_eq_true rfl) (by decide) (sX10_isHour h hI (fz_w y32) ) (fun H69 r70 q71 o72 => ?_)
              obtain ⟨e73, y74, rfl, p75⟩ := q71
              subst H69
              clear o72
              rcases p75 with ⟨rfl, c76⟩ | ⟨rfl, c76⟩
              · refine fz_if_eq (tgt := 135) kX10_enterFive rfl (by decide) (fun c77 => ?_) (fun c77 => ?_)
                · exfalso; omega
                · refine fz_iload kX10_enterFive rfl rfl ?_
                  refine fz_if_lt (tgt := 135) kX10_enterFive rfl (by decide) (fun c78 => ?_) (fun c78 => ?_)
                  · refine fz_iconst ⟨by decide, by decide⟩ kX10_enterFive rfl ?_
                    refine fz_istore (ls' := [(8, fz_i 0), (7, fz_i (fz_w y48)), (6, fz_i (fz_w y40)), (5, fz_i (fz_w y32)), (4, fz_i (fz_w y24)), (3, fz_i (fz_w y16)), (0, fz_r 0), (1, fz_i s), (2, fz_i i)]) kX10_enterFive rfl (by decide) rfl ?_
                    refine fz_iload kX10_enterFive rfl rfl ?_
                    refine fz_if_eq (tgt := 166) kX10_enterFive rfl (by decide) (fun c79 => ?_) (fun c79 => ?_)
                    · refine fz_iconst ⟨by decide, by decide⟩ kX10_enterFive rfl ?_
                      exact fz_zret kX10_enterFive rfl rfl (by omega) ⟨hI, hf, _, rfl, (by omega)⟩
                    · exfalso; omega
                  · refine fz_iload kX10_enterFive rfl rfl ?_
                    refine fz_iconst ⟨by decide, by decide⟩ kX10_enterFive rfl ?_
                    refine fz_icmp_ge (tgt := 135) kX10_enterFive rfl (by decide) (fun c80 => ?_) (fun c80 => ?_)
                    · refine fz_iconst ⟨by decide, by decide⟩ kX10_enterFive rfl ?_
                      refine fz_istore (ls' := [(8, fz_i 0), (7, fz_i (fz_w y48)), (6, fz_i (fz_w y40)), (5, fz_i (fz_w y32)), (4, fz_i (fz_w y24)), (3, fz_i (fz_w y16)), (0, fz_r 0), (1, fz_i s), (2, fz_i i)]) kX10_enterFive rfl (by decide) rfl ?_
                      refine fz_iload kX10_enterFive rfl rfl ?_
                      refine fz_if_eq (tgt := 166) kX10_enterFive rfl (by decide) (fun c81 => ?_) (fun c81 => ?_)
                      · refine fz_iconst ⟨by decide, by decide⟩ kX10_enterFive rfl ?_
                        exact fz_zret kX10_enterFive rfl rfl (by omega) ⟨hI, hf, _, rfl, (by omega)⟩
                      · exfalso; omega
                    · refine fz_aload_n kX10_enterFive rfl rfl ?_
                      refine fz_iload kX10_enterFive rfl rfl ?_
                      refine fz_callV (d' := 0) (M' := mX10_isWeight) (As := [fz_i (fz_w y48)]) (st := []) kX10_enterFive rfl rfl vX10_isWeight rfl rfl rfl rfl (Nat.le_of_ble_eq_true rfl) (Nat.le_of_ble_eq_true rfl) (by decide) (sX10_isWeight h hI (fz_w y48) ) (fun H82 r83 q84 o85 => ?_)
                      obtain ⟨e86, y87, rfl, p88⟩ := q84
                      subst H82
                      clear o85
                      rcases p88 with ⟨rfl, c89⟩ | ⟨rfl, c89⟩
                      · refine fz_if_eq (tgt := 135) kX10_enterFive rfl (by decide) (fun c90 => ?_) (fun c90 => ?_)
                        · exfalso; omega
                        · refine fz_iconst ⟨by decide, by decide⟩ kX10_enterFive rfl ?_
                          refine fz_goto (tgt := 136) kX10_enterFive rfl (by decide) ?_
                          refine fz_istore (ls' := [(8, fz_i 1), (7, fz_i (fz_w y48)), (6, fz_i (fz_w y40)), (5, fz_i (fz_w y32)), (4, fz_i (fz_w y24)), (3, fz_i (fz_w y16)), (0, fz_r 0), (1, fz_i s), (2, fz_i i)]) kX10_enterFive rfl (by decide) rfl ?_
                          refine fz_iload kX10_enterFive rfl rfl ?_
                          refine fz_if_eq (tgt := 166) kX10_enterFive rfl (by decide) (fun c91 => ?_) (fun c91 => ?_)
                          · exfalso; omega
                          · refine fz_aload_n kX10_enterFive rfl rfl ?_
                            refine fz_getR (t := 9) kX10_enterFive rfl rfl ?_
                            refine fz_iload_n kX10_enterFive rfl rfl ?_
                            refine fz_iload kX10_enterFive rfl rfl ?_
                            refine fz_iload kX10_enterFive rfl rfl ?_
                            refine fz_iload kX10_enterFive rfl rfl ?_
                            refine fz_iload kX10_enterFive rfl rfl ?_
                            refine fz_callV (d' := 1) (M' := mX4_enter) (As := [fz_i (fz_w y16), fz_i (fz_w y24), fz_i (fz_w y32), fz_i (fz_w y40), fz_i (fz_w y48)]) (st := []) kX10_enterFive rfl rfl vX4_enter rfl rfl rfl rfl (Nat.le_of_ble_eq_true rfl) (Nat.le_of_ble_eq_true rfl) (by decide) (sX4_enter h hI (fz_w y16) (fz_w y24) (fz_w y32) (fz_w y40) (fz_w y48) (by omega) (by omega) (by omega) (by omega) (by omega)) (fun H92 r93 q94 o95 => ?_)
                            obtain ⟨hI96, hf97, y99, rfl, f98⟩ := q94
                            clear o95
                            have hf100 := fz_fr_tr hf hf97 (show fz_su [(9, 5), (10, 99999), (11, 99999), (12, 99999), (13, 99999), (14, 99999)] [(9, 5), (10, 99999), (11, 99999), (12, 99999), (13, 99999), (14, 99999)] = true from rfl)
                            refine fz_if_lt (tgt := 166) kX10_enterFive rfl (by decide) (fun c101 => ?_) (fun c101 => ?_)
                            · refine fz_iconst ⟨by decide, by decide⟩ kX10_enterFive rfl ?_
                              exact fz_zret kX10_enterFive rfl rfl (by omega) ⟨hI96, hf100, _, rfl, (by omega)⟩
                            · refine fz_iconst ⟨by decide, by decide⟩ kX10_enterFive rfl ?_
                              refine fz_goto (tgt := 167) kX10_enterFive rfl (by decide) ?_
                              exact fz_zret kX10_enterFive rfl rfl (by omega) ⟨hI96, hf100, _, rfl, (by omega)⟩
                      · refine fz_if_eq (tgt := 135) kX10_enterFive rfl (by decide) (fun c102 => ?_) (fun c102 => ?_)
                        · refine fz_iconst ⟨by decide, by decide⟩ kX10_enterFive rfl ?_
                          refine fz_istore (ls' := [(8, fz_i 0), (7, fz_i (fz_w y48)), (6, fz_i (fz_w y40)), (5, fz_i (fz_w y32)), (4, fz_i (fz_w y24)), (3, fz_i (fz_w y16)), (0, fz_r 0), (1, fz_i s), (2, fz_i i)]) kX10_enterFive rfl (by decide) rfl ?_
                          refine fz_iload kX10_enterFive rfl rfl ?_
                          refine fz_if_eq (tgt := 166) kX10_enterFive rfl (by decide) (fun c103 => ?_) (fun c103 => ?_)
                          · refine fz_iconst ⟨by decide, by decide⟩ kX10_enterFive rfl ?_
                            exact fz_zret kX10_enterFive rfl rfl (by omega) ⟨hI, hf, _, rfl, (by omega)⟩
                          · exfalso; omega
                        · exfalso; omega
              · refine fz_if_eq (tgt := 135) kX10_enterFive rfl (by decide) (fun c104 => ?_) (fun c104 => ?_)
                · refine fz_iconst ⟨by decide, by decide⟩ kX10_enterFive rfl ?_
                  refine fz_istore (ls' := [(8, fz_i 0), (7, fz_i (fz_w y48)), (6, fz_i (fz_w y40)), (5, fz_i (fz_w y32)), (4, fz_i (fz_w y24)), (3, fz_i (fz_w y16)), (0, fz_r 0), (1, fz_i s), (2, fz_i i)]) kX10_enterFive rfl (by decide) rfl ?_
                  refine fz_iload kX10_enterFive rfl rfl ?_
                  refine fz_if_eq (tgt := 166) kX10_enterFive rfl (by decide) (fun c105 => ?_) (fun c105 => ?_)
                  · refine fz_iconst ⟨by decide, by decide⟩ kX10_enterFive rfl ?_
                    exact fz_zret kX10_enterFive rfl rfl (by omega) ⟨hI, hf, _, rfl, (by omega)⟩
                  · exfalso; omega
                · exfalso; omega
          · refine fz_if_eq (tgt := 135) kX10_enterFive rfl (by decide) (fun c106 => ?_) (fun c106 => ?_)
            · refine fz_iconst ⟨by decide, by decide⟩ kX10_enterFive rfl ?_
              refine fz_istore (ls' := [(8, fz_i 0), (7, fz_i (fz_w y48)), (6, fz_i (fz_w y40)), (5, fz_i (fz_w y32)), (4, fz_i (fz_w y24)), (3, fz_i (fz_w y16)), (0, fz_r 0), (1, fz_i s), (2, fz_i i)]) kX10_enterFive rfl (by decide) rfl ?_
              refine fz_iload kX10_enterFive rfl rfl ?_
              refine fz_if_eq (tgt := 166) kX10_enterFive rfl (by decide) (fun c107 => ?_) (fun c107 => ?_)
              · refine fz_iconst ⟨by decide, by decide⟩ kX10_enterFive rfl ?_
                exact fz_zret kX10_enterFive rfl rfl (by omega) ⟨hI, hf, _, rfl, (by omega)⟩
              · exfalso; omega
            · exfalso; omega
      · refine fz_if_eq (tgt := 135) kX10_enterFive rfl (by decide) (fun c108 => ?_) (fun c108 => ?_)
        · refine fz_iconst ⟨by decide, by decide⟩ kX10_enterFive rfl ?_
          refine fz_istore (ls' := [(8, fz_i 0), (7, fz_i (fz_w y48)), (6, fz_i (fz_w y40)), (5, fz_i (fz_w y32)), (4, fz_i (fz_w y24)), (3, fz_i (fz_w y16)), (0, fz_r 0), (1, fz_i s), (2, fz_i i)]) kX10_enterFive rfl (by decide) rfl ?_
          refine fz_iload kX10_enterFive rfl rfl ?_
          refine fz_if_eq (tgt := 166) kX10_enterFive rfl (by decide) (fun c109 => ?_) (fun c109 => ?_)
          · refine fz_iconst ⟨by decide, by decide⟩ kX10_enterFive rfl ?_
            exact fz_zret kX10_enterFive rfl rfl (by omega) ⟨hI, hf, _, rfl, (by omega)⟩
          · exfalso; omega
        · exfalso; omega
    · exfalso; omega
  · refine fz_if_ne (tgt := 15) kX10_enterFive rfl (by decide) (fun c110 => ?_) (fun c110 => ?_)
    · exfalso; omega
    · refine fz_iconst ⟨by decide, by decide⟩ kX10_enterFive rfl ?_
      exact fz_zret kX10_enterFive rfl rfl (by omega) ⟨hI, hf, _, rfl, (by omega)⟩

abbrev qX10_deeds (h : fz_H) (s i n : Int) : fz_H → Option fz_V → Prop := fun h' r0 => fz_Iv h' ∧ fz_fr [(9, 5), (10, 99999), (11, 99999), (12, 99999), (13, 99999), (14, 99999)] h h' ∧ ∃ r : Int, r0 = some (fz_i r) ∧ ((-12) ≤ r ∧ r ≤ 10)
set_option maxHeartbeats 1000000 in
set_option maxRecDepth 100000 in
theorem sX10_deeds (h : fz_H) (hI : fz_Iv h) (s i n : Int) : fz_R 3 mX10_deeds 0 [(0, fz_r 0), (1, fz_i s), (2, fz_i i), (3, fz_i n)] [] h (qX10_deeds h s i n) := by
  refine fz_knowl (fun hk => ?_)
  have hr_s : -2147483648 ≤ s ∧ s < 2147483648 := hk _ (List.Mem.tail _ (List.Mem.head _))
  have hr_i : -2147483648 ≤ i ∧ i < 2147483648 := hk _ (List.Mem.tail _ (List.Mem.tail _ (List.Mem.head _)))
  have hr_n : -2147483648 ≤ n ∧ n < 2147483648 := hk _ (List.Mem.tail _ (List.Mem.tail _ (List.Mem.tail _ (List.Mem.head _))))
  clear hk
  have hf : fz_fr [(9, 5), (10, 99999), (11, 99999), (12, 99999), (13, 99999), (14, 99999)] h h := fz_fr_rf
  refine fz_aload_n kX10_deeds rfl rfl ?_
  refine fz_getR (t := 47) kX10_deeds rfl rfl ?_
  refine fz_iload_n kX10_deeds rfl rfl ?_
  refine fz_callV (d' := 0) (M' := mX7_isShelf) (As := [fz_i s]) (st := []) kX10_deeds rfl rfl vX7_isShelf rfl rfl rfl rfl (Nat.le_of_ble_eq_true rfl) (Nat.le_of_ble_eq_true rfl) (by decide) (sX7_isShelf h hI s ) (fun H1 r2 q3 o4 => ?_)
  obtain ⟨e5, y6, rfl, p7⟩ := q3
  subst H1
  clear o4
  rcases p7 with ⟨rfl, c8⟩ | ⟨rfl, c8⟩
  · refine fz_if_eq (tgt := 22) kX10_deeds rfl (by decide) (fun c9 => ?_) (fun c9 => ?_)
    · exfalso; omega
    · refine fz_iload_n kX10_deeds rfl rfl ?_
      refine fz_iconst ⟨by decide, by decide⟩ kX10_deeds rfl ?_
      refine fz_icmp_lt (tgt := 22) kX10_deeds rfl (by decide) (fun c10 => ?_) (fun c10 => ?_)
      · refine fz_iconst ⟨by decide, by decide⟩ kX10_deeds rfl ?_
        exact fz_iret kX10_deeds rfl rfl (fun _ => ⟨hI, hf, _, rfl, (by omega)⟩)
      · refine fz_iload_n kX10_deeds rfl rfl ?_
        refine fz_bipush ⟨by decide, by decide⟩ kX10_deeds rfl ?_
        refine fz_icmp_le (tgt := 24) kX10_deeds rfl (by decide) (fun c11 => ?_) (fun c11 => ?_)
        · refine fz_aload_n kX10_deeds rfl rfl ?_
          refine fz_getR (t := 47) kX10_deeds rfl rfl ?_
          refine fz_iload_n kX10_deeds rfl rfl ?_
          refine fz_callV (d' := 0) (M' := mX7_isEmpty) (As := [fz_i s]) (st := []) kX10_deeds rfl rfl vX7_isEmpty rfl rfl rfl rfl (Nat.le_of_ble_eq_true rfl) (Nat.le_of_ble_eq_true rfl) (by decide) (sX7_isEmpty h hI s (by omega)) (fun H12 r13 q14 o15 => ?_)
          obtain ⟨e16, y17, rfl, p18⟩ := q14
          subst H12
          clear o15
          rcases p18 with ⟨rfl, c19⟩ | ⟨rfl, c19⟩
          · refine fz_if_eq (tgt := 37) kX10_deeds rfl (by decide) (fun c20 => ?_) (fun c20 => ?_)
            · exfalso; omega
            · refine fz_iconst ⟨by decide, by decide⟩ kX10_deeds rfl ?_
              exact fz_iret kX10_deeds rfl rfl (fun _ => ⟨hI, hf, _, rfl, (by omega)⟩)
          · refine fz_if_eq (tgt := 37) kX10_deeds rfl (by decide) (fun c21 => ?_) (fun c21 => ?_)
            · refine fz_aload_n kX10_deeds rfl rfl ?_
              refine fz_getR (t := 47) kX10_deeds rfl rfl ?_
              refine fz_iload_n kX10_deeds rfl rfl ?_
              refine fz_iconst ⟨by decide, by decide⟩ kX10_deeds rfl ?_
              refine fz_callV (d' := 1) (M' := mX7_holdsRow) (As := [fz_i s, fz_i 1]) (st := []) kX10_deeds rfl rfl vX7_holdsRow rfl rfl rfl rfl (Nat.le_of_ble_eq_true rfl) (Nat.le_of_ble_eq_true rfl) (by decide) (sX7_holdsRow h hI s 1 (by omega)) (fun H22 r23 q24 o25 => ?_)
              obtain ⟨e26, y27, rfl, p28⟩ := q24
              subst H22
              clear o25
              rcases p28 with ⟨rfl, c29⟩ | ⟨rfl, c29⟩
              · refine fz_if_ne (tgt := 52) kX10_deeds rfl (by decide) (fun c30 => ?_) (fun c30 => ?_)
                · refine fz_iconst ⟨by decide, by decide⟩ kX10_deeds rfl ?_
                  refine fz_istore (ls' := [(4, fz_i 0), (0, fz_r 0), (1, fz_i s), (2, fz_i i), (3, fz_i n)]) kX10_deeds rfl (by decide) rfl ?_
                  have lp36 : ∀ (n35 : Nat) (x31 : Int) (H32 : fz_H), fz_Iv H32 → fz_fr [(9, 5), (10, 99999), (11, 99999), (12, 99999), (13, 99999), (14, 99999)] h H32 → (0 ≤ x31 ∧ x31 ≤ 2147483647) → (n - x31).toNat < n35 → fz_R 3 mX10_deeds 55 [(4, fz_i x31), (0, fz_r 0), (1, fz_i s), (2, fz_i i), (3, fz_i n)] [] H32 (qX10_deeds h s i n) := by
                    intro n35
                    induction n35 with
                    | zero => intro x31 H32 hI33 hf34 hv39 hm38; exact absurd hm38 (by omega)
                    | succ n35 ih37 =>
                      intro x31 H32 hI33 hf34 hv39 hm38
                      refine fz_iload kX10_deeds rfl rfl ?_
                      refine fz_iload_n kX10_deeds rfl rfl ?_
                      refine fz_icmp_ge (tgt := 84) kX10_deeds rfl (by decide) (fun c40 => ?_) (fun c40 => ?_)
                      · refine fz_iload_n kX10_deeds rfl rfl ?_
                        exact fz_iret kX10_deeds rfl rfl (fun _ => ⟨hI33, hf34, _, rfl, (by omega)⟩)
                      · refine fz_aload_n kX10_deeds rfl rfl ?_
                        refine fz_iload_n kX10_deeds rfl rfl ?_
                        refine fz_iload_n kX10_deeds rfl rfl ?_
                        refine fz_iconst ⟨by decide, by decide⟩ kX10_deeds rfl ?_
                        refine fz_iload kX10_deeds rfl rfl ?_
                        refine fz_imulN kX10_deeds rfl (by omega) ?_
                        refine fz_iadd kX10_deeds rfl ?_
                        refine fz_nmw (fun z41 e42 => ?_)
                        refine fz_callV (d' := 2) (M' := mX10_enterFive) (As := [fz_i s, fz_i z41]) (st := []) kX10_deeds rfl rfl vX10_enterFive rfl rfl rfl rfl (Nat.le_of_ble_eq_true rfl) (Nat.le_of_ble_eq_true rfl) (by decide) (sX10_enterFive H32 hI33 s z41 (by omega)) (fun H43 r44 q45 o46 => ?_)
                        obtain ⟨hI47, hf48, y49, rfl, p50⟩ := q45
                        clear o46
                        have hf51 := fz_fr_tr hf34 hf48 (show fz_su [(9, 5), (10, 99999), (11, 99999), (12, 99999), (13, 99999), (14, 99999)] [(9, 5), (10, 99999), (11, 99999), (12, 99999), (13, 99999), (14, 99999)] = true from rfl)
                        refine fz_if_ne (tgt := 78) kX10_deeds rfl (by decide) (fun c52 => ?_) (fun c52 => ?_)
                        · refine fz_iincN (ls' := [(4, fz_i (x31 + 1)), (0, fz_r 0), (1, fz_i s), (2, fz_i i), (3, fz_i n)]) kX10_deeds rfl (by decide) rfl (by omega) rfl ?_
                          refine fz_goto (tgt := 55) kX10_deeds rfl (by decide) ?_
                          exact ih37 (x31 + 1) H43 hI47 hf51 (by omega) (by omega)
                        · refine fz_iload kX10_deeds rfl rfl ?_
                          exact fz_iret kX10_deeds rfl rfl (fun _ => ⟨hI47, hf51, _, rfl, (by omega)⟩)
                  exact lp36 _ 0 h hI hf (by omega) (Nat.lt_succ_self _)
                · exfalso; omega
              · refine fz_if_ne (tgt := 52) kX10_deeds rfl (by decide) (fun c53 => ?_) (fun c53 => ?_)
                · exfalso; omega
                · refine fz_bipush ⟨by decide, by decide⟩ kX10_deeds rfl ?_
                  exact fz_iret kX10_deeds rfl rfl (fun _ => ⟨hI, hf, _, rfl, (by omega)⟩)
            · exfalso; omega
        · refine fz_iconst ⟨by decide, by decide⟩ kX10_deeds rfl ?_
          exact fz_iret kX10_deeds rfl rfl (fun _ => ⟨hI, hf, _, rfl, (by omega)⟩)
  · refine fz_if_eq (tgt := 22) kX10_deeds rfl (by decide) (fun c54 => ?_) (fun c54 => ?_)
    · refine fz_iconst ⟨by decide, by decide⟩ kX10_deeds rfl ?_
      exact fz_iret kX10_deeds rfl rfl (fun _ => ⟨hI, hf, _, rfl, (by omega)⟩)
    · exfalso; omega
