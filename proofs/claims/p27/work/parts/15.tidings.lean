/-! ===== what the methods keep ===== -/
abbrev qX8_hourHeard (h : fz_H) (d t : Int) : fz_H → Option fz_V → Prop := fun h' r0 => h' = h ∧ ∃ r : Int, r0 = some (fz_i r) ∧ ((-2) ≤ r ∧ r ≤ 11007) ∧ (r = fz_haC h d t)
set_option maxHeartbeats 1000000 in
set_option maxRecDepth 100000 in
theorem sX8_hourHeard (h : fz_H) (hI : fz_Iv h) (d t : Int) (hp0 : 0 ≤ d ∧ d < 11) (hp1 : 0 ≤ t ∧ t < 8) : fz_R 1 mX8_hourHeard 0 [(0, fz_r 27), (1, fz_i d), (2, fz_i t)] [] h (qX8_hourHeard h d t) := by
  refine fz_knowl (fun hk => ?_)
  have hr_d : -2147483648 ≤ d ∧ d < 2147483648 := hk _ (List.Mem.tail _ (List.Mem.head _))
  have hr_t : -2147483648 ≤ t ∧ t < 2147483648 := hk _ (List.Mem.tail _ (List.Mem.tail _ (List.Mem.head _)))
  clear hk
  refine fz_aload_n kX8_hourHeard rfl rfl ?_
  refine fz_getR (t := 1) kX8_hourHeard rfl rfl ?_
  refine fz_aload_n kX8_hourHeard rfl rfl ?_
  refine fz_getR (t := 9) kX8_hourHeard rfl rfl ?_
  refine fz_getR (t := 11) kX8_hourHeard rfl rfl ?_
  refine fz_iload_n kX8_hourHeard rfl rfl ?_
  refine fz_ialdV (n := 11) (v := h 11 (d.toNat)) kX8_hourHeard rfl rfl (by omega) (by omega) rfl ?_
  have b1 : 0 ≤ h 11 (d.toNat) ∧ h 11 (d.toNat) ≤ 7 := hI.1 11 _
  refine fz_iload_n kX8_hourHeard rfl rfl ?_
  refine fz_callV (d' := 0) (M' := mX2_hoursByCarters) (As := [fz_i (h 11 (d.toNat)), fz_i t]) (st := []) kX8_hourHeard rfl rfl vX2_hoursByCarters rfl rfl rfl rfl (Nat.le_of_ble_eq_true rfl) (Nat.le_of_ble_eq_true rfl) (by decide) (sX2_hoursByCarters h hI (h 11 (d.toNat)) t (by omega) (by omega)) (fun H2 r3 q4 o5 => ?_)
  obtain ⟨e6, y9, rfl, f7, f8⟩ := q4
  subst H2
  clear o5
  refine fz_istore_n (ls' := [(3, fz_i y9), (0, fz_r 27), (1, fz_i d), (2, fz_i t)]) kX8_hourHeard rfl (by decide) rfl ?_
  refine fz_iload_n kX8_hourHeard rfl rfl ?_
  refine fz_if_ge (tgt := 27) kX8_hourHeard rfl (by decide) (fun c10 => ?_) (fun c10 => ?_)
  · refine fz_aload_n kX8_hourHeard rfl rfl ?_
    refine fz_getR (t := 9) kX8_hourHeard rfl rfl ?_
    refine fz_getR (t := 12) kX8_hourHeard rfl rfl ?_
    refine fz_iload_n kX8_hourHeard rfl rfl ?_
    refine fz_ialdV (n := 11) (v := h 12 (d.toNat)) kX8_hourHeard rfl rfl (by omega) (by omega) rfl ?_
    have b11 : 0 ≤ h 12 (d.toNat) ∧ h 12 (d.toNat) ≤ 999 := hI.1 12 _
    refine fz_iload_n kX8_hourHeard rfl rfl ?_
    refine fz_iaddN kX8_hourHeard rfl (by omega) ?_
    refine fz_aload_n kX8_hourHeard rfl rfl ?_
    refine fz_getR (t := 1) kX8_hourHeard rfl rfl ?_
    refine fz_getR (t := 2) kX8_hourHeard rfl rfl ?_
    refine fz_iload_n kX8_hourHeard rfl rfl ?_
    refine fz_ialdV (n := 8) (v := h 2 (t.toNat)) kX8_hourHeard rfl rfl (by omega) (by omega) rfl ?_
    have b12 : 0 ≤ h 2 (t.toNat) ∧ h 2 (t.toNat) ≤ 9 := hI.1 2 _
    refine fz_iaddN kX8_hourHeard rfl (by omega) ?_
    exact fz_iret kX8_hourHeard rfl rfl (fun _ => ⟨rfl, _, rfl, (by omega), (by show _ = fz_hh _ _ _; first | exact fz_hh_n f8 (by omega) | exact fz_hh_y f8 (by omega) rfl)⟩)
  · refine fz_bipush ⟨by decide, by decide⟩ kX8_hourHeard rfl ?_
    refine fz_goto (tgt := 48) kX8_hourHeard rfl (by decide) ?_
    exact fz_iret kX8_hourHeard rfl rfl (fun _ => ⟨rfl, _, rfl, (by omega), (by show _ = fz_hh _ _ _; first | exact fz_hh_n f8 (by omega) | exact fz_hh_y f8 (by omega) rfl)⟩)

abbrev qX8_loudness (h : fz_H) (d on t hr : Int) : fz_H → Option fz_V → Prop := fun h' r0 => fz_Iv h' ∧ fz_fr [(18, 99999), (19, 99999)] h h' ∧ ∃ r : Int, r0 = some (fz_i r) ∧ (0 ≤ r ∧ r ≤ 99) ∧ (r = fl_ldC h on t hr d)
set_option maxHeartbeats 1000000 in
set_option maxRecDepth 100000 in
theorem sX8_loudness (h : fz_H) (hI : fz_Iv h) (d on t hr : Int) (hp0 : 0 ≤ d ∧ d < 11) (hp1 : 0 ≤ t ∧ t < 8) : fz_R 3 mX8_loudness 0 [(0, fz_r 27), (1, fz_i d), (2, fz_i on), (3, fz_i t), (4, fz_i hr)] [] h (qX8_loudness h d on t hr) := by
  refine fz_knowl (fun hk => ?_)
  have hr_d : -2147483648 ≤ d ∧ d < 2147483648 := hk _ (List.Mem.tail _ (List.Mem.head _))
  have hr_on : -2147483648 ≤ on ∧ on < 2147483648 := hk _ (List.Mem.tail _ (List.Mem.tail _ (List.Mem.head _)))
  have hr_t : -2147483648 ≤ t ∧ t < 2147483648 := hk _ (List.Mem.tail _ (List.Mem.tail _ (List.Mem.tail _ (List.Mem.head _))))
  have hr_hr : -2147483648 ≤ hr ∧ hr < 2147483648 := hk _ (List.Mem.tail _ (List.Mem.tail _ (List.Mem.tail _ (List.Mem.tail _ (List.Mem.head _)))))
  clear hk
  have hf : fz_fr [(18, 99999), (19, 99999)] h h := fz_fr_rf
  refine fz_aload_n kX8_loudness rfl rfl ?_
  refine fz_iload_n kX8_loudness rfl rfl ?_
  refine fz_iload_n kX8_loudness rfl rfl ?_
  refine fz_callV (d' := 1) (M' := mX8_hourHeard) (As := [fz_i d, fz_i t]) (st := []) kX8_loudness rfl rfl vX8_hourHeard rfl rfl rfl rfl (Nat.le_of_ble_eq_true rfl) (Nat.le_of_ble_eq_true rfl) (by decide) (sX8_hourHeard h hI d t (by omega) (by omega)) (fun H1 r2 q3 o4 => ?_)
  obtain ⟨e5, y8, rfl, f6, f7⟩ := q3
  subst H1
  clear o4
  refine fz_istore (ls' := [(5, fz_i y8), (0, fz_r 27), (1, fz_i d), (2, fz_i on), (3, fz_i t), (4, fz_i hr)]) kX8_loudness rfl (by decide) rfl ?_
  refine fz_iload kX8_loudness rfl rfl ?_
  refine fz_if_lt (tgt := 20) kX8_loudness rfl (by decide) (fun c9 => ?_) (fun c9 => ?_)
  · refine fz_iconst ⟨by decide, by decide⟩ kX8_loudness rfl ?_
    exact fz_iret kX8_loudness rfl rfl (fun _ => ⟨hI, hf, _, rfl, (by omega), (by first | exact fl_ld_1 f7 (by omega) lost | exact fl_ld_0 f7 (by omega))⟩)
  · refine fz_iload kX8_loudness rfl rfl ?_
    refine fz_iload kX8_loudness rfl rfl ?_
    refine fz_icmp_le (tgt := 22) kX8_loudness rfl (by decide) (fun c11 => ?_) (fun c11 => ?_)
    · refine fz_aload_n kX8_loudness rfl rfl ?_
      refine fz_getR (t := 15) kX8_loudness rfl rfl ?_
      refine fz_aload_n kX8_loudness rfl rfl ?_
      refine fz_getR (t := 9) kX8_loudness rfl rfl ?_
      refine fz_getR (t := 14) kX8_loudness rfl rfl ?_
      refine fz_iload_n kX8_loudness rfl rfl ?_
      refine fz_ialdV (n := 11) (v := h 14 (d.toNat)) kX8_loudness rfl rfl (by omega) (by omega) rfl ?_
      have b12 : 0 ≤ h 14 (d.toNat) ∧ h 14 (d.toNat) ≤ 9 := hI.1 14 _
      refine fz_iload kX8_loudness rfl rfl ?_
      refine fz_iload kX8_loudness rfl rfl ?_
      refine fz_isubN kX8_loudness rfl (by omega) ?_
      refine fz_iload kX8_loudness rfl rfl ?_
      refine fz_aload_n kX8_loudness rfl rfl ?_
      refine fz_getR (t := 9) kX8_loudness rfl rfl ?_
      refine fz_getR (t := 12) kX8_loudness rfl rfl ?_
      refine fz_iload_n kX8_loudness rfl rfl ?_
      refine fz_ialdV (n := 11) (v := h 12 (d.toNat)) kX8_loudness rfl rfl (by omega) (by omega) rfl ?_
      have b13 : 0 ≤ h 12 (d.toNat) ∧ h 12 (d.toNat) ≤ 999 := hI.1 12 _
      refine fz_isubN kX8_loudness rfl (by omega) ?_
      refine fz_aload_n kX8_loudness rfl rfl ?_
      refine fz_getR (t := 9) kX8_loudness rfl rfl ?_
      refine fz_getR (t := 13) kX8_loudness rfl rfl ?_
      refine fz_iload_n kX8_loudness rfl rfl ?_
      refine fz_ialdV (n := 11) (v := h 13 (d.toNat)) kX8_loudness rfl rfl (by omega) (by omega) rfl ?_
      have b14 : 0 ≤ h 13 (d.toNat) ∧ h 13 (d.toNat) ≤ 4 := hI.1 13 _
      refine fz_iload_n kX8_loudness rfl rfl ?_
      refine fz_iload_n kX8_loudness rfl rfl ?_
      have k15 := fl_ha_ge (h := h) (d := d) (t := t) (show 0 ≤ h 2 t.toNat from (hI.1 2 _).1) (by omega)
      refine fz_callV (d' := 2) (M' := mX3_volume) (As := [fz_i (h 14 (d.toNat)), fz_i (hr - y8), fz_i (y8 - (h 12 (d.toNat))), fz_i (h 13 (d.toNat)), fz_i t, fz_i on]) (st := []) kX8_loudness rfl rfl vX3_volume rfl rfl rfl rfl (Nat.le_of_ble_eq_true rfl) (Nat.le_of_ble_eq_true rfl) (by decide) (sX3_volume h hI (h 14 (d.toNat)) (hr - y8) (y8 - (h 12 (d.toNat))) (h 13 (d.toNat)) t on (by omega) (by omega) (by omega)) (fun H16 r17 q18 o19 => ?_)
      obtain ⟨hI20, hf21, y24, rfl, f22, f23⟩ := q18
      clear o19
      have hf25 := fz_fr_tr hf hf21 (show fz_su [(18, 99999), (19, 99999)] [(18, 99999), (19, 99999)] = true from rfl)
      exact fz_iret kX8_loudness rfl rfl (fun _ => ⟨hI20, hf25, _, rfl, (by omega), (by first | exact fl_ld_1 f7 (by omega) f23 | exact fl_ld_0 f7 (by omega))⟩)
    · refine fz_iconst ⟨by decide, by decide⟩ kX8_loudness rfl ?_
      exact fz_iret kX8_loudness rfl rfl (fun _ => ⟨hI, hf, _, rfl, (by omega), (by first | exact fl_ld_1 f7 (by omega) lost | exact fl_ld_0 f7 (by omega))⟩)

abbrev qX8_arrestsAt (h : fz_H) (v : Int) : fz_H → Option fz_V → Prop := fun h' r0 => h' = h ∧ ∃ r : Int, r0 = some (fz_i r) ∧ (r = 0 ∨ r = 1) ∧ ((r = 1 ∧ 0 < v ∧ h 27 8 ≤ v) ∨ (r = 0 ∧ ¬ (0 < v ∧ h 27 8 ≤ v)))
set_option maxHeartbeats 1000000 in
set_option maxRecDepth 100000 in
theorem sX8_arrestsAt (h : fz_H) (hI : fz_Iv h) (v : Int) : fz_R 0 mX8_arrestsAt 0 [(0, fz_r 27), (1, fz_i v)] [] h (qX8_arrestsAt h v) := by
  refine fz_knowl (fun hk => ?_)
  have hr_v : -2147483648 ≤ v ∧ v < 2147483648 := hk _ (List.Mem.tail _ (List.Mem.head _))
  clear hk
  have b1 : 0 ≤ h 27 8 ∧ h 27 8 ≤ 99 := hI.1 27 _
  refine fz_iload_n kX8_arrestsAt rfl rfl ?_
  refine fz_if_le (tgt := 16) kX8_arrestsAt rfl (by decide) (fun c2 => ?_) (fun c2 => ?_)
  · refine fz_iconst ⟨by decide, by decide⟩ kX8_arrestsAt rfl ?_
    exact fz_zret kX8_arrestsAt rfl rfl (by omega) ⟨rfl, _, rfl, (by omega), (by omega)⟩
  · refine fz_iload_n kX8_arrestsAt rfl rfl ?_
    refine fz_aload_n kX8_arrestsAt rfl rfl ?_
    refine fz_getV (v := h 27 8) kX8_arrestsAt rfl rfl rfl ?_
    have b4 : 0 ≤ h 27 8 ∧ h 27 8 ≤ 99 := hI.1 27 _
    refine fz_icmp_lt (tgt := 16) kX8_arrestsAt rfl (by decide) (fun c5 => ?_) (fun c5 => ?_)
    · refine fz_iconst ⟨by decide, by decide⟩ kX8_arrestsAt rfl ?_
      exact fz_zret kX8_arrestsAt rfl rfl (by omega) ⟨rfl, _, rfl, (by omega), (by omega)⟩
    · refine fz_iconst ⟨by decide, by decide⟩ kX8_arrestsAt rfl ?_
      refine fz_goto (tgt := 17) kX8_arrestsAt rfl (by decide) ?_
      exact fz_zret kX8_arrestsAt rfl rfl (by omega) ⟨rfl, _, rfl, (by omega), (by omega)⟩

abbrev qX8_isArrested (h : fz_H) : fz_H → Option fz_V → Prop := fun h' r0 => h' = h ∧ ∃ r : Int, r0 = some (fz_i r) ∧ (r = 0 ∨ r = 1) ∧ ((r = 1 ∧ 0 < h 29 1 ∧ h 27 8 ≤ h 29 1) ∨ (r = 0 ∧ ¬ (0 < h 29 1 ∧ h 27 8 ≤ h 29 1)))
set_option maxHeartbeats 1000000 in
set_option maxRecDepth 100000 in
theorem sX8_isArrested (h : fz_H) (hI : fz_Iv h) : fz_R 1 mX8_isArrested 0 [(0, fz_r 27)] [] h (qX8_isArrested h) := by
  have b1 : (-2147483648) ≤ h 29 1 ∧ h 29 1 ≤ 2147483647 := hI.1 29 _
  have b2 : 0 ≤ h 27 8 ∧ h 27 8 ≤ 99 := hI.1 27 _
  refine fz_aload_n kX8_isArrested rfl rfl ?_
  refine fz_aload_n kX8_isArrested rfl rfl ?_
  refine fz_getR (t := 29) kX8_isArrested rfl rfl ?_
  refine fz_iconst ⟨by decide, by decide⟩ kX8_isArrested rfl ?_
  refine fz_ialdV (n := 5) (v := h 29 1) kX8_isArrested rfl rfl (by omega) (by omega) rfl ?_
  have b3 : (-2147483648) ≤ h 29 1 ∧ h 29 1 ≤ 2147483647 := hI.1 29 _
  refine fz_callV (d' := 0) (M' := mX8_arrestsAt) (As := [fz_i (h 29 1)]) (st := []) kX8_isArrested rfl rfl vX8_arrestsAt rfl rfl rfl rfl (Nat.le_of_ble_eq_true rfl) (Nat.le_of_ble_eq_true rfl) (by decide) (sX8_arrestsAt h hI (h 29 1) ) (fun H4 r5 q6 o7 => ?_)
  obtain ⟨e8, y10, rfl, p11, f9⟩ := q6
  subst H4
  clear o7
  exact fz_zret kX8_isArrested rfl rfl (by omega) ⟨rfl, _, rfl, (by omega), (by omega)⟩

abbrev qX8_marksSaid (h : fz_H) : fz_H → Option fz_V → Prop := fun h' r0 => h' = h ∧ ∃ r : Int, r0 = some (fz_i r) ∧ (0 ≤ r ∧ r ≤ 5) ∧ (r = fl_ms (h 29) 5)
set_option maxHeartbeats 1000000 in
set_option maxRecDepth 100000 in
theorem sX8_marksSaid (h : fz_H) (hI : fz_Iv h) : fz_R 0 mX8_marksSaid 0 [(0, fz_r 27)] [] h (qX8_marksSaid h) := by
  refine fz_iconst ⟨by decide, by decide⟩ kX8_marksSaid rfl ?_
  refine fz_istore_n (ls' := [(1, fz_i 0), (0, fz_r 27)]) kX8_marksSaid rfl (by decide) rfl ?_
  refine fz_iconst ⟨by decide, by decide⟩ kX8_marksSaid rfl ?_
  refine fz_istore_n (ls' := [(2, fz_i 0), (1, fz_i 0), (0, fz_r 27)]) kX8_marksSaid rfl (by decide) rfl ?_
  have lp4 : ∀ (n3 : Nat) (x1 : Int) (x2 : Int), (0 ≤ x1 ∧ x1 ≤ 5) → (0 ≤ x2 ∧ x2 ≤ 5) → (x2 ≤ x1) → (x2 = fl_ms (h 29) (x1).toNat) → (5 - x1).toNat < n3 → fz_R 0 mX8_marksSaid 4 [(2, fz_i x1), (1, fz_i x2), (0, fz_r 27)] [] h (qX8_marksSaid h) := by
    intro n3
    induction n3 with
    | zero => intro x1 x2 hv7 hv8 hv9 hv10 hm6; exact absurd hm6 (by omega)
    | succ n3 ih5 =>
      intro x1 x2 hv7 hv8 hv9 hv10 hm6
      refine fz_iload_n kX8_marksSaid rfl rfl ?_
      refine fz_iconst ⟨by decide, by decide⟩ kX8_marksSaid rfl ?_
      refine fz_icmp_ge (tgt := 32) kX8_marksSaid rfl (by decide) (fun c11 => ?_) (fun c11 => ?_)
      · refine fz_iload_n kX8_marksSaid rfl rfl ?_
        exact fz_iret kX8_marksSaid rfl rfl (fun _ => ⟨rfl, _, rfl, (by omega), (by exact fl_at (f := fl_ms (h 29)) (n := 5) hv10 (by omega))⟩)
      · refine fz_iload_n kX8_marksSaid rfl rfl ?_
        refine fz_aload_n kX8_marksSaid rfl rfl ?_
        refine fz_getR (t := 29) kX8_marksSaid rfl rfl ?_
        refine fz_iload_n kX8_marksSaid rfl rfl ?_
        refine fz_ialdV (n := 5) (v := h 29 (x1.toNat)) kX8_marksSaid rfl rfl (by omega) (by omega) rfl ?_
        have b13 : (-2147483648) ≤ h 29 (x1.toNat) ∧ h 29 (x1.toNat) ≤ 2147483647 := hI.1 29 _
        refine fz_if_le (tgt := 23) kX8_marksSaid rfl (by decide) (fun c14 => ?_) (fun c14 => ?_)
        · refine fz_iconst ⟨by decide, by decide⟩ kX8_marksSaid rfl ?_
          refine fz_iaddN kX8_marksSaid rfl (by omega) ?_
          refine fz_istore_n (ls' := [(1, fz_i (x2 + 0)), (2, fz_i x1), (0, fz_r 27)]) kX8_marksSaid rfl (by decide) rfl ?_
          refine fz_iincN (ls' := [(2, fz_i (x1 + 1)), (1, fz_i (x2 + 0)), (0, fz_r 27)]) kX8_marksSaid rfl (by decide) rfl (by omega) rfl ?_
          refine fz_goto (tgt := 4) kX8_marksSaid rfl (by decide) ?_
          exact ih5 (x1 + 1) (x2 + 0) (by omega) (by omega) (by omega) (fl_ms_s hv10 (by omega) rfl (by omega)) (by omega)
        · refine fz_iconst ⟨by decide, by decide⟩ kX8_marksSaid rfl ?_
          refine fz_goto (tgt := 24) kX8_marksSaid rfl (by decide) ?_
          refine fz_iaddN kX8_marksSaid rfl (by omega) ?_
          refine fz_istore_n (ls' := [(1, fz_i (x2 + 1)), (2, fz_i x1), (0, fz_r 27)]) kX8_marksSaid rfl (by decide) rfl ?_
          refine fz_iincN (ls' := [(2, fz_i (x1 + 1)), (1, fz_i (x2 + 1)), (0, fz_r 27)]) kX8_marksSaid rfl (by decide) rfl (by omega) rfl ?_
          refine fz_goto (tgt := 4) kX8_marksSaid rfl (by decide) ?_
          exact ih5 (x1 + 1) (x2 + 1) (by omega) (by omega) (by omega) (fl_ms_s hv10 (by omega) rfl (by omega)) (by omega)
  exact lp4 _ 0 0 (by omega) (by omega) (by omega) (rfl) (Nat.lt_succ_self _)

abbrev qX8_loudestMark (h : fz_H) : fz_H → Option fz_V → Prop := fun h' r0 => h' = h ∧ ∃ r : Int, r0 = some (fz_i r) ∧ ((-2) ≤ r ∧ r ≤ 4) ∧ (r = (fl_lm (h 29) 5).1)
set_option maxHeartbeats 1000000 in
set_option maxRecDepth 100000 in
theorem sX8_loudestMark (h : fz_H) (hI : fz_Iv h) : fz_R 0 mX8_loudestMark 0 [(0, fz_r 27)] [] h (qX8_loudestMark h) := by
  refine fz_bipush ⟨by decide, by decide⟩ kX8_loudestMark rfl ?_
  refine fz_istore_n (ls' := [(1, fz_i (-2)), (0, fz_r 27)]) kX8_loudestMark rfl (by decide) rfl ?_
  refine fz_iconst ⟨by decide, by decide⟩ kX8_loudestMark rfl ?_
  refine fz_istore_n (ls' := [(2, fz_i 0), (1, fz_i (-2)), (0, fz_r 27)]) kX8_loudestMark rfl (by decide) rfl ?_
  refine fz_iconst ⟨by decide, by decide⟩ kX8_loudestMark rfl ?_
  refine fz_istore_n (ls' := [(3, fz_i 0), (2, fz_i 0), (1, fz_i (-2)), (0, fz_r 27)]) kX8_loudestMark rfl (by decide) rfl ?_
  have lp5 : ∀ (n4 : Nat) (x1 : Int) (x2 : Int) (x3 : Int), (0 ≤ x1 ∧ x1 ≤ 5) → ((-2147483648) ≤ x2 ∧ x2 ≤ 2147483647) → ((-2) ≤ x3 ∧ x3 ≤ 4) → ((x3, x2) = fl_lm (h 29) (x1).toNat) → (5 - x1).toNat < n4 → fz_R 0 mX8_loudestMark 7 [(3, fz_i x1), (2, fz_i x2), (1, fz_i x3), (0, fz_r 27)] [] h (qX8_loudestMark h) := by
    intro n4
    induction n4 with
    | zero => intro x1 x2 x3 hv8 hv9 hv10 hv11 hm7; exact absurd hm7 (by omega)
    | succ n4 ih6 =>
      intro x1 x2 x3 hv8 hv9 hv10 hv11 hm7
      refine fz_iload_n kX8_loudestMark rfl rfl ?_
      refine fz_iconst ⟨by decide, by decide⟩ kX8_loudestMark rfl ?_
      refine fz_icmp_ge (tgt := 37) kX8_loudestMark rfl (by decide) (fun c12 => ?_) (fun c12 => ?_)
      · refine fz_iload_n kX8_loudestMark rfl rfl ?_
        exact fz_iret kX8_loudestMark rfl rfl (fun _ => ⟨rfl, _, rfl, (by omega), (by exact fl_lm_e hv11 (by omega))⟩)
      · refine fz_aload_n kX8_loudestMark rfl rfl ?_
        refine fz_getR (t := 29) kX8_loudestMark rfl rfl ?_
        refine fz_iload_n kX8_loudestMark rfl rfl ?_
        refine fz_ialdV (n := 5) (v := h 29 (x1.toNat)) kX8_loudestMark rfl rfl (by omega) (by omega) rfl ?_
        have b14 : (-2147483648) ≤ h 29 (x1.toNat) ∧ h 29 (x1.toNat) ≤ 2147483647 := hI.1 29 _
        refine fz_iload_n kX8_loudestMark rfl rfl ?_
        refine fz_icmp_le (tgt := 31) kX8_loudestMark rfl (by decide) (fun c15 => ?_) (fun c15 => ?_)
        · refine fz_iincN (ls' := [(3, fz_i (x1 + 1)), (2, fz_i x2), (1, fz_i x3), (0, fz_r 27)]) kX8_loudestMark rfl (by decide) rfl (by omega) rfl ?_
          refine fz_goto (tgt := 7) kX8_loudestMark rfl (by decide) ?_
          exact ih6 (x1 + 1) x2 x3 (by omega) (by omega) (by omega) (by first | exact fl_lm_y hv11 (by omega) rfl (by omega) | exact fl_lm_n hv11 (by omega) rfl (by omega)) (by omega)
        · refine fz_iload_n kX8_loudestMark rfl rfl ?_
          refine fz_istore_n (ls' := [(1, fz_i x1), (3, fz_i x1), (2, fz_i x2), (0, fz_r 27)]) kX8_loudestMark rfl (by decide) rfl ?_
          refine fz_aload_n kX8_loudestMark rfl rfl ?_
          refine fz_getR (t := 29) kX8_loudestMark rfl rfl ?_
          refine fz_iload_n kX8_loudestMark rfl rfl ?_
          refine fz_ialdV (n := 5) (v := h 29 (x1.toNat)) kX8_loudestMark rfl rfl (by omega) (by omega) rfl ?_
          refine fz_istore_n (ls' := [(2, fz_i (h 29 (x1.toNat))), (1, fz_i x1), (3, fz_i x1), (0, fz_r 27)]) kX8_loudestMark rfl (by decide) rfl ?_
          refine fz_iincN (ls' := [(3, fz_i (x1 + 1)), (2, fz_i (h 29 (x1.toNat))), (1, fz_i x1), (0, fz_r 27)]) kX8_loudestMark rfl (by decide) rfl (by omega) rfl ?_
          refine fz_goto (tgt := 7) kX8_loudestMark rfl (by decide) ?_
          exact ih6 (x1 + 1) (h 29 (x1.toNat)) x1 (by omega) (by omega) (by omega) (by first | exact fl_lm_y hv11 (by omega) rfl (by omega) | exact fl_lm_n hv11 (by omega) rfl (by omega)) (by omega)
  exact lp5 _ 0 0 (-2) (by omega) (by omega) (by omega) (rfl) (Nat.lt_succ_self _)

abbrev qX8_reception (h : fz_H) : fz_H → Option fz_V → Prop := fun h' r0 => h' = h ∧ ∃ r : Int, r0 = some (fz_i r) ∧ ((-2147483648) ≤ r ∧ r ≤ 2147483647) ∧ (r = fl_rp (h 29) (h 28) 5)
set_option maxHeartbeats 1000000 in
set_option maxRecDepth 100000 in
theorem sX8_reception (h : fz_H) (hI : fz_Iv h) : fz_R 0 mX8_reception 0 [(0, fz_r 27)] [] h (qX8_reception h) := by
  refine fz_iconst ⟨by decide, by decide⟩ kX8_reception rfl ?_
  refine fz_istore_n (ls' := [(1, fz_i 0), (0, fz_r 27)]) kX8_reception rfl (by decide) rfl ?_
  refine fz_iconst ⟨by decide, by decide⟩ kX8_reception rfl ?_
  refine fz_istore_n (ls' := [(2, fz_i 0), (1, fz_i 0), (0, fz_r 27)]) kX8_reception rfl (by decide) rfl ?_
  have lp4 : ∀ (n3 : Nat) (x1 : Int) (x2 : Int), (0 ≤ x1 ∧ x1 ≤ 5) → ((-2147483648) ≤ x2 ∧ x2 ≤ 2147483647) → (x2 = fl_rp (h 29) (h 28) (x1).toNat) → (5 - x1).toNat < n3 → fz_R 0 mX8_reception 4 [(2, fz_i x1), (1, fz_i x2), (0, fz_r 27)] [] h (qX8_reception h) := by
    intro n3
    induction n3 with
    | zero => intro x1 x2 hv7 hv8 hv9 hm6; exact absurd hm6 (by omega)
    | succ n3 ih5 =>
      intro x1 x2 hv7 hv8 hv9 hm6
      refine fz_iload_n kX8_reception rfl rfl ?_
      refine fz_iconst ⟨by decide, by decide⟩ kX8_reception rfl ?_
      refine fz_icmp_ge (tgt := 31) kX8_reception rfl (by decide) (fun c10 => ?_) (fun c10 => ?_)
      · refine fz_iload_n kX8_reception rfl rfl ?_
        exact fz_iret kX8_reception rfl rfl (fun _ => ⟨rfl, _, rfl, (by omega), (by exact fl_at (f := fl_rp (h 29) (h 28)) (n := 5) hv9 (by omega))⟩)
      · refine fz_iload_n kX8_reception rfl rfl ?_
        refine fz_aload_n kX8_reception rfl rfl ?_
        refine fz_getR (t := 29) kX8_reception rfl rfl ?_
        refine fz_iload_n kX8_reception rfl rfl ?_
        refine fz_ialdV (n := 5) (v := h 29 (x1.toNat)) kX8_reception rfl rfl (by omega) (by omega) rfl ?_
        have b12 : (-2147483648) ≤ h 29 (x1.toNat) ∧ h 29 (x1.toNat) ≤ 2147483647 := hI.1 29 _
        refine fz_aload_n kX8_reception rfl rfl ?_
        refine fz_getR (t := 28) kX8_reception rfl rfl ?_
        refine fz_iload_n kX8_reception rfl rfl ?_
        refine fz_ialdV (n := 5) (v := h 28 (x1.toNat)) kX8_reception rfl rfl (by omega) (by omega) rfl ?_
        have b13 : (-9) ≤ h 28 (x1.toNat) ∧ h 28 (x1.toNat) ≤ 9 := hI.1 28 _
        refine fz_imul kX8_reception rfl ?_
        have b14 := fz_w_b ((h 29 (x1.toNat)) * (h 28 (x1.toNat)))
        refine fz_iadd kX8_reception rfl ?_
        have b15 := fz_w_b (x2 + (fz_w ((h 29 (x1.toNat)) * (h 28 (x1.toNat)))))
        refine fz_istore_n (ls' := [(1, fz_i (fz_w (x2 + (fz_w ((h 29 (x1.toNat)) * (h 28 (x1.toNat))))))), (2, fz_i x1), (0, fz_r 27)]) kX8_reception rfl (by decide) rfl ?_
        refine fz_iincN (ls' := [(2, fz_i (x1 + 1)), (1, fz_i (fz_w (x2 + (fz_w ((h 29 (x1.toNat)) * (h 28 (x1.toNat))))))), (0, fz_r 27)]) kX8_reception rfl (by decide) rfl (by omega) rfl ?_
        refine fz_goto (tgt := 4) kX8_reception rfl (by decide) ?_
        exact ih5 (x1 + 1) (fz_w (x2 + (fz_w ((h 29 (x1.toNat)) * (h 28 (x1.toNat)))))) (by omega) (by omega) (fl_rp_s hv9 (by omega) rfl rfl) (by omega)
  exact lp4 _ 0 0 (by omega) (by omega) (rfl) (Nat.lt_succ_self _)

abbrev qX8_raise (h : fz_H) (mk v : Int) : fz_H → Option fz_V → Prop := fun h' r0 => fz_Iv h' ∧ fz_fr [(29, 99999)] h h' ∧ r0 = none ∧ ∀ s : Nat, h' 29 s = if s = mk.toNat then max (h 29 mk.toNat) v else h 29 s
set_option maxHeartbeats 1000000 in
set_option maxRecDepth 100000 in
theorem sX8_raise (h : fz_H) (hI : fz_Iv h) (mk v : Int) (hp0 : 0 ≤ mk ∧ mk < 5) : fz_R 1 mX8_raise 0 [(0, fz_r 27), (1, fz_i mk), (2, fz_i v)] [] h (qX8_raise h mk v) := by
  refine fz_knowl (fun hk => ?_)
  have hr_mk : -2147483648 ≤ mk ∧ mk < 2147483648 := hk _ (List.Mem.tail _ (List.Mem.head _))
  have hr_v : -2147483648 ≤ v ∧ v < 2147483648 := hk _ (List.Mem.tail _ (List.Mem.tail _ (List.Mem.head _)))
  clear hk
  have hf : fz_fr [(29, 99999)] h h := fz_fr_rf
  refine fz_aload_n kX8_raise rfl rfl ?_
  refine fz_getR (t := 29) kX8_raise rfl rfl ?_
  refine fz_iload_n kX8_raise rfl rfl ?_
  refine fz_aload_n kX8_raise rfl rfl ?_
  refine fz_getR (t := 29) kX8_raise rfl rfl ?_
  refine fz_iload_n kX8_raise rfl rfl ?_
  refine fz_ialdV (n := 5) (v := h 29 (mk.toNat)) kX8_raise rfl rfl (by omega) (by omega) rfl ?_
  have b1 : (-2147483648) ≤ h 29 (mk.toNat) ∧ h 29 (mk.toNat) ≤ 2147483647 := hI.1 29 _
  refine fz_iload_n kX8_raise rfl rfl ?_
  refine fz_max kX8_raise rfl rfl fz_sMx fz_iMm fz_cMx (by decide) (Nat.le_of_ble_eq_true rfl) ?_
  refine fz_iast (n := 5) kX8_raise rfl rfl (by omega) (by omega) ?_
  refine fz_nmu (S := [(29, 99999)]) (h0 := h) (fz_Iv_up hI (by decide) (show ((-2147483648) : Int) ≤ (max (h 29 (mk.toNat)) v) by omega) (show ((max (h 29 (mk.toNat)) v) : Int) ≤ 2147483647 by omega)) (fz_fr_up hf rfl) (fun H2 hI3 hf4 e5 => ?_)
  exact fz_vret kX8_raise rfl rfl ⟨hI3, hf4, rfl, (by exact fz_up_M e5 rfl rfl)⟩

abbrev qX8_loudestOf (h : fz_H) (pm t hr : Int) : fz_H → Option fz_V → Prop := fun h' r0 => fz_Iv h' ∧ fz_fr [(18, 99999), (19, 99999)] h h' ∧ ∃ r : Int, r0 = some (fz_i r) ∧ ((-2147483648) ≤ r ∧ r ≤ 2147483647) ∧ (r = fl_SC h (pm / 10) (pm / 10) (pm % 10) t hr)
set_option maxHeartbeats 1000000 in
set_option maxRecDepth 100000 in
theorem sX8_loudestOf (h : fz_H) (hI : fz_Iv h) (pm t hr : Int) (hp0 : 0 ≤ t ∧ t < 8) (hp1 : 0 ≤ pm ∧ pm ≤ 39 ∧ pm % 10 < 5) : fz_R 4 mX8_loudestOf 0 [(0, fz_r 27), (1, fz_i pm), (2, fz_i t), (3, fz_i hr)] [] h (qX8_loudestOf h pm t hr) := by
  refine fz_knowl (fun hk => ?_)
  have hr_pm : -2147483648 ≤ pm ∧ pm < 2147483648 := hk _ (List.Mem.tail _ (List.Mem.head _))
  have hr_t : -2147483648 ≤ t ∧ t < 2147483648 := hk _ (List.Mem.tail _ (List.Mem.tail _ (List.Mem.head _)))
  have hr_hr : -2147483648 ≤ hr ∧ hr < 2147483648 := hk _ (List.Mem.tail _ (List.Mem.tail _ (List.Mem.tail _ (List.Mem.head _))))
  clear hk
  have hf : fz_fr [(18, 99999), (19, 99999)] h h := fz_fr_rf
  have k1 : 0 ≤ h 9 5 ∧ h 9 5 ≤ 10 := hI.1 9 _
  refine fz_iconst ⟨by decide, by decide⟩ kX8_loudestOf rfl ?_
  refine fz_istore (ls' := [(4, fz_i 0), (0, fz_r 27), (1, fz_i pm), (2, fz_i t), (3, fz_i hr)]) kX8_loudestOf rfl (by decide) rfl ?_
  refine fz_iconst ⟨by decide, by decide⟩ kX8_loudestOf rfl ?_
  refine fz_istore (ls' := [(5, fz_i 0), (4, fz_i 0), (0, fz_r 27), (1, fz_i pm), (2, fz_i t), (3, fz_i hr)]) kX8_loudestOf rfl (by decide) rfl ?_
  have lp8 : ∀ (n7 : Nat) (x2 : Int) (x3 : Int) (H4 : fz_H), fz_Iv H4 → fz_fr [(18, 99999), (19, 99999)] h H4 → (0 ≤ x2 ∧ x2 ≤ 2147483647) → ((-2147483648) ≤ x3 ∧ x3 ≤ 2147483647) → (x2 ≤ h 9 5) → (x3 = fl_sl (h 10) (h 13) (fl_ldC h (pm / 10) t hr) (pm / 10) (pm / 10) (pm % 10) (x2).toNat) → ((h 9 5) - x2).toNat < n7 → fz_R 4 mX8_loudestOf 6 [(5, fz_i x2), (4, fz_i x3), (0, fz_r 27), (1, fz_i pm), (2, fz_i t), (3, fz_i hr)] [] H4 (qX8_loudestOf h pm t hr) := by
    intro n7
    induction n7 with
    | zero => intro x2 x3 H4 hI5 hf6 hv11 hv12 hv13 hv14 hm10; exact absurd hm10 (by omega)
    | succ n7 ih9 =>
      intro x2 x3 H4 hI5 hf6 hv11 hv12 hv13 hv14 hm10
      refine fz_iload kX8_loudestOf rfl rfl ?_
      refine fz_aload_n kX8_loudestOf rfl rfl ?_
      refine fz_getR (t := 9) kX8_loudestOf rfl rfl ?_
      refine fz_getV (v := h 9 5) kX8_loudestOf rfl rfl (hf6 9 5 rfl) ?_
      have b15 : 0 ≤ h 9 5 ∧ h 9 5 ≤ 10 := hI.1 9 _
      refine fz_icmp_ge (tgt := 71) kX8_loudestOf rfl (by decide) (fun c16 => ?_) (fun c16 => ?_)
      · refine fz_iload kX8_loudestOf rfl rfl ?_
        exact fz_iret kX8_loudestOf rfl rfl (fun _ => ⟨hI5, hf6, _, rfl, (by omega), (by exact fl_sl_e hv14 (by omega))⟩)
      · refine fz_aload_n kX8_loudestOf rfl rfl ?_
        refine fz_getR (t := 9) kX8_loudestOf rfl rfl ?_
        refine fz_getR (t := 10) kX8_loudestOf rfl rfl ?_
        refine fz_iload kX8_loudestOf rfl rfl ?_
        refine fz_ialdV (n := 11) (v := h 10 (x2.toNat)) kX8_loudestOf rfl rfl (by omega) (by omega) (hf6 10 _ rfl) ?_
        have b18 : 0 ≤ h 10 (x2.toNat) ∧ h 10 (x2.toNat) ≤ 3 := hI.1 10 _
        refine fz_bipush ⟨by decide, by decide⟩ kX8_loudestOf rfl ?_
        refine fz_imulN kX8_loudestOf rfl (by omega) ?_
        refine fz_aload_n kX8_loudestOf rfl rfl ?_
        refine fz_getR (t := 9) kX8_loudestOf rfl rfl ?_
        refine fz_getR (t := 13) kX8_loudestOf rfl rfl ?_
        refine fz_iload kX8_loudestOf rfl rfl ?_
        refine fz_ialdV (n := 11) (v := h 13 (x2.toNat)) kX8_loudestOf rfl rfl (by omega) (by omega) (hf6 13 _ rfl) ?_
        have b19 : 0 ≤ h 13 (x2.toNat) ∧ h 13 (x2.toNat) ≤ 4 := hI.1 13 _
        refine fz_iaddN kX8_loudestOf rfl (by omega) ?_
        refine fz_iload_n kX8_loudestOf rfl rfl ?_
        refine fz_icmp_ne (tgt := 65) kX8_loudestOf rfl (by decide) (fun c20 => ?_) (fun c20 => ?_)
        · refine fz_iincN (ls' := [(5, fz_i (x2 + 1)), (4, fz_i x3), (0, fz_r 27), (1, fz_i pm), (2, fz_i t), (3, fz_i hr)]) kX8_loudestOf rfl (by decide) rfl (by omega) rfl ?_
          refine fz_goto (tgt := 6) kX8_loudestOf rfl (by decide) ?_
          exact ih9 (x2 + 1) x3 H4 hI5 hf6 (by omega) (by omega) (by omega) (by first | exact fl_sl_y hv14 (by omega) ⟨Or.inl (by omega), by omega⟩ lost | exact fl_sl_n hv14 (by omega) (by omega)) (by omega)
        · refine fz_iload kX8_loudestOf rfl rfl ?_
          refine fz_aload_n kX8_loudestOf rfl rfl ?_
          refine fz_iload kX8_loudestOf rfl rfl ?_
          refine fz_iload_n kX8_loudestOf rfl rfl ?_
          refine fz_bipush ⟨by decide, by decide⟩ kX8_loudestOf rfl ?_
          refine fz_idivN kX8_loudestOf rfl (by omega) (by omega) (by omega) ?_
          refine fz_iload_n kX8_loudestOf rfl rfl ?_
          refine fz_iload_n kX8_loudestOf rfl rfl ?_
          refine fz_callV (d' := 3) (M' := mX8_loudness) (As := [fz_i x2, fz_i (pm / 10), fz_i t, fz_i hr]) (st := [fz_i x3]) kX8_loudestOf rfl rfl vX8_loudness rfl rfl rfl rfl (Nat.le_of_ble_eq_true rfl) (Nat.le_of_ble_eq_true rfl) (by decide) (sX8_loudness H4 hI5 x2 (pm / 10) t hr (by omega) (by omega)) (fun H22 r23 q24 o25 => ?_)
          obtain ⟨hI26, hf27, y30, rfl, f28, f29⟩ := q24
          clear o25
          have hf31 := fz_fr_tr hf6 hf27 (show fz_su [(18, 99999), (19, 99999)] [(18, 99999), (19, 99999)] = true from rfl)
          have k32 : y30 = fl_ldC h (pm / 10) t hr x2 := by rw [← fl_ldC_fr hf6 rfl]; exact f29
          refine fz_max kX8_loudestOf rfl rfl fz_sMx fz_iMm fz_cMx (by decide) (Nat.le_of_ble_eq_true rfl) ?_
          refine fz_istore (ls' := [(4, fz_i (max x3 y30)), (5, fz_i x2), (0, fz_r 27), (1, fz_i pm), (2, fz_i t), (3, fz_i hr)]) kX8_loudestOf rfl (by decide) rfl ?_
          refine fz_iincN (ls' := [(5, fz_i (x2 + 1)), (4, fz_i (max x3 y30)), (0, fz_r 27), (1, fz_i pm), (2, fz_i t), (3, fz_i hr)]) kX8_loudestOf rfl (by decide) rfl (by omega) rfl ?_
          refine fz_goto (tgt := 6) kX8_loudestOf rfl (by decide) ?_
          exact ih9 (x2 + 1) (max x3 y30) H22 hI26 hf31 (by omega) (by omega) (by omega) (by first | exact fl_sl_y hv14 (by omega) ⟨Or.inl (by omega), by omega⟩ k32 | exact fl_sl_n hv14 (by omega) (by omega)) (by omega)
  exact lp8 _ 0 0 h hI hf (by omega) (by omega) (by omega) (rfl) (Nat.lt_succ_self _)

abbrev qX8_listen (h : fz_H) (on ot t hr : Int) : fz_H → Option fz_V → Prop := fun h' r0 => fz_Iv h' ∧ fz_fr [(18, 99999), (19, 99999), (29, 99999)] h h' ∧ r0 = none ∧ ∀ m : Nat, m < 5 → h' 29 m = fl_SC h on ot m t hr
set_option maxHeartbeats 1000000 in
set_option maxRecDepth 100000 in
theorem sX8_listen (h : fz_H) (hI : fz_Iv h) (on ot t hr : Int) (hp0 : 0 ≤ t ∧ t < 8) : fz_R 4 mX8_listen 0 [(0, fz_r 27), (1, fz_i on), (2, fz_i ot), (3, fz_i t), (4, fz_i hr)] [] h (qX8_listen h on ot t hr) := by
  refine fz_knowl (fun hk => ?_)
  have hr_on : -2147483648 ≤ on ∧ on < 2147483648 := hk _ (List.Mem.tail _ (List.Mem.head _))
  have hr_ot : -2147483648 ≤ ot ∧ ot < 2147483648 := hk _ (List.Mem.tail _ (List.Mem.tail _ (List.Mem.head _)))
  have hr_t : -2147483648 ≤ t ∧ t < 2147483648 := hk _ (List.Mem.tail _ (List.Mem.tail _ (List.Mem.tail _ (List.Mem.head _))))
  have hr_hr : -2147483648 ≤ hr ∧ hr < 2147483648 := hk _ (List.Mem.tail _ (List.Mem.tail _ (List.Mem.tail _ (List.Mem.tail _ (List.Mem.head _)))))
  clear hk
  have hf : fz_fr [(18, 99999), (19, 99999), (29, 99999)] h h := fz_fr_rf
  have k1 : 0 ≤ h 9 5 ∧ h 9 5 ≤ 10 := hI.1 9 _
  refine fz_aload_n kX8_listen rfl rfl ?_
  refine fz_getR (t := 29) kX8_listen rfl rfl ?_
  refine fz_iconst ⟨by decide, by decide⟩ kX8_listen rfl ?_
  refine fz_callS (d' := 0) (M' := mJ7_fill_53178) (As := [fz_r 29, fz_i 0]) (st := []) kX8_listen rfl rfl vJ7_fill_53178 rfl rfl (Nat.le_of_ble_eq_true rfl) (Nat.le_of_ble_eq_true rfl) (by decide) (sJ7_fill_53178_29 h hI 0 ) (fun H2 r3 q4 o5 => ?_)
  obtain ⟨hI6, hf7, rfl, f8⟩ := q4
  clear o5
  have hf9 := fz_fr_tr hf hf7 (show fz_su [(29, 99999)] [(18, 99999), (19, 99999), (29, 99999)] = true from rfl)
  refine fz_iconst ⟨by decide, by decide⟩ kX8_listen rfl ?_
  refine fz_istore (ls' := [(5, fz_i 0), (0, fz_r 27), (1, fz_i on), (2, fz_i ot), (3, fz_i t), (4, fz_i hr)]) kX8_listen rfl (by decide) rfl ?_
  have lp15 : ∀ (n14 : Nat) (x10 : Int) (H11 : fz_H), fz_Iv H11 → fz_fr [(18, 99999), (19, 99999), (29, 99999)] h H11 → (0 ≤ x10 ∧ x10 ≤ 2147483647) → (x10 ≤ h 9 5) → (fl_voI h H11 on ot t hr x10) → ((h 9 5) - x10).toNat < n14 → fz_R 4 mX8_listen 11 [(5, fz_i x10), (0, fz_r 27), (1, fz_i on), (2, fz_i ot), (3, fz_i t), (4, fz_i hr)] [] H11 (qX8_listen h on ot t hr) := by
    intro n14
    induction n14 with
    | zero => intro x10 H11 hI12 hf13 hv18 hv19 hv20 hm17; exact absurd hm17 (by omega)
    | succ n14 ih16 =>
      intro x10 H11 hI12 hf13 hv18 hv19 hv20 hm17
      refine fz_iload kX8_listen rfl rfl ?_
      refine fz_aload_n kX8_listen rfl rfl ?_
      refine fz_getR (t := 9) kX8_listen rfl rfl ?_
      refine fz_getV (v := h 9 5) kX8_listen rfl rfl (hf13 9 5 rfl) ?_
      have b21 : 0 ≤ h 9 5 ∧ h 9 5 ≤ 10 := hI.1 9 _
      refine fz_icmp_ge (tgt := 77) kX8_listen rfl (by decide) (fun c22 => ?_) (fun c22 => ?_)
      · exact fz_vret kX8_listen rfl rfl ⟨hI12, hf13, rfl, (by exact fl_voI_e hv20 (by omega))⟩
      · refine fz_aload_n kX8_listen rfl rfl ?_
        refine fz_getR (t := 9) kX8_listen rfl rfl ?_
        refine fz_getR (t := 10) kX8_listen rfl rfl ?_
        refine fz_iload kX8_listen rfl rfl ?_
        refine fz_ialdV (n := 11) (v := h 10 (x10.toNat)) kX8_listen rfl rfl (by omega) (by omega) (hf13 10 _ rfl) ?_
        have b24 : 0 ≤ h 10 (x10.toNat) ∧ h 10 (x10.toNat) ≤ 3 := hI.1 10 _
        refine fz_istore (ls' := [(6, fz_i (h 10 (x10.toNat))), (5, fz_i x10), (0, fz_r 27), (1, fz_i on), (2, fz_i ot), (3, fz_i t), (4, fz_i hr)]) kX8_listen rfl (by decide) rfl ?_
        refine fz_iload kX8_listen rfl rfl ?_
        refine fz_iload_n kX8_listen rfl rfl ?_
        refine fz_icmp_eq (tgt := 47) kX8_listen rfl (by decide) (fun c25 => ?_) (fun c25 => ?_)
        · refine fz_aload_n kX8_listen rfl rfl ?_
          refine fz_aload_n kX8_listen rfl rfl ?_
          refine fz_getR (t := 9) kX8_listen rfl rfl ?_
          refine fz_getR (t := 13) kX8_listen rfl rfl ?_
          refine fz_iload kX8_listen rfl rfl ?_
          refine fz_ialdV (n := 11) (v := h 13 (x10.toNat)) kX8_listen rfl rfl (by omega) (by omega) (hf13 13 _ rfl) ?_
          have b26 : 0 ≤ h 13 (x10.toNat) ∧ h 13 (x10.toNat) ≤ 4 := hI.1 13 _
          refine fz_aload_n kX8_listen rfl rfl ?_
          refine fz_iload kX8_listen rfl rfl ?_
          refine fz_iload_n kX8_listen rfl rfl ?_
          refine fz_iload_n kX8_listen rfl rfl ?_
          refine fz_iload kX8_listen rfl rfl ?_
          refine fz_callV (d' := 3) (M' := mX8_loudness) (As := [fz_i x10, fz_i on, fz_i t, fz_i hr]) (st := [fz_i (h 13 (x10.toNat)), fz_r 27]) kX8_listen rfl rfl vX8_loudness rfl rfl rfl rfl (Nat.le_of_ble_eq_true rfl) (Nat.le_of_ble_eq_true rfl) (by decide) (sX8_loudness H11 hI12 x10 on t hr (by omega) (by omega)) (fun H27 r28 q29 o30 => ?_)
          obtain ⟨hI31, hf32, y35, rfl, f33, f34⟩ := q29
          clear o30
          have hf36 := fz_fr_tr hf13 hf32 (show fz_su [(18, 99999), (19, 99999)] [(18, 99999), (19, 99999), (29, 99999)] = true from rfl)
          have k37 : y35 = fl_ldC h (on) t hr x10 := by rw [← fl_ldC_fr hf13 rfl]; exact f34
          refine fz_callV (d' := 1) (M' := mX8_raise) (As := [fz_i (h 13 (x10.toNat)), fz_i y35]) (st := []) kX8_listen rfl rfl vX8_raise rfl rfl rfl rfl (Nat.le_of_ble_eq_true rfl) (Nat.le_of_ble_eq_true rfl) (by decide) (sX8_raise H27 hI31 (h 13 (x10.toNat)) y35 (by omega)) (fun H39 r40 q41 o42 => ?_)
          obtain ⟨hI43, hf44, rfl, f45⟩ := q41
          clear o42
          have hf46 := fz_fr_tr hf36 hf44 (show fz_su [(29, 99999)] [(18, 99999), (19, 99999), (29, 99999)] = true from rfl)
          refine fz_iincN (ls' := [(5, fz_i (x10 + 1)), (6, fz_i (h 10 (x10.toNat))), (0, fz_r 27), (1, fz_i on), (2, fz_i ot), (3, fz_i t), (4, fz_i hr)]) kX8_listen rfl (by decide) rfl (by omega) rfl ?_
          refine fz_goto (tgt := 11) kX8_listen rfl (by decide) ?_
          refine fz_sub (fz_pk_sub (ls' := [(5, fz_i (x10 + 1)), (0, fz_r 27), (1, fz_i on), (2, fz_i ot), (3, fz_i t), (4, fz_i hr)]) [0, 2, 3, 4, 5, 6] rfl) ?_
          exact ih16 (x10 + 1) H39 hI43 hf46 (by omega) (by omega) (by first | exact fl_voI_y hv20 (by omega) (by omega) rfl (by omega) (funext fun s => hf32 29 s rfl) k37 f45 | exact fl_voI_n hv20 (by omega) (by omega)) (by omega)
        · refine fz_iload kX8_listen rfl rfl ?_
          refine fz_iload_n kX8_listen rfl rfl ?_
          refine fz_icmp_ne (tgt := 71) kX8_listen rfl (by decide) (fun c48 => ?_) (fun c48 => ?_)
          · refine fz_iincN (ls' := [(5, fz_i (x10 + 1)), (6, fz_i (h 10 (x10.toNat))), (0, fz_r 27), (1, fz_i on), (2, fz_i ot), (3, fz_i t), (4, fz_i hr)]) kX8_listen rfl (by decide) rfl (by omega) rfl ?_
            refine fz_goto (tgt := 11) kX8_listen rfl (by decide) ?_
            refine fz_sub (fz_pk_sub (ls' := [(5, fz_i (x10 + 1)), (0, fz_r 27), (1, fz_i on), (2, fz_i ot), (3, fz_i t), (4, fz_i hr)]) [0, 2, 3, 4, 5, 6] rfl) ?_
            exact ih16 (x10 + 1) H11 hI12 hf13 (by omega) (by omega) (by first | exact fl_voI_y hv20 (by omega) (by omega) rfl (by omega) (funext fun s => lost 29 s rfl) lost lost | exact fl_voI_n hv20 (by omega) (by omega)) (by omega)
          · refine fz_aload_n kX8_listen rfl rfl ?_
            refine fz_aload_n kX8_listen rfl rfl ?_
            refine fz_getR (t := 9) kX8_listen rfl rfl ?_
            refine fz_getR (t := 13) kX8_listen rfl rfl ?_
            refine fz_iload kX8_listen rfl rfl ?_
            refine fz_ialdV (n := 11) (v := h 13 (x10.toNat)) kX8_listen rfl rfl (by omega) (by omega) (hf13 13 _ rfl) ?_
            have b50 : 0 ≤ h 13 (x10.toNat) ∧ h 13 (x10.toNat) ≤ 4 := hI.1 13 _
            refine fz_aload_n kX8_listen rfl rfl ?_
            refine fz_iload kX8_listen rfl rfl ?_
            refine fz_iload_n kX8_listen rfl rfl ?_
            refine fz_iload_n kX8_listen rfl rfl ?_
            refine fz_iload kX8_listen rfl rfl ?_
            refine fz_callV (d' := 3) (M' := mX8_loudness) (As := [fz_i x10, fz_i on, fz_i t, fz_i hr]) (st := [fz_i (h 13 (x10.toNat)), fz_r 27]) kX8_listen rfl rfl vX8_loudness rfl rfl rfl rfl (Nat.le_of_ble_eq_true rfl) (Nat.le_of_ble_eq_true rfl) (by decide) (sX8_loudness H11 hI12 x10 on t hr (by omega) (by omega)) (fun H51 r52 q53 o54 => ?_)
            obtain ⟨hI55, hf56, y59, rfl, f57, f58⟩ := q53
            clear o54
            have hf60 := fz_fr_tr hf13 hf56 (show fz_su [(18, 99999), (19, 99999)] [(18, 99999), (19, 99999), (29, 99999)] = true from rfl)
            have k61 : y59 = fl_ldC h (on) t hr x10 := by rw [← fl_ldC_fr hf13 rfl]; exact f58
            refine fz_callV (d' := 1) (M' := mX8_raise) (As := [fz_i (h 13 (x10.toNat)), fz_i y59]) (st := []) kX8_listen rfl rfl vX8_raise rfl rfl rfl rfl (Nat.le_of_ble_eq_true rfl) (Nat.le_of_ble_eq_true rfl) (by decide) (sX8_raise H51 hI55 (h 13 (x10.toNat)) y59 (by omega)) (fun H63 r64 q65 o66 => ?_)
            obtain ⟨hI67, hf68, rfl, f69⟩ := q65
            clear o66
            have hf70 := fz_fr_tr hf60 hf68 (show fz_su [(29, 99999)] [(18, 99999), (19, 99999), (29, 99999)] = true from rfl)
            refine fz_iincN (ls' := [(5, fz_i (x10 + 1)), (6, fz_i (h 10 (x10.toNat))), (0, fz_r 27), (1, fz_i on), (2, fz_i ot), (3, fz_i t), (4, fz_i hr)]) kX8_listen rfl (by decide) rfl (by omega) rfl ?_
            refine fz_goto (tgt := 11) kX8_listen rfl (by decide) ?_
            refine fz_sub (fz_pk_sub (ls' := [(5, fz_i (x10 + 1)), (0, fz_r 27), (1, fz_i on), (2, fz_i ot), (3, fz_i t), (4, fz_i hr)]) [0, 2, 3, 4, 5, 6] rfl) ?_
            exact ih16 (x10 + 1) H63 hI67 hf70 (by omega) (by omega) (by first | exact fl_voI_y hv20 (by omega) (by omega) rfl (by omega) (funext fun s => hf56 29 s rfl) k61 f69 | exact fl_voI_n hv20 (by omega) (by omega)) (by omega)
  exact lp15 _ 0 H2 hI6 hf9 (by omega) (by omega) (fl_voI_0 f8 rfl) (Nat.lt_succ_self _)

abbrev qX8_weigh (h : fz_H) (on t hr : Int) : fz_H → Option fz_V → Prop := fun h' r0 => fz_Iv h' ∧ fz_fr [(18, 99999), (19, 99999), (31, 99999)] h h' ∧ ∃ r : Int, r0 = some (fz_i r) ∧ (0 ≤ r ∧ r ≤ 2047) ∧ (fl_own (h 10) on r (h 9 5)) ∧ (fl_vI h h' on t hr (h 9 5))
set_option maxHeartbeats 1000000 in
set_option maxRecDepth 100000 in
theorem sX8_weigh (h : fz_H) (hI : fz_Iv h) (on t hr : Int) (hp0 : 0 ≤ t ∧ t < 8) : fz_R 4 mX8_weigh 0 [(0, fz_r 27), (1, fz_i on), (2, fz_i t), (3, fz_i hr)] [] h (qX8_weigh h on t hr) := by
  refine fz_knowl (fun hk => ?_)
  have hr_on : -2147483648 ≤ on ∧ on < 2147483648 := hk _ (List.Mem.tail _ (List.Mem.head _))
  have hr_t : -2147483648 ≤ t ∧ t < 2147483648 := hk _ (List.Mem.tail _ (List.Mem.tail _ (List.Mem.head _)))
  have hr_hr : -2147483648 ≤ hr ∧ hr < 2147483648 := hk _ (List.Mem.tail _ (List.Mem.tail _ (List.Mem.tail _ (List.Mem.head _))))
  clear hk
  have hf : fz_fr [(18, 99999), (19, 99999), (31, 99999)] h h := fz_fr_rf
  have b1 : 0 ≤ h 9 5 ∧ h 9 5 ≤ 10 := hI.1 9 _
  have k2 : 0 ≤ h 9 5 ∧ h 9 5 ≤ 10 := hI.1 9 _
  refine fz_iconst ⟨by decide, by decide⟩ kX8_weigh rfl ?_
  refine fz_istore (ls' := [(4, fz_i 0), (0, fz_r 27), (1, fz_i on), (2, fz_i t), (3, fz_i hr)]) kX8_weigh rfl (by decide) rfl ?_
  refine fz_iconst ⟨by decide, by decide⟩ kX8_weigh rfl ?_
  refine fz_istore (ls' := [(5, fz_i 0), (4, fz_i 0), (0, fz_r 27), (1, fz_i on), (2, fz_i t), (3, fz_i hr)]) kX8_weigh rfl (by decide) rfl ?_
  have lp9 : ∀ (n8 : Nat) (x3 : Int) (x4 : Int) (H5 : fz_H), fz_Iv H5 → fz_fr [(18, 99999), (19, 99999), (31, 99999)] h H5 → (0 ≤ x3 ∧ x3 ≤ 2147483647) → (0 ≤ x4 ∧ x4 ≤ 2047) → (x3 ≤ h 9 5) → (fz_cb (h 10) on x4 x3) → (fl_vI h H5 on t hr x3) → ((h 9 5) - x3).toNat < n8 → fz_R 4 mX8_weigh 6 [(5, fz_i x3), (4, fz_i x4), (0, fz_r 27), (1, fz_i on), (2, fz_i t), (3, fz_i hr)] [] H5 (qX8_weigh h on t hr) := by
    intro n8
    induction n8 with
    | zero => intro x3 x4 H5 hI6 hf7 hv12 hv13 hv14 hv15 hv16 hm11; exact absurd hm11 (by omega)
    | succ n8 ih10 =>
      intro x3 x4 H5 hI6 hf7 hv12 hv13 hv14 hv15 hv16 hm11
      refine fz_iload kX8_weigh rfl rfl ?_
      refine fz_aload_n kX8_weigh rfl rfl ?_
      refine fz_getR (t := 9) kX8_weigh rfl rfl ?_
      refine fz_getV (v := h 9 5) kX8_weigh rfl rfl (hf7 9 5 rfl) ?_
      have b17 : 0 ≤ h 9 5 ∧ h 9 5 ≤ 10 := hI.1 9 _
      refine fz_icmp_ge (tgt := 63) kX8_weigh rfl (by decide) (fun c18 => ?_) (fun c18 => ?_)
      · refine fz_iload kX8_weigh rfl rfl ?_
        exact fz_iret kX8_weigh rfl rfl (fun _ => ⟨hI6, hf7, _, rfl, (by omega), (by exact ⟨⟨by omega, by omega⟩, fz_cb_e hv15 (by omega)⟩), (by exact fl_vI_e hv16 (by omega))⟩)
      · refine fz_aload_n kX8_weigh rfl rfl ?_
        refine fz_getR (t := 9) kX8_weigh rfl rfl ?_
        refine fz_getR (t := 10) kX8_weigh rfl rfl ?_
        refine fz_iload kX8_weigh rfl rfl ?_
        refine fz_ialdV (n := 11) (v := h 10 (x3.toNat)) kX8_weigh rfl rfl (by omega) (by omega) (hf7 10 _ rfl) ?_
        have b21 : 0 ≤ h 10 (x3.toNat) ∧ h 10 (x3.toNat) ≤ 3 := hI.1 10 _
        refine fz_iload_n kX8_weigh rfl rfl ?_
        refine fz_icmp_ne (tgt := 57) kX8_weigh rfl (by decide) (fun c22 => ?_) (fun c22 => ?_)
        · refine fz_iincN (ls' := [(5, fz_i (x3 + 1)), (4, fz_i x4), (0, fz_r 27), (1, fz_i on), (2, fz_i t), (3, fz_i hr)]) kX8_weigh rfl (by decide) rfl (by omega) rfl ?_
          refine fz_goto (tgt := 6) kX8_weigh rfl (by decide) ?_
          exact ih10 (x3 + 1) x4 H5 hI6 hf7 (by omega) (by omega) (by omega) (by first | exact fz_cb_1 hv15 ⟨by omega, by omega⟩ (by omega) | exact fz_cb_0 hv15 (by omega) (by omega)) (by first | exact fl_vI_y hv16 (by omega) lost (funext fun s => lost 31 s rfl) lost | exact fl_vI_n hv16 (by omega) (by omega)) (by omega)
        · refine fz_iload kX8_weigh rfl rfl ?_
          refine fz_iconst ⟨by decide, by decide⟩ kX8_weigh rfl ?_
          refine fz_iload kX8_weigh rfl rfl ?_
          refine fz_ishl kX8_weigh rfl ?_
          have b25 : -2147483648 ≤ (fz_shl 1 x3) ∧ (fz_shl 1 x3) < 2147483648 := fz_b32 _
          have b26 : 0 ≤ (fz_shl 1 x3) ∧ (fz_shl 1 x3) ≤ 2047 := fz_shl_m (by omega)
          refine fz_ior kX8_weigh rfl ?_
          have b27 : -2147483648 ≤ (fz_or x4 (fz_shl 1 x3)) ∧ (fz_or x4 (fz_shl 1 x3)) < 2147483648 := fz_b32 _
          have b28 : 0 ≤ (fz_or x4 (fz_shl 1 x3)) ∧ (fz_or x4 (fz_shl 1 x3)) ≤ 2047 := fz_or_m (by omega) (by omega)
          refine fz_istore (ls' := [(4, fz_i (fz_or x4 (fz_shl 1 x3))), (5, fz_i x3), (0, fz_r 27), (1, fz_i on), (2, fz_i t), (3, fz_i hr)]) kX8_weigh rfl (by decide) rfl ?_
          refine fz_aload_n kX8_weigh rfl rfl ?_
          refine fz_getR (t := 31) kX8_weigh rfl rfl ?_
          refine fz_iload kX8_weigh rfl rfl ?_
          refine fz_aload_n kX8_weigh rfl rfl ?_
          refine fz_iload kX8_weigh rfl rfl ?_
          refine fz_iload_n kX8_weigh rfl rfl ?_
          refine fz_iload_n kX8_weigh rfl rfl ?_
          refine fz_iload_n kX8_weigh rfl rfl ?_
          refine fz_callV (d' := 3) (M' := mX8_loudness) (As := [fz_i x3, fz_i on, fz_i t, fz_i hr]) (st := [fz_i x3, fz_r 31]) kX8_weigh rfl rfl vX8_loudness rfl rfl rfl rfl (Nat.le_of_ble_eq_true rfl) (Nat.le_of_ble_eq_true rfl) (by decide) (sX8_loudness H5 hI6 x3 on t hr (by omega) (by omega)) (fun H29 r30 q31 o32 => ?_)
          obtain ⟨hI33, hf34, y37, rfl, f35, f36⟩ := q31
          clear o32
          have hf38 := fz_fr_tr hf7 hf34 (show fz_su [(18, 99999), (19, 99999)] [(18, 99999), (19, 99999), (31, 99999)] = true from rfl)
          have k39 : y37 = fl_ldC h on t hr x3 := by rw [← fl_ldC_fr hf7 rfl]; exact f36
          refine fz_iast (n := 10) kX8_weigh rfl rfl (by omega) (by omega) ?_
          refine fz_nmu (S := [(18, 99999), (19, 99999), (31, 99999)]) (h0 := h) (fz_Iv_up hI33 (by decide) (show ((-2147483648) : Int) ≤ y37 by omega) (show (y37 : Int) ≤ 2147483647 by omega)) (fz_fr_up hf38 rfl) (fun H41 hI42 hf43 e44 => ?_)
          refine fz_iincN (ls' := [(5, fz_i (x3 + 1)), (4, fz_i (fz_or x4 (fz_shl 1 x3))), (0, fz_r 27), (1, fz_i on), (2, fz_i t), (3, fz_i hr)]) kX8_weigh rfl (by decide) rfl (by omega) rfl ?_
          refine fz_goto (tgt := 6) kX8_weigh rfl (by decide) ?_
          exact ih10 (x3 + 1) (fz_or x4 (fz_shl 1 x3)) H41 hI42 hf43 (by omega) (by omega) (by omega) (by first | exact fz_cb_1 hv15 ⟨by omega, by omega⟩ (by omega) | exact fz_cb_0 hv15 (by omega) (by omega)) (by first | exact fl_vI_y hv16 (by omega) e44 (funext fun s => hf34 31 s rfl) k39 | exact fl_vI_n hv16 (by omega) (by omega)) (by omega)
  exact lp9 _ 0 0 h hI hf (by omega) (by omega) (by omega) (fz_cb_z rfl) (fl_vI_0) (Nat.lt_succ_self _)

abbrev qX8_listenToSet (h : fz_H) (se : Int) : fz_H → Option fz_V → Prop := fun h' r0 => fz_Iv h' ∧ fz_fr [(29, 99999)] h h' ∧ r0 = none ∧ ∀ m : Nat, m < 5 → h' 29 m = fl_vS h se m
set_option maxHeartbeats 1000000 in
set_option maxRecDepth 100000 in
theorem sX8_listenToSet (h : fz_H) (hI : fz_Iv h) (se : Int) : fz_R 2 mX8_listenToSet 0 [(0, fz_r 27), (1, fz_i se)] [] h (qX8_listenToSet h se) := by
  refine fz_knowl (fun hk => ?_)
  have hr_se : -2147483648 ≤ se ∧ se < 2147483648 := hk _ (List.Mem.tail _ (List.Mem.head _))
  clear hk
  have hf : fz_fr [(29, 99999)] h h := fz_fr_rf
  have k1 : 0 ≤ h 9 5 ∧ h 9 5 ≤ 10 := hI.1 9 _
  refine fz_aload_n kX8_listenToSet rfl rfl ?_
  refine fz_getR (t := 29) kX8_listenToSet rfl rfl ?_
  refine fz_iconst ⟨by decide, by decide⟩ kX8_listenToSet rfl ?_
  refine fz_callS (d' := 0) (M' := mJ7_fill_53178) (As := [fz_r 29, fz_i 0]) (st := []) kX8_listenToSet rfl rfl vJ7_fill_53178 rfl rfl (Nat.le_of_ble_eq_true rfl) (Nat.le_of_ble_eq_true rfl) (by decide) (sJ7_fill_53178_29 h hI 0 ) (fun H2 r3 q4 o5 => ?_)
  obtain ⟨hI6, hf7, rfl, f8⟩ := q4
  clear o5
  have hf9 := fz_fr_tr hf hf7 (show fz_su [(29, 99999)] [(29, 99999)] = true from rfl)
  refine fz_iconst ⟨by decide, by decide⟩ kX8_listenToSet rfl ?_
  refine fz_istore_n (ls' := [(2, fz_i 0), (0, fz_r 27), (1, fz_i se)]) kX8_listenToSet rfl (by decide) rfl ?_
  have lp15 : ∀ (n14 : Nat) (x10 : Int) (H11 : fz_H), fz_Iv H11 → fz_fr [(29, 99999)] h H11 → (0 ≤ x10 ∧ x10 ≤ 2147483647) → (x10 ≤ h 9 5) → (fl_lsI h H11 se x10) → ((h 9 5) - x10).toNat < n14 → fz_R 2 mX8_listenToSet 10 [(2, fz_i x10), (0, fz_r 27), (1, fz_i se)] [] H11 (qX8_listenToSet h se) := by
    intro n14
    induction n14 with
    | zero => intro x10 H11 hI12 hf13 hv18 hv19 hv20 hm17; exact absurd hm17 (by omega)
    | succ n14 ih16 =>
      intro x10 H11 hI12 hf13 hv18 hv19 hv20 hm17
      refine fz_iload_n kX8_listenToSet rfl rfl ?_
      refine fz_aload_n kX8_listenToSet rfl rfl ?_
      refine fz_getR (t := 9) kX8_listenToSet rfl rfl ?_
      refine fz_getV (v := h 9 5) kX8_listenToSet rfl rfl (hf13 9 5 rfl) ?_
      have b21 : 0 ≤ h 9 5 ∧ h 9 5 ≤ 10 := hI.1 9 _
      refine fz_icmp_ge (tgt := 55) kX8_listenToSet rfl (by decide) (fun c22 => ?_) (fun c22 => ?_)
      · exact fz_vret kX8_listenToSet rfl rfl ⟨hI12, hf13, rfl, (by exact fl_lsI_e hv20 (by omega))⟩
      · refine fz_iload_n kX8_listenToSet rfl rfl ?_
        refine fz_iload_n kX8_listenToSet rfl rfl ?_
        refine fz_ishr kX8_listenToSet rfl ?_
        have b24 : -2147483648 ≤ (fz_shr se x10) ∧ (fz_shr se x10) < 2147483648 := fz_b32 _
        refine fz_iconst ⟨by decide, by decide⟩ kX8_listenToSet rfl ?_
        refine fz_iand kX8_listenToSet rfl ?_
        have b25 : -2147483648 ≤ (fz_and (fz_shr se x10) 1) ∧ (fz_and (fz_shr se x10) 1) < 2147483648 := fz_b32 _
        refine fz_iconst ⟨by decide, by decide⟩ kX8_listenToSet rfl ?_
        refine fz_icmp_ne (tgt := 49) kX8_listenToSet rfl (by decide) (fun c26 => ?_) (fun c26 => ?_)
        · refine fz_iincN (ls' := [(2, fz_i (x10 + 1)), (0, fz_r 27), (1, fz_i se)]) kX8_listenToSet rfl (by decide) rfl (by omega) rfl ?_
          refine fz_goto (tgt := 10) kX8_listenToSet rfl (by decide) ?_
          exact ih16 (x10 + 1) H11 hI12 hf13 (by omega) (by omega) (by first | exact fl_lsI_y hv20 ⟨by omega, by omega⟩ (by omega) rfl (by omega) rfl lost | exact fl_lsI_n hv20 ⟨by omega, by omega⟩ (by omega)) (by omega)
        · refine fz_aload_n kX8_listenToSet rfl rfl ?_
          refine fz_aload_n kX8_listenToSet rfl rfl ?_
          refine fz_getR (t := 9) kX8_listenToSet rfl rfl ?_
          refine fz_getR (t := 13) kX8_listenToSet rfl rfl ?_
          refine fz_iload_n kX8_listenToSet rfl rfl ?_
          refine fz_ialdV (n := 11) (v := h 13 (x10.toNat)) kX8_listenToSet rfl rfl (by omega) (by omega) (hf13 13 _ rfl) ?_
          have b28 : 0 ≤ h 13 (x10.toNat) ∧ h 13 (x10.toNat) ≤ 4 := hI.1 13 _
          refine fz_aload_n kX8_listenToSet rfl rfl ?_
          refine fz_getR (t := 31) kX8_listenToSet rfl rfl ?_
          refine fz_iload_n kX8_listenToSet rfl rfl ?_
          refine fz_ialdV (n := 10) (v := h 31 (x10.toNat)) kX8_listenToSet rfl rfl (by omega) (by omega) (hf13 31 _ rfl) ?_
          have b29 : (-2147483648) ≤ h 31 (x10.toNat) ∧ h 31 (x10.toNat) ≤ 2147483647 := hI.1 31 _
          refine fz_callV (d' := 1) (M' := mX8_raise) (As := [fz_i (h 13 (x10.toNat)), fz_i (h 31 (x10.toNat))]) (st := []) kX8_listenToSet rfl rfl vX8_raise rfl rfl rfl rfl (Nat.le_of_ble_eq_true rfl) (Nat.le_of_ble_eq_true rfl) (by decide) (sX8_raise H11 hI12 (h 13 (x10.toNat)) (h 31 (x10.toNat)) (by omega)) (fun H30 r31 q32 o33 => ?_)
          obtain ⟨hI34, hf35, rfl, f36⟩ := q32
          clear o33
          have hf37 := fz_fr_tr hf13 hf35 (show fz_su [(29, 99999)] [(29, 99999)] = true from rfl)
          refine fz_iincN (ls' := [(2, fz_i (x10 + 1)), (0, fz_r 27), (1, fz_i se)]) kX8_listenToSet rfl (by decide) rfl (by omega) rfl ?_
          refine fz_goto (tgt := 10) kX8_listenToSet rfl (by decide) ?_
          exact ih16 (x10 + 1) H30 hI34 hf37 (by omega) (by omega) (by first | exact fl_lsI_y hv20 ⟨by omega, by omega⟩ (by omega) rfl (by omega) rfl f36 | exact fl_lsI_n hv20 ⟨by omega, by omega⟩ (by omega)) (by omega)
  exact lp15 _ 0 H2 hI6 hf9 (by omega) (by omega) (fl_lsI_0 f8 rfl) (Nat.lt_succ_self _)

abbrev qX8_marksAlike (h : fz_H) (on ot t hr : Int) : fz_H → Option fz_V → Prop := fun h' r0 => fz_Iv h' ∧ fz_fr [(18, 99999), (19, 99999), (29, 99999), (30, 99999)] h h' ∧ ∃ r : Int, r0 = some (fz_i r) ∧ (0 ≤ r ∧ r ≤ 5) ∧ (r = fl_alC h on ot t hr)
set_option maxHeartbeats 1000000 in
set_option maxRecDepth 100000 in
theorem sX8_marksAlike (h : fz_H) (hI : fz_Iv h) (on ot t hr : Int) (hp0 : 0 ≤ t ∧ t < 8) : fz_R 5 mX8_marksAlike 0 [(0, fz_r 27), (1, fz_i on), (2, fz_i ot), (3, fz_i t), (4, fz_i hr)] [] h (qX8_marksAlike h on ot t hr) := by
  refine fz_knowl (fun hk => ?_)
  have hr_on : -2147483648 ≤ on ∧ on < 2147483648 := hk _ (List.Mem.tail _ (List.Mem.head _))
  have hr_ot : -2147483648 ≤ ot ∧ ot < 2147483648 := hk _ (List.Mem.tail _ (List.Mem.tail _ (List.Mem.head _)))
  have hr_t : -2147483648 ≤ t ∧ t < 2147483648 := hk _ (List.Mem.tail _ (List.Mem.tail _ (List.Mem.tail _ (List.Mem.head _))))
  have hr_hr : -2147483648 ≤ hr ∧ hr < 2147483648 := hk _ (List.Mem.tail _ (List.Mem.tail _ (List.Mem.tail _ (List.Mem.tail _ (List.Mem.head _)))))
  clear hk
  have hf : fz_fr [(18, 99999), (19, 99999), (29, 99999), (30, 99999)] h h := fz_fr_rf
  refine fz_aload_n kX8_marksAlike rfl rfl ?_
  refine fz_iload_n kX8_marksAlike rfl rfl ?_
  refine fz_iload_n kX8_marksAlike rfl rfl ?_
  refine fz_iload_n kX8_marksAlike rfl rfl ?_
  refine fz_iload kX8_marksAlike rfl rfl ?_
  refine fz_callV (d' := 4) (M' := mX8_listen) (As := [fz_i ot, fz_i ot, fz_i t, fz_i hr]) (st := []) kX8_marksAlike rfl rfl vX8_listen rfl rfl rfl rfl (Nat.le_of_ble_eq_true rfl) (Nat.le_of_ble_eq_true rfl) (by decide) (sX8_listen h hI ot ot t hr (by omega)) (fun H1 r2 q3 o4 => ?_)
  obtain ⟨hI5, hf6, rfl, f7⟩ := q3
  clear o4
  have hf8 := fz_fr_tr hf hf6 (show fz_su [(18, 99999), (19, 99999), (29, 99999)] [(18, 99999), (19, 99999), (29, 99999), (30, 99999)] = true from rfl)
  refine fz_aload_n kX8_marksAlike rfl rfl ?_
  refine fz_getR (t := 29) kX8_marksAlike rfl rfl ?_
  refine fz_iconst ⟨by decide, by decide⟩ kX8_marksAlike rfl ?_
  refine fz_aload_n kX8_marksAlike rfl rfl ?_
  refine fz_getR (t := 30) kX8_marksAlike rfl rfl ?_
  refine fz_iconst ⟨by decide, by decide⟩ kX8_marksAlike rfl ?_
  refine fz_iconst ⟨by decide, by decide⟩ kX8_marksAlike rfl ?_
  refine fz_copyi (n1 := 5) (n2 := 5) kX8_marksAlike rfl rfl rfl rfl (by omega) (by omega) (by omega) (by omega) (by omega) (by decide) (Nat.le_of_ble_eq_true rfl) ?_
  refine fz_nmu (S := [(18, 99999), (19, 99999), (29, 99999), (30, 99999)]) (h0 := h) (fz_Iv_cp hI5 (by decide) (fun k l _ _ _ => hI5.1 29 k)) (fz_fr_cp hf8 (fun _ => rfl)) (fun H9 hI10 hf11 e12 => ?_)
  refine fz_aload_n kX8_marksAlike rfl rfl ?_
  refine fz_iload_n kX8_marksAlike rfl rfl ?_
  refine fz_iload_n kX8_marksAlike rfl rfl ?_
  refine fz_iload_n kX8_marksAlike rfl rfl ?_
  refine fz_iload kX8_marksAlike rfl rfl ?_
  refine fz_callV (d' := 4) (M' := mX8_listen) (As := [fz_i on, fz_i on, fz_i t, fz_i hr]) (st := []) kX8_marksAlike rfl rfl vX8_listen rfl rfl rfl rfl (Nat.le_of_ble_eq_true rfl) (Nat.le_of_ble_eq_true rfl) (by decide) (sX8_listen H9 hI10 on on t hr (by omega)) (fun H13 r14 q15 o16 => ?_)
  obtain ⟨hI17, hf18, rfl, f19⟩ := q15
  clear o16
  have hf20 := fz_fr_tr hf11 hf18 (show fz_su [(18, 99999), (19, 99999), (29, 99999)] [(18, 99999), (19, 99999), (29, 99999), (30, 99999)] = true from rfl)
  refine fz_iconst ⟨by decide, by decide⟩ kX8_marksAlike rfl ?_
  refine fz_istore (ls' := [(5, fz_i 0), (0, fz_r 27), (1, fz_i on), (2, fz_i ot), (3, fz_i t), (4, fz_i hr)]) kX8_marksAlike rfl (by decide) rfl ?_
  refine fz_iconst ⟨by decide, by decide⟩ kX8_marksAlike rfl ?_
  refine fz_istore (ls' := [(6, fz_i 0), (5, fz_i 0), (0, fz_r 27), (1, fz_i on), (2, fz_i ot), (3, fz_i t), (4, fz_i hr)]) kX8_marksAlike rfl (by decide) rfl ?_
  have lp24 : ∀ (n23 : Nat) (x21 : Int) (x22 : Int), (0 ≤ x21 ∧ x21 ≤ 5) → (0 ≤ x22 ∧ x22 ≤ 5) → (x22 ≤ x21) → (x22 = fl_al (fun j : Nat => fl_SC h on on (j : Int) t hr) (fun j : Nat => fl_SC h ot ot (j : Int) t hr) (x21).toNat) → (5 - x21).toNat < n23 → fz_R 5 mX8_marksAlike 38 [(6, fz_i x21), (5, fz_i x22), (0, fz_r 27), (1, fz_i on), (2, fz_i ot), (3, fz_i t), (4, fz_i hr)] [] H13 (qX8_marksAlike h on ot t hr) := by
    intro n23
    induction n23 with
    | zero => intro x21 x22 hv27 hv28 hv29 hv30 hm26; exact absurd hm26 (by omega)
    | succ n23 ih25 =>
      intro x21 x22 hv27 hv28 hv29 hv30 hm26
      refine fz_iload kX8_marksAlike rfl rfl ?_
      refine fz_iconst ⟨by decide, by decide⟩ kX8_marksAlike rfl ?_
      refine fz_icmp_ge (tgt := 77) kX8_marksAlike rfl (by decide) (fun c31 => ?_) (fun c31 => ?_)
      · refine fz_iload kX8_marksAlike rfl rfl ?_
        exact fz_iret kX8_marksAlike rfl rfl (fun _ => ⟨hI17, hf20, _, rfl, (by omega), (by exact fl_at (f := fl_al (fun j : Nat => fl_SC h on on (j : Int) t hr) (fun j : Nat => fl_SC h ot ot (j : Int) t hr)) (n := 5) hv30 (by omega))⟩)
      · refine fz_iload kX8_marksAlike rfl rfl ?_
        refine fz_aload_n kX8_marksAlike rfl rfl ?_
        refine fz_getR (t := 29) kX8_marksAlike rfl rfl ?_
        refine fz_iload kX8_marksAlike rfl rfl ?_
        obtain ⟨v33, e34⟩ : ∃ z, H13 29 (x21.toNat) = z := ⟨_, rfl⟩
        refine fz_ialdV (n := 5) (v := v33) kX8_marksAlike rfl rfl (by omega) (by omega) e34 ?_
        have b35 : (-2147483648) ≤ v33 ∧ v33 ≤ 2147483647 := by rw [← e34]; exact hI17.1 29 _
        have k36 := fl_al_v f19 (fl_SC_fr hf11 rfl) e34 (by omega)
        refine fz_aload_n kX8_marksAlike rfl rfl ?_
        refine fz_getR (t := 30) kX8_marksAlike rfl rfl ?_
        refine fz_iload kX8_marksAlike rfl rfl ?_
        obtain ⟨v38, e39⟩ : ∃ z, H13 30 (x21.toNat) = z := ⟨_, rfl⟩
        refine fz_ialdV (n := 5) (v := v38) kX8_marksAlike rfl rfl (by omega) (by omega) e39 ?_
        have b40 : (-2147483648) ≤ v38 ∧ v38 ≤ 2147483647 := by rw [← e39]; exact hI17.1 30 _
        have k41 := fl_al_u (h := h) (H := h) f7 rfl e12 (funext fun s => hf18 30 s rfl) e39 (by omega)
        refine fz_icmp_ne (tgt := 67) kX8_marksAlike rfl (by decide) (fun c43 => ?_) (fun c43 => ?_)
        · refine fz_iconst ⟨by decide, by decide⟩ kX8_marksAlike rfl ?_
          refine fz_iaddN kX8_marksAlike rfl (by omega) ?_
          refine fz_istore (ls' := [(5, fz_i (x22 + 0)), (6, fz_i x21), (0, fz_r 27), (1, fz_i on), (2, fz_i ot), (3, fz_i t), (4, fz_i hr)]) kX8_marksAlike rfl (by decide) rfl ?_
          refine fz_iincN (ls' := [(6, fz_i (x21 + 1)), (5, fz_i (x22 + 0)), (0, fz_r 27), (1, fz_i on), (2, fz_i ot), (3, fz_i t), (4, fz_i hr)]) kX8_marksAlike rfl (by decide) rfl (by omega) rfl ?_
          refine fz_goto (tgt := 38) kX8_marksAlike rfl (by decide) ?_
          exact ih25 (x21 + 1) (x22 + 0) (by omega) (by omega) (by omega) (fl_al_s hv30 (by omega) k36 k41 (by omega)) (by omega)
        · refine fz_iconst ⟨by decide, by decide⟩ kX8_marksAlike rfl ?_
          refine fz_goto (tgt := 68) kX8_marksAlike rfl (by decide) ?_
          refine fz_iaddN kX8_marksAlike rfl (by omega) ?_
          refine fz_istore (ls' := [(5, fz_i (x22 + 1)), (6, fz_i x21), (0, fz_r 27), (1, fz_i on), (2, fz_i ot), (3, fz_i t), (4, fz_i hr)]) kX8_marksAlike rfl (by decide) rfl ?_
          refine fz_iincN (ls' := [(6, fz_i (x21 + 1)), (5, fz_i (x22 + 1)), (0, fz_r 27), (1, fz_i on), (2, fz_i ot), (3, fz_i t), (4, fz_i hr)]) kX8_marksAlike rfl (by decide) rfl (by omega) rfl ?_
          refine fz_goto (tgt := 38) kX8_marksAlike rfl (by decide) ?_
          exact ih25 (x21 + 1) (x22 + 1) (by omega) (by omega) (by omega) (fl_al_s hv30 (by omega) k36 k41 (by omega)) (by omega)
  exact lp24 _ 0 0 (by omega) (by omega) (by omega) (rfl) (Nat.lt_succ_self _)

abbrev qX8_chancesUnchanged (h : fz_H) (n : Int) : fz_H → Option fz_V → Prop := fun h' r0 => fz_Iv h' ∧ fz_fr [(32, 99999)] h h' ∧ ∃ r : Int, r0 = some (fz_l r) ∧ ((-9223372036854775808) ≤ r ∧ r ≤ 9223372036854775807) ∧ (r = fl_ch5 (h 27 9) n.toNat 0)
set_option maxHeartbeats 1000000 in
set_option maxRecDepth 100000 in
theorem sX8_chancesUnchanged (h : fz_H) (hI : fz_Iv h) (n : Int) (hp0 : 0 ≤ n) : fz_R 1 mX8_chancesUnchanged 0 [(0, fz_r 27), (1, fz_i n)] [] h (qX8_chancesUnchanged h n) := by
  refine fz_knowl (fun hk => ?_)
  have hr_n : -2147483648 ≤ n ∧ n < 2147483648 := hk _ (List.Mem.tail _ (List.Mem.head _))
  clear hk
  have hf : fz_fr [(32, 99999)] h h := fz_fr_rf
  have b1 : 0 ≤ h 27 9 ∧ h 27 9 ≤ 12 := hI.1 27 _
  refine fz_aload_n kX8_chancesUnchanged rfl rfl ?_
  refine fz_getR (t := 32) kX8_chancesUnchanged rfl rfl ?_
  refine fz_lconst (x := 0) ⟨by decide, by decide⟩ rfl kX8_chancesUnchanged rfl ?_
  refine fz_callS (d' := 0) (M' := mJ7_fill_d0a16) (As := [fz_r 32, fz_l 0]) (st := []) kX8_chancesUnchanged rfl rfl vJ7_fill_d0a16 rfl rfl (Nat.le_of_ble_eq_true rfl) (Nat.le_of_ble_eq_true rfl) (by decide) (sJ7_fill_d0a16_32 h hI 0 ) (fun H2 r3 q4 o5 => ?_)
  obtain ⟨hI6, hf7, rfl, f8⟩ := q4
  clear o5
  have hf9 := fz_fr_tr hf hf7 (show fz_su [(32, 99999)] [(32, 99999)] = true from rfl)
  refine fz_aload_n kX8_chancesUnchanged rfl rfl ?_
  refine fz_getR (t := 32) kX8_chancesUnchanged rfl rfl ?_
  refine fz_iconst ⟨by decide, by decide⟩ kX8_chancesUnchanged rfl ?_
  refine fz_lconst (x := 1) ⟨by decide, by decide⟩ rfl kX8_chancesUnchanged rfl ?_
  refine fz_last (n := 5) kX8_chancesUnchanged rfl rfl (by omega) (by omega) ?_
  refine fz_nmu (S := [(32, 99999)]) (h0 := h) (fz_Iv_up hI6 (by decide) (show ((-9223372036854775808) : Int) ≤ 1 by decide) (show (1 : Int) ≤ 9223372036854775807 by decide)) (fz_fr_up hf9 rfl) (fun H10 hI11 hf12 e13 => ?_)
  refine fz_iconst ⟨by decide, by decide⟩ kX8_chancesUnchanged rfl ?_
  refine fz_istore_n (ls' := [(2, fz_i 0), (0, fz_r 27), (1, fz_i n)]) kX8_chancesUnchanged rfl (by decide) rfl ?_
  have lp19 : ∀ (n18 : Nat) (x14 : Int) (H15 : fz_H), fz_Iv H15 → fz_fr [(32, 99999)] h H15 → (0 ≤ x14 ∧ x14 ≤ 2147483647) → (x14 ≤ n) → (∀ m : Nat, m < 5 → H15 32 m = fl_ch5 (h 27 9) (x14).toNat m) → (n - x14).toNat < n18 → fz_R 1 mX8_chancesUnchanged 17 [(2, fz_i x14), (0, fz_r 27), (1, fz_i n)] [] H15 (qX8_chancesUnchanged h n) := by
    intro n18
    induction n18 with
    | zero => intro x14 H15 hI16 hf17 hv22 hv23 hv24 hm21; exact absurd hm21 (by omega)
    | succ n18 ih20 =>
      intro x14 H15 hI16 hf17 hv22 hv23 hv24 hm21
      refine fz_iload_n kX8_chancesUnchanged rfl rfl ?_
      refine fz_iload_n kX8_chancesUnchanged rfl rfl ?_
      refine fz_icmp_ge (tgt := 117) kX8_chancesUnchanged rfl (by decide) (fun c25 => ?_) (fun c25 => ?_)
      · refine fz_aload_n kX8_chancesUnchanged rfl rfl ?_
        refine fz_getR (t := 32) kX8_chancesUnchanged rfl rfl ?_
        refine fz_iconst ⟨by decide, by decide⟩ kX8_chancesUnchanged rfl ?_
        obtain ⟨v26, e27⟩ : ∃ z, H15 32 (0) = z := ⟨_, rfl⟩
        refine fz_laldV (n := 5) (v := v26) kX8_chancesUnchanged rfl rfl (by omega) (by omega) e27 ?_
        have b28 : (-9223372036854775808) ≤ v26 ∧ v26 ≤ 9223372036854775807 := by rw [← e27]; exact hI16.1 32 _
        have k29 : v26 = fl_ch5 (h 27 9) (x14).toNat 0 := fl_at5 hv24 (by decide) e27
        exact fz_lret kX8_chancesUnchanged rfl rfl (fun _ => ⟨hI16, hf17, _, rfl, (by omega), (by exact k29.trans (congrArg (fun z : Int => fl_ch5 (h 27 9) z.toNat 0) (by omega)))⟩)
      · refine fz_aload_n kX8_chancesUnchanged rfl rfl ?_
        refine fz_getR (t := 32) kX8_chancesUnchanged rfl rfl ?_
        refine fz_iconst ⟨by decide, by decide⟩ kX8_chancesUnchanged rfl ?_
        obtain ⟨v32, e33⟩ : ∃ z, H15 32 (4) = z := ⟨_, rfl⟩
        refine fz_laldV (n := 5) (v := v32) kX8_chancesUnchanged rfl rfl (by omega) (by omega) e33 ?_
        have b34 : (-9223372036854775808) ≤ v32 ∧ v32 ≤ 9223372036854775807 := by rw [← e33]; exact hI16.1 32 _
        have k35 : v32 = fl_ch5 (h 27 9) (x14).toNat 4 := fl_at5 hv24 (by decide) e33
        refine fz_lstore_n (ls' := [(3, fz_l v32), (2, fz_i x14), (0, fz_r 27), (1, fz_i n)]) kX8_chancesUnchanged rfl (by decide) rfl ?_
        refine fz_iconst ⟨by decide, by decide⟩ kX8_chancesUnchanged rfl ?_
        refine fz_istore (ls' := [(5, fz_i 4), (3, fz_l v32), (2, fz_i x14), (0, fz_r 27), (1, fz_i n)]) kX8_chancesUnchanged rfl (by decide) rfl ?_
        have lp42 : ∀ (n41 : Nat) (x37 : Int) (H38 : fz_H), fz_Iv H38 → fz_fr [(32, 99999)] h H38 → (0 ≤ x37 ∧ x37 ≤ 4) → (fl_cJ (h 27 9) (fl_ch5 (h 27 9) (x14).toNat) H38 x37) → (x37 - 0).toNat < n41 → fz_R 1 mX8_chancesUnchanged 32 [(5, fz_i x37), (3, fz_l v32), (2, fz_i x14), (0, fz_r 27), (1, fz_i n)] [] H38 (qX8_chancesUnchanged h n) := by
          intro n41
          induction n41 with
          | zero => intro x37 H38 hI39 hf40 hv45 hv46 hm44; exact absurd hm44 (by omega)
          | succ n41 ih43 =>
            intro x37 H38 hI39 hf40 hv45 hv46 hm44
            refine fz_iload kX8_chancesUnchanged rfl rfl ?_
            refine fz_if_le (tgt := 82) kX8_chancesUnchanged rfl (by decide) (fun c47 => ?_) (fun c47 => ?_)
            · refine fz_aload_n kX8_chancesUnchanged rfl rfl ?_
              refine fz_getR (t := 32) kX8_chancesUnchanged rfl rfl ?_
              refine fz_iconst ⟨by decide, by decide⟩ kX8_chancesUnchanged rfl ?_
              refine fz_aload_n kX8_chancesUnchanged rfl rfl ?_
              refine fz_getR (t := 32) kX8_chancesUnchanged rfl rfl ?_
              refine fz_iconst ⟨by decide, by decide⟩ kX8_chancesUnchanged rfl ?_
              obtain ⟨v48, e49⟩ : ∃ z, H38 32 (0) = z := ⟨_, rfl⟩
              refine fz_laldV (n := 5) (v := v48) kX8_chancesUnchanged rfl rfl (by omega) (by omega) e49 ?_
              have b50 : (-9223372036854775808) ≤ v48 ∧ v48 ≤ 9223372036854775807 := by rw [← e49]; exact hI39.1 32 _
              refine fz_bipush ⟨by decide, by decide⟩ kX8_chancesUnchanged rfl ?_
              refine fz_aload_n kX8_chancesUnchanged rfl rfl ?_
              refine fz_getV (v := h 27 9) kX8_chancesUnchanged rfl rfl (hf40 27 9 rfl) ?_
              have b51 : 0 ≤ h 27 9 ∧ h 27 9 ≤ 12 := hI.1 27 _
              refine fz_isubN kX8_chancesUnchanged rfl (by omega) ?_
              refine fz_i2l kX8_chancesUnchanged rfl ?_
              refine fz_lmul kX8_chancesUnchanged rfl ?_
              have b52 := fz_wl_b (v48 * (12 - (h 27 9)))
              refine fz_lload_n kX8_chancesUnchanged rfl rfl ?_
              refine fz_aload_n kX8_chancesUnchanged rfl rfl ?_
              refine fz_getV (v := h 27 9) kX8_chancesUnchanged rfl rfl (hf40 27 9 rfl) ?_
              refine fz_i2l kX8_chancesUnchanged rfl ?_
              refine fz_lmul kX8_chancesUnchanged rfl ?_
              have b53 := fz_wl_b (v32 * (h 27 9))
              refine fz_ladd kX8_chancesUnchanged rfl ?_
              have b54 := fz_wl_b ((fz_wl (v48 * (12 - (h 27 9)))) + (fz_wl (v32 * (h 27 9))))
              refine fz_last (n := 5) kX8_chancesUnchanged rfl rfl (by omega) (by omega) ?_
              refine fz_nmu (S := [(32, 99999)]) (h0 := h) (fz_Iv_up hI39 (by decide) (show ((-9223372036854775808) : Int) ≤ (fz_wl ((fz_wl (v48 * (12 - (h 27 9)))) + (fz_wl (v32 * (h 27 9))))) by omega) (show ((fz_wl ((fz_wl (v48 * (12 - (h 27 9)))) + (fz_wl (v32 * (h 27 9))))) : Int) ≤ 9223372036854775807 by omega)) (fz_fr_up hf40 rfl) (fun H55 hI56 hf57 e58 => ?_)
              refine fz_iincN (ls' := [(2, fz_i (x14 + 1)), (5, fz_i x37), (3, fz_l v32), (0, fz_r 27), (1, fz_i n)]) kX8_chancesUnchanged rfl (by decide) rfl (by omega) rfl ?_
              refine fz_goto (tgt := 17) kX8_chancesUnchanged rfl (by decide) ?_
              refine fz_sub (fz_pk_sub (ls' := [(2, fz_i (x14 + 1)), (0, fz_r 27), (1, fz_i n)]) [0, 3, 4] rfl) ?_
              exact ih20 (x14 + 1) H55 hI56 hf57 (by omega) (by omega) (fl_ch_s hv46 (by omega) (by omega) e49 k35 e58) (by omega)
            · refine fz_aload_n kX8_chancesUnchanged rfl rfl ?_
              refine fz_getR (t := 32) kX8_chancesUnchanged rfl rfl ?_
              refine fz_iload kX8_chancesUnchanged rfl rfl ?_
              refine fz_aload_n kX8_chancesUnchanged rfl rfl ?_
              refine fz_getR (t := 32) kX8_chancesUnchanged rfl rfl ?_
              refine fz_iload kX8_chancesUnchanged rfl rfl ?_
              obtain ⟨v60, e61⟩ : ∃ z, H38 32 (x37.toNat) = z := ⟨_, rfl⟩
              refine fz_laldV (n := 5) (v := v60) kX8_chancesUnchanged rfl rfl (by omega) (by omega) e61 ?_
              have b62 : (-9223372036854775808) ≤ v60 ∧ v60 ≤ 9223372036854775807 := by rw [← e61]; exact hI39.1 32 _
              refine fz_bipush ⟨by decide, by decide⟩ kX8_chancesUnchanged rfl ?_
              refine fz_aload_n kX8_chancesUnchanged rfl rfl ?_
              refine fz_getV (v := h 27 9) kX8_chancesUnchanged rfl rfl (hf40 27 9 rfl) ?_
              have b63 : 0 ≤ h 27 9 ∧ h 27 9 ≤ 12 := hI.1 27 _
              refine fz_isubN kX8_chancesUnchanged rfl (by omega) ?_
              refine fz_i2l kX8_chancesUnchanged rfl ?_
              refine fz_lmul kX8_chancesUnchanged rfl ?_
              have b64 := fz_wl_b (v60 * (12 - (h 27 9)))
              refine fz_aload_n kX8_chancesUnchanged rfl rfl ?_
              refine fz_getR (t := 32) kX8_chancesUnchanged rfl rfl ?_
              refine fz_iload kX8_chancesUnchanged rfl rfl ?_
              refine fz_iconst ⟨by decide, by decide⟩ kX8_chancesUnchanged rfl ?_
              refine fz_isubN kX8_chancesUnchanged rfl (by omega) ?_
              obtain ⟨v65, e66⟩ : ∃ z, H38 32 ((x37 - 1).toNat) = z := ⟨_, rfl⟩
              refine fz_laldV (n := 5) (v := v65) kX8_chancesUnchanged rfl rfl (by omega) (by omega) e66 ?_
              have b67 : (-9223372036854775808) ≤ v65 ∧ v65 ≤ 9223372036854775807 := by rw [← e66]; exact hI39.1 32 _
              refine fz_aload_n kX8_chancesUnchanged rfl rfl ?_
              refine fz_getV (v := h 27 9) kX8_chancesUnchanged rfl rfl (hf40 27 9 rfl) ?_
              refine fz_i2l kX8_chancesUnchanged rfl ?_
              refine fz_lmul kX8_chancesUnchanged rfl ?_
              have b68 := fz_wl_b (v65 * (h 27 9))
              refine fz_ladd kX8_chancesUnchanged rfl ?_
              have b69 := fz_wl_b ((fz_wl (v60 * (12 - (h 27 9)))) + (fz_wl (v65 * (h 27 9))))
              refine fz_last (n := 5) kX8_chancesUnchanged rfl rfl (by omega) (by omega) ?_
              refine fz_nmu (S := [(32, 99999)]) (h0 := h) (fz_Iv_up hI39 (by decide) (show ((-9223372036854775808) : Int) ≤ (fz_wl ((fz_wl (v60 * (12 - (h 27 9)))) + (fz_wl (v65 * (h 27 9))))) by omega) (show ((fz_wl ((fz_wl (v60 * (12 - (h 27 9)))) + (fz_wl (v65 * (h 27 9))))) : Int) ≤ 9223372036854775807 by omega)) (fz_fr_up hf40 rfl) (fun H70 hI71 hf72 e73 => ?_)
              refine fz_iincN (ls' := [(5, fz_i (x37 + (-1))), (3, fz_l v32), (2, fz_i x14), (0, fz_r 27), (1, fz_i n)]) kX8_chancesUnchanged rfl (by decide) rfl (by omega) rfl ?_
              refine fz_goto (tgt := 32) kX8_chancesUnchanged rfl (by decide) ?_
              exact ih43 (x37 + (-1)) H70 hI71 hf72 (by omega) (fl_cJ_s hv46 ⟨by omega, by omega⟩ e61 e66 e73 (by omega)) (by omega)
        exact lp42 _ 4 H15 hI16 hf17 (by omega) (fl_cJ_0 hv24) (Nat.lt_succ_self _)
  exact lp19 _ 0 H10 hI11 hf12 (by omega) (by omega) (fl_ch_0 f8 rfl e13) (Nat.lt_succ_self _)
