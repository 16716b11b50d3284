/-! ===== what the methods keep ===== -/
abbrev qX11_isOf (h : fz_H) (nu wh : Int) : fz_H → Option fz_V → Prop := fun h' r0 => h' = h ∧ ∃ r : Int, r0 = some (fz_i r) ∧ ((r = 1 ∧ ((wh = 0 ∧ 0 ≤ nu ∧ nu ≤ 7 ∧ nu < h 53 0) ∨ (wh = 1 ∧ 0 ≤ nu ∧ nu ≤ 11 ∧ nu < h 53 2) ∨ (wh = 2 ∧ 0 ≤ nu ∧ nu ≤ 11 ∧ nu < h 53 2) ∨ (wh = 3 ∧ 0 ≤ nu ∧ nu ≤ 10 ∧ nu < h 53 10) ∨ (wh = 4 ∧ 0 ≤ nu ∧ nu ≤ 10 ∧ nu < h 53 10) ∨ (wh = 5 ∧ 0 ≤ nu ∧ nu ≤ 10 ∧ nu < h 53 10) ∨ (wh = 6 ∧ 0 ≤ nu ∧ nu ≤ 4) ∨ (wh = 7 ∧ nu = 0) ∨ (wh = 8 ∧ nu = 0))) ∨ (r = 0 ∧ ¬ ((wh = 0 ∧ 0 ≤ nu ∧ nu ≤ 7 ∧ nu < h 53 0) ∨ (wh = 1 ∧ 0 ≤ nu ∧ nu ≤ 11 ∧ nu < h 53 2) ∨ (wh = 2 ∧ 0 ≤ nu ∧ nu ≤ 11 ∧ nu < h 53 2) ∨ (wh = 3 ∧ 0 ≤ nu ∧ nu ≤ 10 ∧ nu < h 53 10) ∨ (wh = 4 ∧ 0 ≤ nu ∧ nu ≤ 10 ∧ nu < h 53 10) ∨ (wh = 5 ∧ 0 ≤ nu ∧ nu ≤ 10 ∧ nu < h 53 10) ∨ (wh = 6 ∧ 0 ≤ nu ∧ nu ≤ 4) ∨ (wh = 7 ∧ nu = 0) ∨ (wh = 8 ∧ nu = 0))))
set_option maxHeartbeats 1000000 in
set_option maxRecDepth 100000 in
theorem sX11_isOf (h : fz_H) (hI : fz_Iv h) (nu wh : Int) : fz_R 2 mX11_isOf 0 [(0, fz_r 53), (1, fz_i nu), (2, fz_i wh)] [] h (qX11_isOf h nu wh) := by
  refine fz_knowl (fun hk => ?_)
  have hr_nu : -2147483648 ≤ nu ∧ nu < 2147483648 := hk _ (List.Mem.tail _ (List.Mem.head _))
  have hr_wh : -2147483648 ≤ wh ∧ wh < 2147483648 := hk _ (List.Mem.tail _ (List.Mem.tail _ (List.Mem.head _)))
  clear hk
  have b1 : 0 ≤ h 53 0 ∧ h 53 0 ≤ 8 := hI.1 53 _
  have b2 : 0 ≤ h 53 2 ∧ h 53 2 ≤ 12 := hI.1 53 _
  have b3 : 0 ≤ h 53 10 ∧ h 53 10 ≤ 11 := hI.1 53 _
  refine fz_iload_n kX11_isOf rfl rfl ?_
  rcases (show wh = 0 ∨ wh = 1 ∨ wh = 2 ∨ wh = 3 ∨ wh = 4 ∨ wh = 5 ∨ wh = 6 ∨ (wh < 0 ∨ 6 < wh) by omega) with c4 | c4 | c4 | c4 | c4 | c4 | c4 | c4
  · refine fz_tswC (j := 0) (tgt := 44) kX11_isOf rfl c4 (by decide) (by decide) rfl (by decide) ?_
    refine fz_aload_n kX11_isOf rfl rfl ?_
    refine fz_iload_n kX11_isOf rfl rfl ?_
    refine fz_callV (d' := 1) (M' := mX11_isTown) (As := [fz_i nu]) (st := []) kX11_isOf rfl rfl vX11_isTown rfl rfl rfl rfl (Nat.le_of_ble_eq_true rfl) (Nat.le_of_ble_eq_true rfl) (by decide) (sX11_isTown h hI nu ) (fun H5 r6 q7 o8 => ?_)
    obtain ⟨e9, y10, rfl, p11⟩ := q7
    subst H5
    clear o8
    rcases p11 with ⟨rfl, c12⟩ | ⟨rfl, c12⟩
    · exact fz_zret kX11_isOf rfl rfl (by omega) ⟨rfl, _, rfl, Or.inl ⟨rfl, by first | exact Or.inl (by omega) | exact Or.inr (Or.inl (by omega)) | exact Or.inr (Or.inr (Or.inl (by omega))) | exact Or.inr (Or.inr (Or.inr (Or.inl (by omega)))) | exact Or.inr (Or.inr (Or.inr (Or.inr (Or.inl (by omega))))) | exact Or.inr (Or.inr (Or.inr (Or.inr (Or.inr (Or.inl (by omega)))))) | exact Or.inr (Or.inr (Or.inr (Or.inr (Or.inr (Or.inr (Or.inl (by omega))))))) | exact Or.inr (Or.inr (Or.inr (Or.inr (Or.inr (Or.inr (Or.inr (Or.inl (by omega)))))))) | exact Or.inr (Or.inr (Or.inr (Or.inr (Or.inr (Or.inr (Or.inr (Or.inr ((by omega))))))))) | omega⟩⟩
    · exact fz_zret kX11_isOf rfl rfl (by omega) ⟨rfl, _, rfl, Or.inr ⟨rfl, by exact fun z => (by rcases z with z | z | z | z | z | z | z | z | z <;> omega)⟩⟩
  · refine fz_tswC (j := 1) (tgt := 50) kX11_isOf rfl c4 (by decide) (by decide) rfl (by decide) ?_
    refine fz_aload_n kX11_isOf rfl rfl ?_
    refine fz_iload_n kX11_isOf rfl rfl ?_
    refine fz_callV (d' := 1) (M' := mX11_isRoad) (As := [fz_i nu]) (st := []) kX11_isOf rfl rfl vX11_isRoad rfl rfl rfl rfl (Nat.le_of_ble_eq_true rfl) (Nat.le_of_ble_eq_true rfl) (by decide) (sX11_isRoad h hI nu ) (fun H13 r14 q15 o16 => ?_)
    obtain ⟨e17, y18, rfl, p19⟩ := q15
    subst H13
    clear o16
    rcases p19 with ⟨rfl, c20⟩ | ⟨rfl, c20⟩
    · exact fz_zret kX11_isOf rfl rfl (by omega) ⟨rfl, _, rfl, Or.inl ⟨rfl, by first | exact Or.inl (by omega) | exact Or.inr (Or.inl (by omega)) | exact Or.inr (Or.inr (Or.inl (by omega))) | exact Or.inr (Or.inr (Or.inr (Or.inl (by omega)))) | exact Or.inr (Or.inr (Or.inr (Or.inr (Or.inl (by omega))))) | exact Or.inr (Or.inr (Or.inr (Or.inr (Or.inr (Or.inl (by omega)))))) | exact Or.inr (Or.inr (Or.inr (Or.inr (Or.inr (Or.inr (Or.inl (by omega))))))) | exact Or.inr (Or.inr (Or.inr (Or.inr (Or.inr (Or.inr (Or.inr (Or.inl (by omega)))))))) | exact Or.inr (Or.inr (Or.inr (Or.inr (Or.inr (Or.inr (Or.inr (Or.inr ((by omega))))))))) | omega⟩⟩
    · exact fz_zret kX11_isOf rfl rfl (by omega) ⟨rfl, _, rfl, Or.inr ⟨rfl, by exact fun z => (by rcases z with z | z | z | z | z | z | z | z | z <;> omega)⟩⟩
  · refine fz_tswC (j := 2) (tgt := 50) kX11_isOf rfl c4 (by decide) (by decide) rfl (by decide) ?_
    refine fz_aload_n kX11_isOf rfl rfl ?_
    refine fz_iload_n kX11_isOf rfl rfl ?_
    refine fz_callV (d' := 1) (M' := mX11_isRoad) (As := [fz_i nu]) (st := []) kX11_isOf rfl rfl vX11_isRoad rfl rfl rfl rfl (Nat.le_of_ble_eq_true rfl) (Nat.le_of_ble_eq_true rfl) (by decide) (sX11_isRoad h hI nu ) (fun H21 r22 q23 o24 => ?_)
    obtain ⟨e25, y26, rfl, p27⟩ := q23
    subst H21
    clear o24
    rcases p27 with ⟨rfl, c28⟩ | ⟨rfl, c28⟩
    · exact fz_zret kX11_isOf rfl rfl (by omega) ⟨rfl, _, rfl, Or.inl ⟨rfl, by first | exact Or.inl (by omega) | exact Or.inr (Or.inl (by omega)) | exact Or.inr (Or.inr (Or.inl (by omega))) | exact Or.inr (Or.inr (Or.inr (Or.inl (by omega)))) | exact Or.inr (Or.inr (Or.inr (Or.inr (Or.inl (by omega))))) | exact Or.inr (Or.inr (Or.inr (Or.inr (Or.inr (Or.inl (by omega)))))) | exact Or.inr (Or.inr (Or.inr (Or.inr (Or.inr (Or.inr (Or.inl (by omega))))))) | exact Or.inr (Or.inr (Or.inr (Or.inr (Or.inr (Or.inr (Or.inr (Or.inl (by omega)))))))) | exact Or.inr (Or.inr (Or.inr (Or.inr (Or.inr (Or.inr (Or.inr (Or.inr ((by omega))))))))) | omega⟩⟩
    · exact fz_zret kX11_isOf rfl rfl (by omega) ⟨rfl, _, rfl, Or.inr ⟨rfl, by exact fun z => (by rcases z with z | z | z | z | z | z | z | z | z <;> omega)⟩⟩
  · refine fz_tswC (j := 3) (tgt := 56) kX11_isOf rfl c4 (by decide) (by decide) rfl (by decide) ?_
    refine fz_aload_n kX11_isOf rfl rfl ?_
    refine fz_iload_n kX11_isOf rfl rfl ?_
    refine fz_callV (d' := 1) (M' := mX11_isDeed) (As := [fz_i nu]) (st := []) kX11_isOf rfl rfl vX11_isDeed rfl rfl rfl rfl (Nat.le_of_ble_eq_true rfl) (Nat.le_of_ble_eq_true rfl) (by decide) (sX11_isDeed h hI nu ) (fun H29 r30 q31 o32 => ?_)
    obtain ⟨e33, y34, rfl, p35⟩ := q31
    subst H29
    clear o32
    rcases p35 with ⟨rfl, c36⟩ | ⟨rfl, c36⟩
    · exact fz_zret kX11_isOf rfl rfl (by omega) ⟨rfl, _, rfl, Or.inl ⟨rfl, by first | exact Or.inl (by omega) | exact Or.inr (Or.inl (by omega)) | exact Or.inr (Or.inr (Or.inl (by omega))) | exact Or.inr (Or.inr (Or.inr (Or.inl (by omega)))) | exact Or.inr (Or.inr (Or.inr (Or.inr (Or.inl (by omega))))) | exact Or.inr (Or.inr (Or.inr (Or.inr (Or.inr (Or.inl (by omega)))))) | exact Or.inr (Or.inr (Or.inr (Or.inr (Or.inr (Or.inr (Or.inl (by omega))))))) | exact Or.inr (Or.inr (Or.inr (Or.inr (Or.inr (Or.inr (Or.inr (Or.inl (by omega)))))))) | exact Or.inr (Or.inr (Or.inr (Or.inr (Or.inr (Or.inr (Or.inr (Or.inr ((by omega))))))))) | omega⟩⟩
    · exact fz_zret kX11_isOf rfl rfl (by omega) ⟨rfl, _, rfl, Or.inr ⟨rfl, by exact fun z => (by rcases z with z | z | z | z | z | z | z | z | z <;> omega)⟩⟩
  · refine fz_tswC (j := 4) (tgt := 56) kX11_isOf rfl c4 (by decide) (by decide) rfl (by decide) ?_
    refine fz_aload_n kX11_isOf rfl rfl ?_
    refine fz_iload_n kX11_isOf rfl rfl ?_
    refine fz_callV (d' := 1) (M' := mX11_isDeed) (As := [fz_i nu]) (st := []) kX11_isOf rfl rfl vX11_isDeed rfl rfl rfl rfl (Nat.le_of_ble_eq_true rfl) (Nat.le_of_ble_eq_true rfl) (by decide) (sX11_isDeed h hI nu ) (fun H37 r38 q39 o40 => ?_)
    obtain ⟨e41, y42, rfl, p43⟩ := q39
    subst H37
    clear o40
    rcases p43 with ⟨rfl, c44⟩ | ⟨rfl, c44⟩
    · exact fz_zret kX11_isOf rfl rfl (by omega) ⟨rfl, _, rfl, Or.inl ⟨rfl, by first | exact Or.inl (by omega) | exact Or.inr (Or.inl (by omega)) | exact Or.inr (Or.inr (Or.inl (by omega))) | exact Or.inr (Or.inr (Or.inr (Or.inl (by omega)))) | exact Or.inr (Or.inr (Or.inr (Or.inr (Or.inl (by omega))))) | exact Or.inr (Or.inr (Or.inr (Or.inr (Or.inr (Or.inl (by omega)))))) | exact Or.inr (Or.inr (Or.inr (Or.inr (Or.inr (Or.inr (Or.inl (by omega))))))) | exact Or.inr (Or.inr (Or.inr (Or.inr (Or.inr (Or.inr (Or.inr (Or.inl (by omega)))))))) | exact Or.inr (Or.inr (Or.inr (Or.inr (Or.inr (Or.inr (Or.inr (Or.inr ((by omega))))))))) | omega⟩⟩
    · exact fz_zret kX11_isOf rfl rfl (by omega) ⟨rfl, _, rfl, Or.inr ⟨rfl, by exact fun z => (by rcases z with z | z | z | z | z | z | z | z | z <;> omega)⟩⟩
  · refine fz_tswC (j := 5) (tgt := 56) kX11_isOf rfl c4 (by decide) (by decide) rfl (by decide) ?_
    refine fz_aload_n kX11_isOf rfl rfl ?_
    refine fz_iload_n kX11_isOf rfl rfl ?_
    refine fz_callV (d' := 1) (M' := mX11_isDeed) (As := [fz_i nu]) (st := []) kX11_isOf rfl rfl vX11_isDeed rfl rfl rfl rfl (Nat.le_of_ble_eq_true rfl) (Nat.le_of_ble_eq_true rfl) (by decide) (sX11_isDeed h hI nu ) (fun H45 r46 q47 o48 => ?_)
    obtain ⟨e49, y50, rfl, p51⟩ := q47
    subst H45
    clear o48
    rcases p51 with ⟨rfl, c52⟩ | ⟨rfl, c52⟩
    · exact fz_zret kX11_isOf rfl rfl (by omega) ⟨rfl, _, rfl, Or.inl ⟨rfl, by first | exact Or.inl (by omega) | exact Or.inr (Or.inl (by omega)) | exact Or.inr (Or.inr (Or.inl (by omega))) | exact Or.inr (Or.inr (Or.inr (Or.inl (by omega)))) | exact Or.inr (Or.inr (Or.inr (Or.inr (Or.inl (by omega))))) | exact Or.inr (Or.inr (Or.inr (Or.inr (Or.inr (Or.inl (by omega)))))) | exact Or.inr (Or.inr (Or.inr (Or.inr (Or.inr (Or.inr (Or.inl (by omega))))))) | exact Or.inr (Or.inr (Or.inr (Or.inr (Or.inr (Or.inr (Or.inr (Or.inl (by omega)))))))) | exact Or.inr (Or.inr (Or.inr (Or.inr (Or.inr (Or.inr (Or.inr (Or.inr ((by omega))))))))) | omega⟩⟩
    · exact fz_zret kX11_isOf rfl rfl (by omega) ⟨rfl, _, rfl, Or.inr ⟨rfl, by exact fun z => (by rcases z with z | z | z | z | z | z | z | z | z <;> omega)⟩⟩
  · refine fz_tswC (j := 6) (tgt := 62) kX11_isOf rfl c4 (by decide) (by decide) rfl (by decide) ?_
    refine fz_iload_n kX11_isOf rfl rfl ?_
    refine fz_callS (d' := 1) (M' := mX11_isMark) (As := [fz_i nu]) (st := []) kX11_isOf rfl rfl vX11_isMark rfl rfl (Nat.le_of_ble_eq_true rfl) (Nat.le_of_ble_eq_true rfl) (by decide) (sX11_isMark h hI nu ) (fun H53 r54 q55 o56 => ?_)
    obtain ⟨e57, y58, rfl, p59⟩ := q55
    subst H53
    clear o56
    rcases p59 with ⟨rfl, c60⟩ | ⟨rfl, c60⟩
    · exact fz_zret kX11_isOf rfl rfl (by omega) ⟨rfl, _, rfl, Or.inl ⟨rfl, by first | exact Or.inl (by omega) | exact Or.inr (Or.inl (by omega)) | exact Or.inr (Or.inr (Or.inl (by omega))) | exact Or.inr (Or.inr (Or.inr (Or.inl (by omega)))) | exact Or.inr (Or.inr (Or.inr (Or.inr (Or.inl (by omega))))) | exact Or.inr (Or.inr (Or.inr (Or.inr (Or.inr (Or.inl (by omega)))))) | exact Or.inr (Or.inr (Or.inr (Or.inr (Or.inr (Or.inr (Or.inl (by omega))))))) | exact Or.inr (Or.inr (Or.inr (Or.inr (Or.inr (Or.inr (Or.inr (Or.inl (by omega)))))))) | exact Or.inr (Or.inr (Or.inr (Or.inr (Or.inr (Or.inr (Or.inr (Or.inr ((by omega))))))))) | omega⟩⟩
    · exact fz_zret kX11_isOf rfl rfl (by omega) ⟨rfl, _, rfl, Or.inr ⟨rfl, by exact fun z => (by rcases z with z | z | z | z | z | z | z | z | z <;> omega)⟩⟩
  · refine fz_tswO (tgt := 67) kX11_isOf rfl c4 (by decide) ?_
    refine fz_iload_n kX11_isOf rfl rfl ?_
    refine fz_bipush ⟨by decide, by decide⟩ kX11_isOf rfl ?_
    refine fz_bipush ⟨by decide, by decide⟩ kX11_isOf rfl ?_
    refine fz_callS (d' := 0) (M' := mX11_within) (As := [fz_i wh, fz_i 7, fz_i 8]) (st := []) kX11_isOf rfl rfl vX11_within rfl rfl (Nat.le_of_ble_eq_true rfl) (Nat.le_of_ble_eq_true rfl) (by decide) (sX11_within h hI wh 7 8 ) (fun H61 r62 q63 o64 => ?_)
    obtain ⟨e65, y66, rfl, p67⟩ := q63
    subst H61
    clear o64
    rcases p67 with ⟨rfl, c68⟩ | ⟨rfl, c68⟩
    · refine fz_if_eq (tgt := 86) kX11_isOf rfl (by decide) (fun c69 => ?_) (fun c69 => ?_)
      · exfalso; omega
      · refine fz_iload_n kX11_isOf rfl rfl ?_
        refine fz_if_ne (tgt := 86) kX11_isOf rfl (by decide) (fun c70 => ?_) (fun c70 => ?_)
        · refine fz_iconst ⟨by decide, by decide⟩ kX11_isOf rfl ?_
          exact fz_zret kX11_isOf rfl rfl (by omega) ⟨rfl, _, rfl, Or.inr ⟨rfl, by exact fun z => (by rcases z with z | z | z | z | z | z | z | z | z <;> omega)⟩⟩
        · refine fz_iconst ⟨by decide, by decide⟩ kX11_isOf rfl ?_
          refine fz_goto (tgt := 87) kX11_isOf rfl (by decide) ?_
          exact fz_zret kX11_isOf rfl rfl (by omega) ⟨rfl, _, rfl, Or.inl ⟨rfl, by first | exact Or.inl (by omega) | exact Or.inr (Or.inl (by omega)) | exact Or.inr (Or.inr (Or.inl (by omega))) | exact Or.inr (Or.inr (Or.inr (Or.inl (by omega)))) | exact Or.inr (Or.inr (Or.inr (Or.inr (Or.inl (by omega))))) | exact Or.inr (Or.inr (Or.inr (Or.inr (Or.inr (Or.inl (by omega)))))) | exact Or.inr (Or.inr (Or.inr (Or.inr (Or.inr (Or.inr (Or.inl (by omega))))))) | exact Or.inr (Or.inr (Or.inr (Or.inr (Or.inr (Or.inr (Or.inr (Or.inl (by omega)))))))) | exact Or.inr (Or.inr (Or.inr (Or.inr (Or.inr (Or.inr (Or.inr (Or.inr ((by omega))))))))) | omega⟩⟩
    · refine fz_if_eq (tgt := 86) kX11_isOf rfl (by decide) (fun c71 => ?_) (fun c71 => ?_)
      · refine fz_iconst ⟨by decide, by decide⟩ kX11_isOf rfl ?_
        exact fz_zret kX11_isOf rfl rfl (by omega) ⟨rfl, _, rfl, Or.inr ⟨rfl, by exact fun z => (by rcases z with z | z | z | z | z | z | z | z | z <;> omega)⟩⟩
      · exfalso; omega

abbrev qX11_feed (h : fz_H) (c : Int) : fz_H → Option fz_V → Prop := fun h' r0 => fz_Iv h' ∧ fz_fr [(53, 16), (65, 99999)] h h' ∧ ∃ r : Int, r0 = some (fz_i r) ∧ ((-3) ≤ r ∧ r ≤ 120) ∧ ((0 ≤ c ∧ c ≤ 255 ∧ h 53 16 < 120 ∧ r = h 53 16 + 1 ∧ h' 53 16 = h 53 16 + 1) ∨ (0 ≤ c ∧ c ≤ 255 ∧ 120 ≤ h 53 16 ∧ r = -3 ∧ h' 53 16 = h 53 16) ∨ (¬ (0 ≤ c ∧ c ≤ 255) ∧ r = -1 ∧ h' 53 16 = h 53 16)) ∧ (fl_fdM h h' c)
set_option maxHeartbeats 1000000 in
set_option maxRecDepth 100000 in
theorem sX11_feed (h : fz_H) (hI : fz_Iv h) (c : Int) : fz_R 1 mX11_feed 0 [(0, fz_r 53), (1, fz_i c)] [] h (qX11_feed h c) := by
  refine fz_knowl (fun hk => ?_)
  have hr_c : -2147483648 ≤ c ∧ c < 2147483648 := hk _ (List.Mem.tail _ (List.Mem.head _))
  clear hk
  have hf : fz_fr [(53, 16), (65, 99999)] h h := fz_fr_rf
  have b1 : 0 ≤ h 53 16 ∧ h 53 16 ≤ 120 := hI.1 53 _
  refine fz_iload_n kX11_feed rfl rfl ?_
  refine fz_iconst ⟨by decide, by decide⟩ kX11_feed rfl ?_
  refine fz_sipush ⟨by decide, by decide⟩ kX11_feed rfl ?_
  refine fz_callS (d' := 0) (M' := mX11_within) (As := [fz_i c, fz_i 0, fz_i 255]) (st := []) kX11_feed rfl rfl vX11_within rfl rfl (Nat.le_of_ble_eq_true rfl) (Nat.le_of_ble_eq_true rfl) (by decide) (sX11_within h hI c 0 255 ) (fun H2 r3 q4 o5 => ?_)
  obtain ⟨e6, y7, rfl, p8⟩ := q4
  subst H2
  clear o5
  rcases p8 with ⟨rfl, c9⟩ | ⟨rfl, c9⟩
  · refine fz_if_ne (tgt := 13) kX11_feed rfl (by decide) (fun c10 => ?_) (fun c10 => ?_)
    · refine fz_aload_n kX11_feed rfl rfl ?_
      refine fz_getV (v := h 53 16) kX11_feed rfl rfl rfl ?_
      have b11 : 0 ≤ h 53 16 ∧ h 53 16 ≤ 120 := hI.1 53 _
      refine fz_bipush ⟨by decide, by decide⟩ kX11_feed rfl ?_
      refine fz_icmp_ne (tgt := 25) kX11_feed rfl (by decide) (fun c12 => ?_) (fun c12 => ?_)
      · refine fz_aload_n kX11_feed rfl rfl ?_
        refine fz_getR (t := 65) kX11_feed rfl rfl ?_
        refine fz_aload_n kX11_feed rfl rfl ?_
        refine fz_dup rfl kX11_feed rfl ?_
        refine fz_getV (v := h 53 16) kX11_feed rfl rfl rfl ?_
        refine fz_dup_x1 rfl rfl kX11_feed rfl ?_
        refine fz_iconst ⟨by decide, by decide⟩ kX11_feed rfl ?_
        refine fz_iaddN kX11_feed rfl (by omega) ?_
        refine fz_putI kX11_feed rfl rfl rfl ?_
        refine fz_nmu (S := [(53, 16), (65, 99999)]) (h0 := h) (fz_Iv_up hI (by decide) (show (0 : Int) ≤ ((h 53 16) + 1) by omega) (show (((h 53 16) + 1) : Int) ≤ 120 by omega)) (fz_fr_up hf rfl) (fun H13 hI14 hf15 e16 => ?_)
        have k17 : H13 53 16 = ((h 53 16) + 1) := by rw [e16]; exact fz_up_e
        refine fz_iload_n kX11_feed rfl rfl ?_
        refine fz_iast (n := 120) kX11_feed rfl rfl (by omega) (by omega) ?_
        refine fz_nmu (S := [(53, 16), (65, 99999)]) (h0 := h) (fz_Iv_up hI14 (by decide) (show (0 : Int) ≤ c by omega) (show (c : Int) ≤ 255 by omega)) (fz_fr_up hf15 rfl) (fun H18 hI19 hf20 e21 => ?_)
        have k22 : H18 53 16 = ((h 53 16) + 1) := by rw [e21]; exact (fz_up_o (by decide)).trans k17
        have t23 : H18 53 16 = H13 53 16 := by rw [e21]; exact fz_up_o (by decide)
        refine fz_aload_n kX11_feed rfl rfl ?_
        refine fz_getV (v := ((h 53 16) + 1)) kX11_feed rfl rfl k22 ?_
        exact fz_iret kX11_feed rfl rfl (fun _ => ⟨hI19, hf20, _, rfl, (by omega), (by omega), (by first | exact Or.inl ⟨by omega, (by rw [e21]; exact fz_up_pair (by rw [e16]; exact fz_up_ne (by decide)) rfl rfl)⟩ | exact Or.inr ⟨rfl, rfl⟩)⟩)
      · refine fz_bipush ⟨by decide, by decide⟩ kX11_feed rfl ?_
        exact fz_iret kX11_feed rfl rfl (fun _ => ⟨hI, hf, _, rfl, (by omega), (by omega), (by first | exact Or.inl ⟨by omega, (by rw [lost]; exact fz_up_pair (by rw [lost]; exact fz_up_ne (by decide)) rfl rfl)⟩ | exact Or.inr ⟨rfl, rfl⟩)⟩)
    · exfalso; omega
  · refine fz_if_ne (tgt := 13) kX11_feed rfl (by decide) (fun c26 => ?_) (fun c26 => ?_)
    · exfalso; omega
    · refine fz_iconst ⟨by decide, by decide⟩ kX11_feed rfl ?_
      exact fz_iret kX11_feed rfl rfl (fun _ => ⟨hI, hf, _, rfl, (by omega), (by omega), (by first | exact Or.inl ⟨by omega, (by rw [lost]; exact fz_up_pair (by rw [lost]; exact fz_up_ne (by decide)) rfl rfl)⟩ | exact Or.inr ⟨rfl, rfl⟩)⟩)

abbrev qX11_hoursOf (h : fz_H) (rd ca : Int) : fz_H → Option fz_V → Prop := fun h' r0 => h' = h ∧ ∃ r : Int, r0 = some (fz_i r) ∧ (0 ≤ r ∧ r ≤ 24) ∧ (r = (if ca = 0 then h 57 rd.toNat else (h 57 rd.toNat + 1) / 2))
set_option maxHeartbeats 1000000 in
set_option maxRecDepth 100000 in
theorem sX11_hoursOf (h : fz_H) (hI : fz_Iv h) (rd ca : Int) (hp0 : 0 ≤ rd ∧ rd ≤ 11) : fz_R 0 mX11_hoursOf 0 [(0, fz_r 53), (1, fz_i rd), (2, fz_i ca)] [] h (qX11_hoursOf h rd ca) := by
  refine fz_knowl (fun hk => ?_)
  have hr_rd : -2147483648 ≤ rd ∧ rd < 2147483648 := hk _ (List.Mem.tail _ (List.Mem.head _))
  have hr_ca : -2147483648 ≤ ca ∧ ca < 2147483648 := hk _ (List.Mem.tail _ (List.Mem.tail _ (List.Mem.head _)))
  clear hk
  refine fz_iload_n kX11_hoursOf rfl rfl ?_
  refine fz_if_eq (tgt := 17) kX11_hoursOf rfl (by decide) (fun c1 => ?_) (fun c1 => ?_)
  · refine fz_aload_n kX11_hoursOf rfl rfl ?_
    refine fz_getR (t := 57) kX11_hoursOf rfl rfl ?_
    refine fz_iload_n kX11_hoursOf rfl rfl ?_
    refine fz_ialdV (n := 12) (v := h 57 (rd.toNat)) kX11_hoursOf rfl rfl (by omega) (by omega) rfl ?_
    have b2 : 0 ≤ h 57 (rd.toNat) ∧ h 57 (rd.toNat) ≤ 24 := hI.1 57 _
    exact fz_iret kX11_hoursOf rfl rfl (fun _ => ⟨rfl, _, rfl, (by omega), (by first | (rw [if_pos (by omega)]) | (rw [if_neg (by omega)]))⟩)
  · refine fz_aload_n kX11_hoursOf rfl rfl ?_
    refine fz_getR (t := 57) kX11_hoursOf rfl rfl ?_
    refine fz_iload_n kX11_hoursOf rfl rfl ?_
    refine fz_ialdV (n := 12) (v := h 57 (rd.toNat)) kX11_hoursOf rfl rfl (by omega) (by omega) rfl ?_
    have b4 : 0 ≤ h 57 (rd.toNat) ∧ h 57 (rd.toNat) ≤ 24 := hI.1 57 _
    refine fz_iconst ⟨by decide, by decide⟩ kX11_hoursOf rfl ?_
    refine fz_iaddN kX11_hoursOf rfl (by omega) ?_
    refine fz_iconst ⟨by decide, by decide⟩ kX11_hoursOf rfl ?_
    refine fz_idivN kX11_hoursOf rfl (by omega) (by omega) (by omega) ?_
    refine fz_goto (tgt := 23) kX11_hoursOf rfl (by decide) ?_
    exact fz_iret kX11_hoursOf rfl rfl (fun _ => ⟨rfl, _, rfl, (by omega), (by first | (rw [if_pos (by omega)]) | (rw [if_neg (by omega)]))⟩)

abbrev qX11_deedsOf (h : fz_H) (pe : Int) : fz_H → Option fz_V → Prop := fun h' r0 => h' = h ∧ ∃ r : Int, r0 = some (fz_i r) ∧ (0 ≤ r ∧ r ≤ 2047) ∧ (0 ≤ r ∧ r ≤ 2047) ∧ (fz_cb (h 60) pe r (h 53 10))
set_option maxHeartbeats 1000000 in
set_option maxRecDepth 100000 in
theorem sX11_deedsOf (h : fz_H) (hI : fz_Iv h) (pe : Int) : fz_R 0 mX11_deedsOf 0 [(0, fz_r 53), (1, fz_i pe)] [] h (qX11_deedsOf h pe) := by
  refine fz_knowl (fun hk => ?_)
  have hr_pe : -2147483648 ≤ pe ∧ pe < 2147483648 := hk _ (List.Mem.tail _ (List.Mem.head _))
  clear hk
  have b1 : 0 ≤ h 53 10 ∧ h 53 10 ≤ 11 := hI.1 53 _
  refine fz_iconst ⟨by decide, by decide⟩ kX11_deedsOf rfl ?_
  refine fz_istore_n (ls' := [(2, fz_i 0), (0, fz_r 53), (1, fz_i pe)]) kX11_deedsOf rfl (by decide) rfl ?_
  refine fz_iconst ⟨by decide, by decide⟩ kX11_deedsOf rfl ?_
  refine fz_istore_n (ls' := [(3, fz_i 0), (2, fz_i 0), (0, fz_r 53), (1, fz_i pe)]) kX11_deedsOf rfl (by decide) rfl ?_
  have lp5 : ∀ (n4 : Nat) (x2 : Int) (x3 : Int), (0 ≤ x2 ∧ x2 ≤ 2147483647) → (0 ≤ x3 ∧ x3 ≤ 2047) → (x2 ≤ h 53 10) → (fz_cb (h 60) pe x3 x2) → ((h 53 10) - x2).toNat < n4 → fz_R 0 mX11_deedsOf 4 [(3, fz_i x2), (2, fz_i x3), (0, fz_r 53), (1, fz_i pe)] [] h (qX11_deedsOf h pe) := by
    intro n4
    induction n4 with
    | zero => intro x2 x3 hv8 hv9 hv10 hv11 hm7; exact absurd hm7 (by omega)
    | succ n4 ih6 =>
      intro x2 x3 hv8 hv9 hv10 hv11 hm7
      refine fz_iload_n kX11_deedsOf rfl rfl ?_
      refine fz_aload_n kX11_deedsOf rfl rfl ?_
      refine fz_getV (v := h 53 10) kX11_deedsOf rfl rfl rfl ?_
      have b12 : 0 ≤ h 53 10 ∧ h 53 10 ≤ 11 := hI.1 53 _
      refine fz_icmp_ge (tgt := 34) kX11_deedsOf rfl (by decide) (fun c13 => ?_) (fun c13 => ?_)
      · refine fz_iload_n kX11_deedsOf rfl rfl ?_
        exact fz_iret kX11_deedsOf rfl rfl (fun _ => ⟨rfl, _, rfl, (by omega), (by omega), (by exact fz_cb_e hv11 (by omega))⟩)
      · refine fz_aload_n kX11_deedsOf rfl rfl ?_
        refine fz_getR (t := 60) kX11_deedsOf rfl rfl ?_
        refine fz_iload_n kX11_deedsOf rfl rfl ?_
        refine fz_ialdV (n := 11) (v := h 60 (x2.toNat)) kX11_deedsOf rfl rfl (by omega) (by omega) rfl ?_
        have b15 : (-2147483648) ≤ h 60 (x2.toNat) ∧ h 60 (x2.toNat) ≤ 2147483647 := hI.1 60 _
        refine fz_iload_n kX11_deedsOf rfl rfl ?_
        refine fz_icmp_ne (tgt := 28) kX11_deedsOf rfl (by decide) (fun c16 => ?_) (fun c16 => ?_)
        · refine fz_iincN (ls' := [(3, fz_i (x2 + 1)), (2, fz_i x3), (0, fz_r 53), (1, fz_i pe)]) kX11_deedsOf rfl (by decide) rfl (by omega) rfl ?_
          refine fz_goto (tgt := 4) kX11_deedsOf rfl (by decide) ?_
          exact ih6 (x2 + 1) x3 (by omega) (by omega) (by omega) (by first | exact fz_cb_1 hv11 (by omega) (by omega) | exact fz_cb_0 hv11 (by omega) (by omega)) (by omega)
        · refine fz_iload_n kX11_deedsOf rfl rfl ?_
          refine fz_iconst ⟨by decide, by decide⟩ kX11_deedsOf rfl ?_
          refine fz_iload_n kX11_deedsOf rfl rfl ?_
          refine fz_ishl kX11_deedsOf rfl ?_
          have b18 : -2147483648 ≤ (fz_shl 1 x2) ∧ (fz_shl 1 x2) < 2147483648 := fz_b32 _
          have b19 : 0 ≤ (fz_shl 1 x2) ∧ (fz_shl 1 x2) ≤ 2047 := fz_shl_m (by omega)
          refine fz_ior kX11_deedsOf rfl ?_
          have b20 : -2147483648 ≤ (fz_or x3 (fz_shl 1 x2)) ∧ (fz_or x3 (fz_shl 1 x2)) < 2147483648 := fz_b32 _
          have b21 : 0 ≤ (fz_or x3 (fz_shl 1 x2)) ∧ (fz_or x3 (fz_shl 1 x2)) ≤ 2047 := fz_or_m (by omega) (by omega)
          refine fz_istore_n (ls' := [(2, fz_i (fz_or x3 (fz_shl 1 x2))), (3, fz_i x2), (0, fz_r 53), (1, fz_i pe)]) kX11_deedsOf rfl (by decide) rfl ?_
          refine fz_iincN (ls' := [(3, fz_i (x2 + 1)), (2, fz_i (fz_or x3 (fz_shl 1 x2))), (0, fz_r 53), (1, fz_i pe)]) kX11_deedsOf rfl (by decide) rfl (by omega) rfl ?_
          refine fz_goto (tgt := 4) kX11_deedsOf rfl (by decide) ?_
          exact ih6 (x2 + 1) (fz_or x3 (fz_shl 1 x2)) (by omega) (by omega) (by omega) (by first | exact fz_cb_1 hv11 (by omega) (by omega) | exact fz_cb_0 hv11 (by omega) (by omega)) (by omega)
  exact lp5 _ 0 0 (by omega) (by omega) (by omega) (fz_cb_z rfl) (Nat.lt_succ_self _)

abbrev qX11_forgets (h : fz_H) (se pe : Int) : fz_H → Option fz_V → Prop := fun h' r0 => fz_Iv h' ∧ fz_fr [(60, 99999)] h h' ∧ r0 = none ∧ fz_fgn h h' (h 53 10) se pe
set_option maxHeartbeats 1000000 in
set_option maxRecDepth 100000 in
theorem sX11_forgets (h : fz_H) (hI : fz_Iv h) (se pe : Int) : fz_R 0 mX11_forgets 0 [(0, fz_r 53), (1, fz_i se), (2, fz_i pe)] [] h (qX11_forgets h se pe) := by
  refine fz_knowl (fun hk => ?_)
  have hr_se : -2147483648 ≤ se ∧ se < 2147483648 := hk _ (List.Mem.tail _ (List.Mem.head _))
  have hr_pe : -2147483648 ≤ pe ∧ pe < 2147483648 := hk _ (List.Mem.tail _ (List.Mem.tail _ (List.Mem.head _)))
  clear hk
  have hf : fz_fr [(60, 99999)] h h := fz_fr_rf
  have b1 : 0 ≤ h 53 10 ∧ h 53 10 ≤ 11 := hI.1 53 _
  refine fz_iconst ⟨by decide, by decide⟩ kX11_forgets rfl ?_
  refine fz_istore_n (ls' := [(3, fz_i 0), (0, fz_r 53), (1, fz_i se), (2, fz_i pe)]) kX11_forgets rfl (by decide) rfl ?_
  have lp7 : ∀ (n6 : Nat) (x2 : Int) (H3 : fz_H), fz_Iv H3 → fz_fr [(60, 99999)] h H3 → (0 ≤ x2 ∧ x2 ≤ 2147483647) → (x2 ≤ h 53 10) → (fz_fgn h H3 x2 se pe) → ((h 53 10) - x2).toNat < n6 → fz_R 0 mX11_forgets 2 [(3, fz_i x2), (0, fz_r 53), (1, fz_i se), (2, fz_i pe)] [] H3 (qX11_forgets h se pe) := by
    intro n6
    induction n6 with
    | zero => intro x2 H3 hI4 hf5 hv10 hv11 hv12 hm9; exact absurd hm9 (by omega)
    | succ n6 ih8 =>
      intro x2 H3 hI4 hf5 hv10 hv11 hv12 hm9
      refine fz_iload_n kX11_forgets rfl rfl ?_
      refine fz_aload_n kX11_forgets rfl rfl ?_
      refine fz_getV (v := h 53 10) kX11_forgets rfl rfl (hf5 53 10 rfl) ?_
      have b13 : 0 ≤ h 53 10 ∧ h 53 10 ≤ 11 := hI.1 53 _
      refine fz_icmp_ge (tgt := 32) kX11_forgets rfl (by decide) (fun c14 => ?_) (fun c14 => ?_)
      · exact fz_vret kX11_forgets rfl rfl ⟨hI4, hf5, rfl, (by exact fz_fgn_e hv12 (by omega))⟩
      · refine fz_iload_n kX11_forgets rfl rfl ?_
        refine fz_iload_n kX11_forgets rfl rfl ?_
        refine fz_ishr kX11_forgets rfl ?_
        have b16 : -2147483648 ≤ (fz_shr se x2) ∧ (fz_shr se x2) < 2147483648 := fz_b32 _
        refine fz_iconst ⟨by decide, by decide⟩ kX11_forgets rfl ?_
        refine fz_iand kX11_forgets rfl ?_
        have b17 : -2147483648 ≤ (fz_and (fz_shr se x2) 1) ∧ (fz_and (fz_shr se x2) 1) < 2147483648 := fz_b32 _
        refine fz_iconst ⟨by decide, by decide⟩ kX11_forgets rfl ?_
        refine fz_icmp_ne (tgt := 26) kX11_forgets rfl (by decide) (fun c18 => ?_) (fun c18 => ?_)
        · refine fz_iincN (ls' := [(3, fz_i (x2 + 1)), (0, fz_r 53), (1, fz_i se), (2, fz_i pe)]) kX11_forgets rfl (by decide) rfl (by omega) rfl ?_
          refine fz_goto (tgt := 2) kX11_forgets rfl (by decide) ?_
          exact ih8 (x2 + 1) H3 hI4 hf5 (by omega) (by omega) (by first | exact fz_fgn_1 hv12 lost (by omega) (by omega) | exact fz_fgn_2 hv12 (by omega) (by omega)) (by omega)
        · refine fz_aload_n kX11_forgets rfl rfl ?_
          refine fz_getR (t := 60) kX11_forgets rfl rfl ?_
          refine fz_iload_n kX11_forgets rfl rfl ?_
          refine fz_iload_n kX11_forgets rfl rfl ?_
          refine fz_iast (n := 11) kX11_forgets rfl rfl (by omega) (by omega) ?_
          refine fz_nmu (S := [(60, 99999)]) (h0 := h) (fz_Iv_up hI4 (by decide) (show ((-2147483648) : Int) ≤ pe by omega) (show (pe : Int) ≤ 2147483647 by omega)) (fz_fr_up hf5 rfl) (fun H20 hI21 hf22 e23 => ?_)
          refine fz_iincN (ls' := [(3, fz_i (x2 + 1)), (0, fz_r 53), (1, fz_i se), (2, fz_i pe)]) kX11_forgets rfl (by decide) rfl (by omega) rfl ?_
          refine fz_goto (tgt := 2) kX11_forgets rfl (by decide) ?_
          exact ih8 (x2 + 1) H20 hI21 hf22 (by omega) (by omega) (by first | exact fz_fgn_1 hv12 e23 (by omega) (by omega) | exact fz_fgn_2 hv12 (by omega) (by omega)) (by omega)
  exact lp7 _ 0 h hI hf (by omega) (by omega) (fz_fgn_0 (by omega)) (Nat.lt_succ_self _)

abbrev qX11_noRow (h : fz_H) (s : Int) : fz_H → Option fz_V → Prop := fun h' r0 => h' = h ∧ ∃ r : Int, r0 = some (fz_i r) ∧ ((-12) ≤ r ∧ r ≤ 0) ∧ ((h 83 s.toNat = -1 ∧ r = -11) ∨ (h 83 s.toNat ≠ -1 ∧ h 83 s.toNat ≠ 0 ∧ r = -12) ∨ (h 83 s.toNat = 0 ∧ r = 0))
set_option maxHeartbeats 1000000 in
set_option maxRecDepth 100000 in
theorem sX11_noRow (h : fz_H) (hI : fz_Iv h) (s : Int) (hp0 : 0 ≤ s ∧ s ≤ 5) : fz_R 0 mX11_noRow 0 [(0, fz_r 53), (1, fz_i s)] [] h (qX11_noRow h s) := by
  refine fz_knowl (fun hk => ?_)
  have hr_s : -2147483648 ≤ s ∧ s < 2147483648 := hk _ (List.Mem.tail _ (List.Mem.head _))
  clear hk
  refine fz_aload_n kX11_noRow rfl rfl ?_
  refine fz_getR (t := 83) kX11_noRow rfl rfl ?_
  refine fz_iload_n kX11_noRow rfl rfl ?_
  refine fz_ialdV (n := 6) (v := h 83 (s.toNat)) kX11_noRow rfl rfl (by omega) (by omega) rfl ?_
  have b1 : (-1) ≤ h 83 (s.toNat) ∧ h 83 (s.toNat) ≤ 59 := hI.1 83 _
  refine fz_iconst ⟨by decide, by decide⟩ kX11_noRow rfl ?_
  refine fz_icmp_ne (tgt := 15) kX11_noRow rfl (by decide) (fun c2 => ?_) (fun c2 => ?_)
  · refine fz_aload_n kX11_noRow rfl rfl ?_
    refine fz_getR (t := 83) kX11_noRow rfl rfl ?_
    refine fz_iload_n kX11_noRow rfl rfl ?_
    refine fz_ialdV (n := 6) (v := h 83 (s.toNat)) kX11_noRow rfl rfl (by omega) (by omega) rfl ?_
    refine fz_if_eq (tgt := 29) kX11_noRow rfl (by decide) (fun c3 => ?_) (fun c3 => ?_)
    · refine fz_iconst ⟨by decide, by decide⟩ kX11_noRow rfl ?_
      exact fz_iret kX11_noRow rfl rfl (fun _ => ⟨rfl, _, rfl, (by omega), (by omega)⟩)
    · refine fz_bipush ⟨by decide, by decide⟩ kX11_noRow rfl ?_
      refine fz_goto (tgt := 30) kX11_noRow rfl (by decide) ?_
      exact fz_iret kX11_noRow rfl rfl (fun _ => ⟨rfl, _, rfl, (by omega), (by omega)⟩)
  · refine fz_bipush ⟨by decide, by decide⟩ kX11_noRow rfl ?_
    refine fz_goto (tgt := 30) kX11_noRow rfl (by decide) ?_
    exact fz_iret kX11_noRow rfl rfl (fun _ => ⟨rfl, _, rfl, (by omega), (by omega)⟩)

abbrev qX11_led (h : fz_H) (wh : Int) : fz_H → Option fz_V → Prop := fun h' r0 => h' = h ∧ ∃ r : Int, r0 = some (fz_i r) ∧ ((-2147483648) ≤ r ∧ r ≤ 2147483647) ∧ (fl_leM h wh r)
set_option maxHeartbeats 1000000 in
set_option maxRecDepth 100000 in
theorem sX11_led (h : fz_H) (hI : fz_Iv h) (wh : Int) : fz_R 1 mX11_led 0 [(0, fz_r 53), (1, fz_i wh)] [] h (qX11_led h wh) := by
  refine fz_knowl (fun hk => ?_)
  have hr_wh : -2147483648 ≤ wh ∧ wh < 2147483648 := hk _ (List.Mem.tail _ (List.Mem.head _))
  clear hk
  refine fz_iload_n kX11_led rfl rfl ?_
  refine fz_iconst ⟨by decide, by decide⟩ kX11_led rfl ?_
  refine fz_icmp_ne (tgt := 12) kX11_led rfl (by decide) (fun c1 => ?_) (fun c1 => ?_)
  · refine fz_iload_n kX11_led rfl rfl ?_
    refine fz_iconst ⟨by decide, by decide⟩ kX11_led rfl ?_
    refine fz_iconst ⟨by decide, by decide⟩ kX11_led rfl ?_
    refine fz_callS (d' := 0) (M' := mX11_within) (As := [fz_i wh, fz_i 0, fz_i 3]) (st := []) kX11_led rfl rfl vX11_within rfl rfl (Nat.le_of_ble_eq_true rfl) (Nat.le_of_ble_eq_true rfl) (by decide) (sX11_within h hI wh 0 3 ) (fun H2 r3 q4 o5 => ?_)
    obtain ⟨e6, y7, rfl, p8⟩ := q4
    subst H2
    clear o5
    rcases p8 with ⟨rfl, c9⟩ | ⟨rfl, c9⟩
    · refine fz_if_eq (tgt := 30) kX11_led rfl (by decide) (fun c10 => ?_) (fun c10 => ?_)
      · exfalso; omega
      · refine fz_aload_n kX11_led rfl rfl ?_
        refine fz_getR (t := 77) kX11_led rfl rfl ?_
        refine fz_iload_n kX11_led rfl rfl ?_
        refine fz_ialdV (n := 4) (v := h 77 (wh.toNat)) kX11_led rfl rfl (by omega) (by omega) rfl ?_
        have b11 : (-2147483648) ≤ h 77 (wh.toNat) ∧ h 77 (wh.toNat) ≤ 2147483647 := hI.1 77 _
        refine fz_goto (tgt := 31) kX11_led rfl (by decide) ?_
        exact fz_iret kX11_led rfl rfl (fun _ => ⟨rfl, _, rfl, (by omega), (by first | exact Or.inl ⟨by omega, rfl⟩ | exact Or.inr (Or.inl ⟨by omega, rfl⟩) | exact Or.inr (Or.inr ⟨by omega, rfl⟩))⟩)
    · refine fz_if_eq (tgt := 30) kX11_led rfl (by decide) (fun c13 => ?_) (fun c13 => ?_)
      · refine fz_iconst ⟨by decide, by decide⟩ kX11_led rfl ?_
        exact fz_iret kX11_led rfl rfl (fun _ => ⟨rfl, _, rfl, (by omega), (by first | exact Or.inl ⟨by omega, rfl⟩ | exact Or.inr (Or.inl ⟨by omega, rfl⟩) | exact Or.inr (Or.inr ⟨by omega, rfl⟩))⟩)
      · exfalso; omega
  · refine fz_aload_n kX11_led rfl rfl ?_
    refine fz_getV (v := h 53 34) kX11_led rfl rfl rfl ?_
    have b15 : 0 ≤ h 53 34 ∧ h 53 34 ≤ 999 := hI.1 53 _
    refine fz_goto (tgt := 31) kX11_led rfl (by decide) ?_
    exact fz_iret kX11_led rfl rfl (fun _ => ⟨rfl, _, rfl, (by omega), (by first | exact Or.inl ⟨by omega, rfl⟩ | exact Or.inr (Or.inl ⟨by omega, rfl⟩) | exact Or.inr (Or.inr ⟨by omega, rfl⟩))⟩)

abbrev qX11_image (h : fz_H) : fz_H → Option fz_V → Prop := fun h' r0 => fz_Iv h' ∧ fz_fr [(53, 37), (53, 38), (78, 99999), (79, 99999)] h h' ∧ ∃ r : Int, r0 = some (fz_i r) ∧ (0 ≤ r ∧ r ≤ 999) ∧ (r = h 53 34) ∧ (fz_imM h h') ∧ (fl_idM h h')
set_option maxHeartbeats 1000000 in
set_option maxRecDepth 100000 in
theorem sX11_image (h : fz_H) (hI : fz_Iv h) : fz_R 0 mX11_image 0 [(0, fz_r 53)] [] h (qX11_image h) := by
  have hf : fz_fr [(53, 37), (53, 38), (78, 99999), (79, 99999)] h h := fz_fr_rf
  have b1 : 0 ≤ h 53 34 ∧ h 53 34 ≤ 999 := hI.1 53 _
  refine fz_aload_n kX11_image rfl rfl ?_
  refine fz_iconst ⟨by decide, by decide⟩ kX11_image rfl ?_
  refine fz_putZ kX11_image rfl rfl rfl (by omega) ?_
  refine fz_nmu (S := [(53, 37), (53, 38), (78, 99999), (79, 99999)]) (h0 := h) (fz_Iv_up hI (by decide) (show (0 : Int) ≤ 1 by decide) (show (1 : Int) ≤ 1 by decide)) (fz_fr_up hf rfl) (fun H2 hI3 hf4 e5 => ?_)
  have k6 : H2 53 37 = 1 := by rw [e5]; exact fz_up_e
  have t7 : H2 53 38 = h 53 38 := by rw [e5]; exact fz_up_s (by decide)
  refine fz_aload_n kX11_image rfl rfl ?_
  refine fz_aload_n kX11_image rfl rfl ?_
  refine fz_getV (v := h 53 34) kX11_image rfl rfl (hf4 53 34 rfl) ?_
  have b8 : 0 ≤ h 53 34 ∧ h 53 34 ≤ 999 := hI.1 53 _
  refine fz_putI kX11_image rfl rfl rfl ?_
  refine fz_nmu (S := [(53, 37), (53, 38), (78, 99999), (79, 99999)]) (h0 := h) (fz_Iv_up hI3 (by decide) (show (0 : Int) ≤ (h 53 34) by omega) (show ((h 53 34) : Int) ≤ 999 by omega)) (fz_fr_up hf4 rfl) (fun H9 hI10 hf11 e12 => ?_)
  have k13 : H9 53 37 = 1 := by rw [e12]; exact (fz_up_s (by decide)).trans k6
  have k14 : H9 53 38 = (h 53 34) := by rw [e12]; exact fz_up_e
  have t15 : H9 53 37 = H2 53 37 := by rw [e12]; exact fz_up_s (by decide)
  refine fz_iconst ⟨by decide, by decide⟩ kX11_image rfl ?_
  refine fz_istore_n (ls' := [(1, fz_i 0), (0, fz_r 53)]) kX11_image rfl (by decide) rfl ?_
  have lp21 : ∀ (n20 : Nat) (x16 : Int) (H17 : fz_H), fz_Iv H17 → fz_fr [(53, 37), (53, 38), (78, 99999), (79, 99999)] h H17 → (0 ≤ x16 ∧ x16 ≤ 4) → (H17 53 38 = h 53 34) → (H17 53 37 = 1) → (H17 78 = fz_mx (h 76) (h 78) x16) → (H17 79 = fz_mx (h 77) (h 79) x16) → (4 - x16).toNat < n20 → fz_R 0 mX11_image 15 [(1, fz_i x16), (0, fz_r 53)] [] H17 (qX11_image h) := by
    intro n20
    induction n20 with
    | zero => intro x16 H17 hI18 hf19 hv24 hv25 hv26 hv27 hv28 hm23; exact absurd hm23 (by omega)
    | succ n20 ih22 =>
      intro x16 H17 hI18 hf19 hv24 hv25 hv26 hv27 hv28 hm23
      refine fz_iload_n kX11_image rfl rfl ?_
      refine fz_iconst ⟨by decide, by decide⟩ kX11_image rfl ?_
      refine fz_icmp_ge (tgt := 50) kX11_image rfl (by decide) (fun c29 => ?_) (fun c29 => ?_)
      · refine fz_aload_n kX11_image rfl rfl ?_
        refine fz_getV (v := h 53 34) kX11_image rfl rfl (hf19 53 34 rfl) ?_
        exact fz_iret kX11_image rfl rfl (fun _ => ⟨hI18, hf19, _, rfl, (by omega), (by omega), (by exact ⟨fz_mx_e hv27 (by omega), by omega, by omega, hf19 53 34 rfl, funext fun s => hf19 76 s rfl⟩), (by exact fz_mx_e hv28 (by omega))⟩)
      · refine fz_aload_n kX11_image rfl rfl ?_
        refine fz_getR (t := 78) kX11_image rfl rfl ?_
        refine fz_iload_n kX11_image rfl rfl ?_
        refine fz_aload_n kX11_image rfl rfl ?_
        refine fz_getR (t := 76) kX11_image rfl rfl ?_
        refine fz_iload_n kX11_image rfl rfl ?_
        refine fz_ialdV (n := 4) (v := h 76 (x16.toNat)) kX11_image rfl rfl (by omega) (by omega) (hf19 76 _ rfl) ?_
        have b32 : 0 ≤ h 76 (x16.toNat) ∧ h 76 (x16.toNat) ≤ 7 := hI.1 76 _
        refine fz_iast (n := 4) kX11_image rfl rfl (by omega) (by omega) ?_
        refine fz_nmu (S := [(53, 37), (53, 38), (78, 99999), (79, 99999)]) (h0 := h) (fz_Iv_up hI18 (by decide) (show (0 : Int) ≤ (h 76 (x16.toNat)) by omega) (show ((h 76 (x16.toNat)) : Int) ≤ 7 by omega)) (fz_fr_up hf19 rfl) (fun H33 hI34 hf35 e36 => ?_)
        have t37 : H33 53 37 = H17 53 37 := by rw [e36]; exact fz_up_o (by decide)
        have t38 : H33 53 38 = H17 53 38 := by rw [e36]; exact fz_up_o (by decide)
        refine fz_aload_n kX11_image rfl rfl ?_
        refine fz_getR (t := 79) kX11_image rfl rfl ?_
        refine fz_iload_n kX11_image rfl rfl ?_
        refine fz_aload_n kX11_image rfl rfl ?_
        refine fz_getR (t := 77) kX11_image rfl rfl ?_
        refine fz_iload_n kX11_image rfl rfl ?_
        refine fz_ialdV (n := 4) (v := h 77 (x16.toNat)) kX11_image rfl rfl (by omega) (by omega) (hf35 77 _ rfl) ?_
        have b39 : (-2147483648) ≤ h 77 (x16.toNat) ∧ h 77 (x16.toNat) ≤ 2147483647 := hI.1 77 _
        refine fz_iast (n := 4) kX11_image rfl rfl (by omega) (by omega) ?_
        refine fz_nmu (S := [(53, 37), (53, 38), (78, 99999), (79, 99999)]) (h0 := h) (fz_Iv_up hI34 (by decide) (show ((-2147483648) : Int) ≤ (h 77 (x16.toNat)) by omega) (show ((h 77 (x16.toNat)) : Int) ≤ 2147483647 by omega)) (fz_fr_up hf35 rfl) (fun H40 hI41 hf42 e43 => ?_)
        have t44 : H40 53 37 = H33 53 37 := by rw [e43]; exact fz_up_o (by decide)
        have t45 : H40 53 38 = H33 53 38 := by rw [e43]; exact fz_up_o (by decide)
        refine fz_iincN (ls' := [(1, fz_i (x16 + 1)), (0, fz_r 53)]) kX11_image rfl (by decide) rfl (by omega) rfl ?_
        refine fz_goto (tgt := 15) kX11_image rfl (by decide) ?_
        exact ih22 (x16 + 1) H40 hI41 hf42 (by omega) (by omega) (by omega) (by rw [e43, fz_up_ne (by decide)]; exact fz_mx_st hv27 e36 rfl (by omega)) (fz_mx_st (by rw [e36, fz_up_ne (by decide)]; exact hv28) e43 rfl (by omega)) (by omega)
  exact lp21 _ 0 H9 hI10 hf11 (by omega) (by omega) (by omega) (by rw [e12, fz_up_ne (by decide), e5, fz_up_ne (by decide)]; exact fz_mx_0) (by rw [e12, fz_up_ne (by decide), e5, fz_up_ne (by decide)]; exact fz_mx_0) (Nat.lt_succ_self _)

abbrev qX11_back (h : fz_H) : fz_H → Option fz_V → Prop := fun h' r0 => fz_Iv h' ∧ fz_fr [(53, 34), (76, 99999), (77, 99999)] h h' ∧ ∃ r : Int, r0 = some (fz_i r) ∧ ((-5) ≤ r ∧ r ≤ 999) ∧ (fz_bkM h h' r) ∧ (fl_bdM h h' r)
set_option maxHeartbeats 1000000 in
set_option maxRecDepth 100000 in
theorem sX11_back (h : fz_H) (hI : fz_Iv h) : fz_R 0 mX11_back 0 [(0, fz_r 53)] [] h (qX11_back h) := by
  have hf : fz_fr [(53, 34), (76, 99999), (77, 99999)] h h := fz_fr_rf
  refine fz_aload_n kX11_back rfl rfl ?_
  refine fz_getV (v := h 53 37) kX11_back rfl rfl rfl ?_
  have b1 : 0 ≤ h 53 37 ∧ h 53 37 ≤ 1 := hI.1 53 _
  refine fz_if_ne (tgt := 10) kX11_back rfl (by decide) (fun c2 => ?_) (fun c2 => ?_)
  · refine fz_aload_n kX11_back rfl rfl ?_
    refine fz_aload_n kX11_back rfl rfl ?_
    refine fz_getV (v := h 53 38) kX11_back rfl rfl rfl ?_
    have b3 : 0 ≤ h 53 38 ∧ h 53 38 ≤ 999 := hI.1 53 _
    refine fz_putI kX11_back rfl rfl rfl ?_
    refine fz_nmu (S := [(53, 34), (76, 99999), (77, 99999)]) (h0 := h) (fz_Iv_up hI (by decide) (show (0 : Int) ≤ (h 53 38) by omega) (show ((h 53 38) : Int) ≤ 999 by omega)) (fz_fr_up hf rfl) (fun H4 hI5 hf6 e7 => ?_)
    have k8 : H4 53 34 = (h 53 38) := by rw [e7]; exact fz_up_e
    refine fz_iconst ⟨by decide, by decide⟩ kX11_back rfl ?_
    refine fz_istore_n (ls' := [(1, fz_i 0), (0, fz_r 53)]) kX11_back rfl (by decide) rfl ?_
    have lp14 : ∀ (n13 : Nat) (x9 : Int) (H10 : fz_H), fz_Iv H10 → fz_fr [(53, 34), (76, 99999), (77, 99999)] h H10 → (0 ≤ x9 ∧ x9 ≤ 4) → (H10 53 34 = h 53 38) → (H10 76 = fz_mx (h 78) (h 76) x9) → (H10 77 = fz_mx (h 79) (h 77) x9) → (4 - x9).toNat < n13 → fz_R 0 mX11_back 20 [(1, fz_i x9), (0, fz_r 53)] [] H10 (qX11_back h) := by
      intro n13
      induction n13 with
      | zero => intro x9 H10 hI11 hf12 hv17 hv18 hv19 hv20 hm16; exact absurd hm16 (by omega)
      | succ n13 ih15 =>
        intro x9 H10 hI11 hf12 hv17 hv18 hv19 hv20 hm16
        refine fz_iload_n kX11_back rfl rfl ?_
        refine fz_iconst ⟨by decide, by decide⟩ kX11_back rfl ?_
        refine fz_icmp_ge (tgt := 55) kX11_back rfl (by decide) (fun c21 => ?_) (fun c21 => ?_)
        · refine fz_aload_n kX11_back rfl rfl ?_
          obtain ⟨v22, e23⟩ : ∃ z, H10 53 (34) = z := ⟨_, rfl⟩
          refine fz_getV (v := v22) kX11_back rfl rfl e23 ?_
          have b24 : 0 ≤ v22 ∧ v22 ≤ 999 := by rw [← e23]; exact hI11.1 53 _
          exact fz_iret kX11_back rfl rfl (fun _ => ⟨hI11, hf12, _, rfl, (by omega), (by first | exact Or.inl ⟨by omega, by omega, rfl⟩ | exact Or.inr ⟨by omega, by omega, fz_mx_e hv19 (by omega), by omega, hf12 53 37 rfl, funext fun s => hf12 78 s rfl, hf12 53 38 rfl⟩), (by first | exact Or.inl ⟨by omega, rfl⟩ | exact Or.inr ⟨by omega, fz_mx_e hv20 (by omega)⟩)⟩)
        · refine fz_aload_n kX11_back rfl rfl ?_
          refine fz_getR (t := 76) kX11_back rfl rfl ?_
          refine fz_iload_n kX11_back rfl rfl ?_
          refine fz_aload_n kX11_back rfl rfl ?_
          refine fz_getR (t := 78) kX11_back rfl rfl ?_
          refine fz_iload_n kX11_back rfl rfl ?_
          refine fz_ialdV (n := 4) (v := h 78 (x9.toNat)) kX11_back rfl rfl (by omega) (by omega) (hf12 78 _ rfl) ?_
          have b27 : 0 ≤ h 78 (x9.toNat) ∧ h 78 (x9.toNat) ≤ 7 := hI.1 78 _
          refine fz_iast (n := 4) kX11_back rfl rfl (by omega) (by omega) ?_
          refine fz_nmu (S := [(53, 34), (76, 99999), (77, 99999)]) (h0 := h) (fz_Iv_up hI11 (by decide) (show (0 : Int) ≤ (h 78 (x9.toNat)) by omega) (show ((h 78 (x9.toNat)) : Int) ≤ 7 by omega)) (fz_fr_up hf12 rfl) (fun H28 hI29 hf30 e31 => ?_)
          have t32 : H28 53 34 = H10 53 34 := by rw [e31]; exact fz_up_o (by decide)
          refine fz_aload_n kX11_back rfl rfl ?_
          refine fz_getR (t := 77) kX11_back rfl rfl ?_
          refine fz_iload_n kX11_back rfl rfl ?_
          refine fz_aload_n kX11_back rfl rfl ?_
          refine fz_getR (t := 79) kX11_back rfl rfl ?_
          refine fz_iload_n kX11_back rfl rfl ?_
          refine fz_ialdV (n := 4) (v := h 79 (x9.toNat)) kX11_back rfl rfl (by omega) (by omega) (hf30 79 _ rfl) ?_
          have b33 : (-2147483648) ≤ h 79 (x9.toNat) ∧ h 79 (x9.toNat) ≤ 2147483647 := hI.1 79 _
          refine fz_iast (n := 4) kX11_back rfl rfl (by omega) (by omega) ?_
          refine fz_nmu (S := [(53, 34), (76, 99999), (77, 99999)]) (h0 := h) (fz_Iv_up hI29 (by decide) (show ((-2147483648) : Int) ≤ (h 79 (x9.toNat)) by omega) (show ((h 79 (x9.toNat)) : Int) ≤ 2147483647 by omega)) (fz_fr_up hf30 rfl) (fun H34 hI35 hf36 e37 => ?_)
          have t38 : H34 53 34 = H28 53 34 := by rw [e37]; exact fz_up_o (by decide)
          refine fz_iincN (ls' := [(1, fz_i (x9 + 1)), (0, fz_r 53)]) kX11_back rfl (by decide) rfl (by omega) rfl ?_
          refine fz_goto (tgt := 20) kX11_back rfl (by decide) ?_
          exact ih15 (x9 + 1) H34 hI35 hf36 (by omega) (by omega) (by rw [e37, fz_up_ne (by decide)]; exact fz_mx_st hv19 e31 rfl (by omega)) (fz_mx_st (by rw [e31, fz_up_ne (by decide)]; exact hv20) e37 rfl (by omega)) (by omega)
    exact lp14 _ 0 H4 hI5 hf6 (by omega) (by omega) (by rw [e7, fz_up_ne (by decide)]; exact fz_mx_0) (by rw [e7, fz_up_ne (by decide)]; exact fz_mx_0) (Nat.lt_succ_self _)
  · refine fz_bipush ⟨by decide, by decide⟩ kX11_back rfl ?_
    exact fz_iret kX11_back rfl rfl (fun _ => ⟨hI, hf, _, rfl, (by omega), (by first | exact Or.inl ⟨by omega, by omega, rfl⟩ | exact Or.inr ⟨by omega, by omega, fz_mx_e lost (by omega), by omega, hf 53 37 rfl, funext fun s => hf 78 s rfl, hf 53 38 rfl⟩), (by first | exact Or.inl ⟨by omega, rfl⟩ | exact Or.inr ⟨by omega, fz_mx_e lost (by omega)⟩)⟩)

abbrev qX11_above (h : fz_H) (k : Int) : fz_H → Option fz_V → Prop := fun h' r0 => h' = h ∧ ∃ r : Int, r0 = some (fz_i r) ∧ (0 ≤ r ∧ r ≤ 4) ∧ (1 ≤ k → r < k)
set_option maxHeartbeats 1000000 in
set_option maxRecDepth 100000 in
theorem sX11_above (h : fz_H) (hI : fz_Iv h) (k : Int) : fz_R 0 mX11_above 0 [(0, fz_i k)] [] h (qX11_above h k) := by
  refine fz_knowl (fun hk => ?_)
  have hr_k : -2147483648 ≤ k ∧ k < 2147483648 := hk _ (List.Mem.head _)
  clear hk
  refine fz_iload_n kX11_above rfl rfl ?_
  rcases (show k = 3 ∨ k = 4 ∨ k = 5 ∨ k = 6 ∨ k = 7 ∨ (k < 3 ∨ 7 < k) by omega) with c1 | c1 | c1 | c1 | c1 | c1
  · refine fz_tswC (j := 3) (tgt := 36) kX11_above rfl c1 (by decide) (by decide) rfl (by decide) ?_
    refine fz_iconst ⟨by decide, by decide⟩ kX11_above rfl ?_
    exact fz_iret kX11_above rfl rfl (fun _ => ⟨rfl, _, rfl, (by omega), (by omega)⟩)
  · refine fz_tswC (j := 4) (tgt := 38) kX11_above rfl c1 (by decide) (by decide) rfl (by decide) ?_
    refine fz_iconst ⟨by decide, by decide⟩ kX11_above rfl ?_
    exact fz_iret kX11_above rfl rfl (fun _ => ⟨rfl, _, rfl, (by omega), (by omega)⟩)
  · refine fz_tswC (j := 5) (tgt := 40) kX11_above rfl c1 (by decide) (by decide) rfl (by decide) ?_
    refine fz_iconst ⟨by decide, by decide⟩ kX11_above rfl ?_
    exact fz_iret kX11_above rfl rfl (fun _ => ⟨rfl, _, rfl, (by omega), (by omega)⟩)
  · refine fz_tswC (j := 6) (tgt := 44) kX11_above rfl c1 (by decide) (by decide) rfl (by decide) ?_
    refine fz_iconst ⟨by decide, by decide⟩ kX11_above rfl ?_
    exact fz_iret kX11_above rfl rfl (fun _ => ⟨rfl, _, rfl, (by omega), (by omega)⟩)
  · refine fz_tswC (j := 7) (tgt := 42) kX11_above rfl c1 (by decide) (by decide) rfl (by decide) ?_
    refine fz_iconst ⟨by decide, by decide⟩ kX11_above rfl ?_
    exact fz_iret kX11_above rfl rfl (fun _ => ⟨rfl, _, rfl, (by omega), (by omega)⟩)
  · refine fz_tswO (tgt := 44) kX11_above rfl c1 (by decide) ?_
    refine fz_iconst ⟨by decide, by decide⟩ kX11_above rfl ?_
    exact fz_iret kX11_above rfl rfl (fun _ => ⟨rfl, _, rfl, (by omega), (by omega)⟩)

abbrev qX11_body (h : fz_H) (k : Int) : fz_H → Option fz_V → Prop := fun h' r0 => fz_Iv h' ∧ fz_fr [(53, 44), (81, 99999)] h h' ∧ ∃ r : Int, r0 = some (fz_i r) ∧ ((-3) ≤ r ∧ r ≤ 49) ∧ (((0 ≤ k ∧ k ≤ 7) ∧ h 53 44 < 50 ∧ r = h 53 44 ∧ h' 53 44 = h 53 44 + 1) ∨ ((0 ≤ k ∧ k ≤ 7) ∧ 50 ≤ h 53 44 ∧ r = -3 ∧ h' 53 44 = h 53 44) ∨ (¬ (0 ≤ k ∧ k ≤ 7) ∧ r = -1 ∧ h' 53 44 = h 53 44)) ∧ (fz_bM h h' k)
set_option maxHeartbeats 1000000 in
set_option maxRecDepth 100000 in
theorem sX11_body (h : fz_H) (hI : fz_Iv h) (k : Int) : fz_R 1 mX11_body 0 [(0, fz_r 53), (1, fz_i k)] [] h (qX11_body h k) := by
  refine fz_knowl (fun hk => ?_)
  have hr_k : -2147483648 ≤ k ∧ k < 2147483648 := hk _ (List.Mem.tail _ (List.Mem.head _))
  clear hk
  have hf : fz_fr [(53, 44), (81, 99999)] h h := fz_fr_rf
  have b1 : 0 ≤ h 53 44 ∧ h 53 44 ≤ 50 := hI.1 53 _
  refine fz_iload_n kX11_body rfl rfl ?_
  refine fz_iconst ⟨by decide, by decide⟩ kX11_body rfl ?_
  refine fz_bipush ⟨by decide, by decide⟩ kX11_body rfl ?_
  refine fz_callS (d' := 0) (M' := mX11_within) (As := [fz_i k, fz_i 0, fz_i 7]) (st := []) kX11_body rfl rfl vX11_within rfl rfl (Nat.le_of_ble_eq_true rfl) (Nat.le_of_ble_eq_true rfl) (by decide) (sX11_within h hI k 0 7 ) (fun H2 r3 q4 o5 => ?_)
  obtain ⟨e6, y7, rfl, p8⟩ := q4
  subst H2
  clear o5
  rcases p8 with ⟨rfl, c9⟩ | ⟨rfl, c9⟩
  · refine fz_if_ne (tgt := 12) kX11_body rfl (by decide) (fun c10 => ?_) (fun c10 => ?_)
    · refine fz_aload_n kX11_body rfl rfl ?_
      refine fz_getV (v := h 53 44) kX11_body rfl rfl rfl ?_
      have b11 : 0 ≤ h 53 44 ∧ h 53 44 ≤ 50 := hI.1 53 _
      refine fz_bipush ⟨by decide, by decide⟩ kX11_body rfl ?_
      refine fz_icmp_ne (tgt := 24) kX11_body rfl (by decide) (fun c12 => ?_) (fun c12 => ?_)
      · refine fz_aload_n kX11_body rfl rfl ?_
        refine fz_getR (t := 81) kX11_body rfl rfl ?_
        refine fz_aload_n kX11_body rfl rfl ?_
        refine fz_getV (v := h 53 44) kX11_body rfl rfl rfl ?_
        refine fz_iload_n kX11_body rfl rfl ?_
        refine fz_iast (n := 50) kX11_body rfl rfl (by omega) (by omega) ?_
        refine fz_nmu (S := [(53, 44), (81, 99999)]) (h0 := h) (fz_Iv_up hI (by decide) (show (0 : Int) ≤ k by omega) (show (k : Int) ≤ 7 by omega)) (fz_fr_up hf rfl) (fun H13 hI14 hf15 e16 => ?_)
        have k17 : H13 53 44 = (h 53 44) := by rw [e16]; exact (fz_up_o (by decide)).trans rfl
        have t18 : H13 53 44 = h 53 44 := by rw [e16]; exact fz_up_o (by decide)
        refine fz_aload_n kX11_body rfl rfl ?_
        refine fz_dup rfl kX11_body rfl ?_
        refine fz_getV (v := (h 53 44)) kX11_body rfl rfl k17 ?_
        refine fz_dup_x1 rfl rfl kX11_body rfl ?_
        refine fz_iconst ⟨by decide, by decide⟩ kX11_body rfl ?_
        refine fz_iaddN kX11_body rfl (by omega) ?_
        refine fz_putI kX11_body rfl rfl rfl ?_
        refine fz_nmu (S := [(53, 44), (81, 99999)]) (h0 := h) (fz_Iv_up hI14 (by decide) (show (0 : Int) ≤ ((h 53 44) + 1) by omega) (show (((h 53 44) + 1) : Int) ≤ 50 by omega)) (fz_fr_up hf15 rfl) (fun H19 hI20 hf21 e22 => ?_)
        have k23 : H19 53 44 = ((h 53 44) + 1) := by rw [e22]; exact fz_up_e
        exact fz_iret kX11_body rfl rfl (fun _ => ⟨hI20, hf21, _, rfl, (by omega), (by omega), (by first | exact Or.inl ⟨by omega, fz_bu_in e16 e22 (by decide) rfl⟩ | exact Or.inl ⟨by omega, fz_bu_in2 e16 e22 (by decide) rfl⟩ | exact Or.inr ⟨by omega, rfl⟩)⟩)
      · refine fz_bipush ⟨by decide, by decide⟩ kX11_body rfl ?_
        exact fz_iret kX11_body rfl rfl (fun _ => ⟨hI, hf, _, rfl, (by omega), (by omega), (by first | exact Or.inl ⟨by omega, fz_bu_in lost lost (by decide) rfl⟩ | exact Or.inl ⟨by omega, fz_bu_in2 lost lost (by decide) rfl⟩ | exact Or.inr ⟨by omega, rfl⟩)⟩)
    · exfalso; omega
  · refine fz_if_ne (tgt := 12) kX11_body rfl (by decide) (fun c26 => ?_) (fun c26 => ?_)
    · exfalso; omega
    · refine fz_iconst ⟨by decide, by decide⟩ kX11_body rfl ?_
      exact fz_iret kX11_body rfl rfl (fun _ => ⟨hI, hf, _, rfl, (by omega), (by omega), (by first | exact Or.inl ⟨by omega, fz_bu_in lost lost (by decide) rfl⟩ | exact Or.inl ⟨by omega, fz_bu_in2 lost lost (by decide) rfl⟩ | exact Or.inr ⟨by omega, rfl⟩)⟩)

abbrev qX11_trace (h : fz_H) (i : Int) : fz_H → Option fz_V → Prop := fun h' r0 => h' = h ∧ ∃ r : Int, r0 = some (fz_i r) ∧ ((-2147483648) ≤ r ∧ r ≤ 2147483647) ∧ ((0 ≤ i ∧ i < 24 ∧ i < h 53 46 ∧ r = h 82 i.toNat) ∨ (¬ (0 ≤ i ∧ i < 24 ∧ i < h 53 46) ∧ r = -1))
set_option maxHeartbeats 1000000 in
set_option maxRecDepth 100000 in
theorem sX11_trace (h : fz_H) (hI : fz_Iv h) (i : Int) : fz_R 1 mX11_trace 0 [(0, fz_r 53), (1, fz_i i)] [] h (qX11_trace h i) := by
  refine fz_knowl (fun hk => ?_)
  have hr_i : -2147483648 ≤ i ∧ i < 2147483648 := hk _ (List.Mem.tail _ (List.Mem.head _))
  clear hk
  have b1 : 0 ≤ h 53 46 ∧ h 53 46 ≤ 1000 := hI.1 53 _
  refine fz_iload_n kX11_trace rfl rfl ?_
  refine fz_iconst ⟨by decide, by decide⟩ kX11_trace rfl ?_
  refine fz_bipush ⟨by decide, by decide⟩ kX11_trace rfl ?_
  refine fz_aload_n kX11_trace rfl rfl ?_
  refine fz_getV (v := h 53 46) kX11_trace rfl rfl rfl ?_
  have b2 : 0 ≤ h 53 46 ∧ h 53 46 ≤ 1000 := hI.1 53 _
  refine fz_min kX11_trace rfl rfl fz_sMn fz_iMm fz_cMn (by decide) (Nat.le_of_ble_eq_true rfl) ?_
  refine fz_iconst ⟨by decide, by decide⟩ kX11_trace rfl ?_
  refine fz_isubN kX11_trace rfl (by omega) ?_
  refine fz_callS (d' := 0) (M' := mX11_within) (As := [fz_i i, fz_i 0, fz_i ((min 24 (h 53 46)) - 1)]) (st := []) kX11_trace rfl rfl vX11_within rfl rfl (Nat.le_of_ble_eq_true rfl) (Nat.le_of_ble_eq_true rfl) (by decide) (sX11_within h hI i 0 ((min 24 (h 53 46)) - 1) ) (fun H3 r4 q5 o6 => ?_)
  obtain ⟨e7, y8, rfl, p9⟩ := q5
  subst H3
  clear o6
  rcases p9 with ⟨rfl, c10⟩ | ⟨rfl, c10⟩
  · refine fz_if_eq (tgt := 28) kX11_trace rfl (by decide) (fun c11 => ?_) (fun c11 => ?_)
    · exfalso; omega
    · refine fz_aload_n kX11_trace rfl rfl ?_
      refine fz_getR (t := 82) kX11_trace rfl rfl ?_
      refine fz_iload_n kX11_trace rfl rfl ?_
      refine fz_ialdV (n := 24) (v := h 82 (i.toNat)) kX11_trace rfl rfl (by omega) (by omega) rfl ?_
      have b12 : (-2147483648) ≤ h 82 (i.toNat) ∧ h 82 (i.toNat) ≤ 2147483647 := hI.1 82 _
      refine fz_goto (tgt := 29) kX11_trace rfl (by decide) ?_
      exact fz_iret kX11_trace rfl rfl (fun _ => ⟨rfl, _, rfl, (by omega), (by omega)⟩)
  · refine fz_if_eq (tgt := 28) kX11_trace rfl (by decide) (fun c13 => ?_) (fun c13 => ?_)
    · refine fz_iconst ⟨by decide, by decide⟩ kX11_trace rfl ?_
      exact fz_iret kX11_trace rfl rfl (fun _ => ⟨rfl, _, rfl, (by omega), (by omega)⟩)
    · exfalso; omega

abbrev qX11_keep (h : fz_H) (s b : Int) : fz_H → Option fz_V → Prop := fun h' r0 => fz_Iv h' ∧ fz_fr [(83, 99999), (84, 99999)] h h' ∧ fz_Xh h' ∧ ∃ r : Int, r0 = some (fz_i r) ∧ ((-1) ≤ r ∧ r ≤ 1) ∧ ((0 ≤ s ∧ s ≤ 5 ∧ -1 ≤ b ∧ b < h 53 44 ∧ r = 1) ∨ (¬ (0 ≤ s ∧ s ≤ 5 ∧ -1 ≤ b ∧ b < h 53 44) ∧ r = -1)) ∧ (fz_kM h h' s b)
set_option maxHeartbeats 1000000 in
set_option maxRecDepth 100000 in
theorem sX11_keep (h : fz_H) (hI : fz_Iv h) (s b : Int) (hXh : fz_Xh h) : fz_R 2 mX11_keep 0 [(0, fz_r 53), (1, fz_i s), (2, fz_i b)] [] h (qX11_keep h s b) := by
  refine fz_knowl (fun hk => ?_)
  have hr_s : -2147483648 ≤ s ∧ s < 2147483648 := hk _ (List.Mem.tail _ (List.Mem.head _))
  have hr_b : -2147483648 ≤ b ∧ b < 2147483648 := hk _ (List.Mem.tail _ (List.Mem.tail _ (List.Mem.head _)))
  clear hk
  have hf : fz_fr [(83, 99999), (84, 99999)] h h := fz_fr_rf
  have b1 : 0 ≤ h 53 44 ∧ h 53 44 ≤ 50 := hI.1 53 _
  refine fz_iload_n kX11_keep rfl rfl ?_
  refine fz_callS (d' := 1) (M' := mX11_isShelf) (As := [fz_i s]) (st := []) kX11_keep rfl rfl vX11_isShelf rfl rfl (Nat.le_of_ble_eq_true rfl) (Nat.le_of_ble_eq_true rfl) (by decide) (sX11_isShelf h hI s ) (fun H2 r3 q4 o5 => ?_)
  obtain ⟨e6, y7, rfl, p8⟩ := q4
  subst H2
  clear o5
  rcases p8 with ⟨rfl, c9⟩ | ⟨rfl, c9⟩
  · refine fz_if_eq (tgt := 21) kX11_keep rfl (by decide) (fun c10 => ?_) (fun c10 => ?_)
    · exfalso; omega
    · refine fz_iload_n kX11_keep rfl rfl ?_
      refine fz_iconst ⟨by decide, by decide⟩ kX11_keep rfl ?_
      refine fz_aload_n kX11_keep rfl rfl ?_
      refine fz_getV (v := h 53 44) kX11_keep rfl rfl rfl ?_
      have b11 : 0 ≤ h 53 44 ∧ h 53 44 ≤ 50 := hI.1 53 _
      refine fz_iconst ⟨by decide, by decide⟩ kX11_keep rfl ?_
      refine fz_isubN kX11_keep rfl (by omega) ?_
      refine fz_callS (d' := 0) (M' := mX11_within) (As := [fz_i b, fz_i (-1), fz_i ((h 53 44) - 1)]) (st := []) kX11_keep rfl rfl vX11_within rfl rfl (Nat.le_of_ble_eq_true rfl) (Nat.le_of_ble_eq_true rfl) (by decide) (sX11_within h hI b (-1) ((h 53 44) - 1) ) (fun H12 r13 q14 o15 => ?_)
      obtain ⟨e16, y17, rfl, p18⟩ := q14
      subst H12
      clear o15
      rcases p18 with ⟨rfl, c19⟩ | ⟨rfl, c19⟩
      · refine fz_if_ne (tgt := 23) kX11_keep rfl (by decide) (fun c20 => ?_) (fun c20 => ?_)
        · refine fz_aload_n kX11_keep rfl rfl ?_
          refine fz_getR (t := 83) kX11_keep rfl rfl ?_
          refine fz_iload_n kX11_keep rfl rfl ?_
          refine fz_iload_n kX11_keep rfl rfl ?_
          refine fz_if_ge (tgt := 36) kX11_keep rfl (by decide) (fun c21 => ?_) (fun c21 => ?_)
          · refine fz_bipush ⟨by decide, by decide⟩ kX11_keep rfl ?_
            refine fz_iload_n kX11_keep rfl rfl ?_
            refine fz_iaddN kX11_keep rfl (by omega) ?_
            refine fz_iast (n := 6) kX11_keep rfl rfl (by omega) (by omega) ?_
            refine fz_nmu (S := [(83, 99999), (84, 99999)]) (h0 := h) (fz_Iv_up hI (by decide) (show ((-1) : Int) ≤ (10 + b) by omega) (show ((10 + b) : Int) ≤ 59 by omega)) (fz_fr_up hf rfl) (fun H22 hI23 hf24 e25 => ?_)
            have hXh26 : fz_Xh H22 := by rw [e25]; exact fz_Xh_st hXh (by omega)
            refine fz_aload_n kX11_keep rfl rfl ?_
            refine fz_getR (t := 84) kX11_keep rfl rfl ?_
            refine fz_iload_n kX11_keep rfl rfl ?_
            refine fz_iconst ⟨by decide, by decide⟩ kX11_keep rfl ?_
            refine fz_iast (n := 6) kX11_keep rfl rfl (by omega) (by omega) ?_
            refine fz_nmu (S := [(83, 99999), (84, 99999)]) (h0 := h) (fz_Iv_up hI23 (by decide) (show (0 : Int) ≤ 0 by decide) (show (0 : Int) ≤ 60 by decide)) (fz_fr_up hf24 rfl) (fun H28 hI29 hf30 e31 => ?_)
            have hXh32 : fz_Xh H28 := fz_Xh_eq (by rw [e31]; exact fz_up_ne (by decide)) hXh26
            refine fz_iconst ⟨by decide, by decide⟩ kX11_keep rfl ?_
            exact fz_iret kX11_keep rfl rfl (fun _ => ⟨hI29, hf30, hXh32, _, rfl, (by omega), (by omega), (by first | exact fz_kM_in e25 e31 (by omega) (by omega) | exact Or.inr ⟨by omega, rfl⟩)⟩)
          · refine fz_iconst ⟨by decide, by decide⟩ kX11_keep rfl ?_
            refine fz_goto (tgt := 40) kX11_keep rfl (by decide) ?_
            refine fz_iast (n := 6) kX11_keep rfl rfl (by omega) (by omega) ?_
            refine fz_nmu (S := [(83, 99999), (84, 99999)]) (h0 := h) (fz_Iv_up hI (by decide) (show ((-1) : Int) ≤ (-1) by decide) (show ((-1) : Int) ≤ 59 by decide)) (fz_fr_up hf rfl) (fun H34 hI35 hf36 e37 => ?_)
            have hXh38 : fz_Xh H34 := by rw [e37]; exact fz_Xh_st hXh (by omega)
            refine fz_aload_n kX11_keep rfl rfl ?_
            refine fz_getR (t := 84) kX11_keep rfl rfl ?_
            refine fz_iload_n kX11_keep rfl rfl ?_
            refine fz_iconst ⟨by decide, by decide⟩ kX11_keep rfl ?_
            refine fz_iast (n := 6) kX11_keep rfl rfl (by omega) (by omega) ?_
            refine fz_nmu (S := [(83, 99999), (84, 99999)]) (h0 := h) (fz_Iv_up hI35 (by decide) (show (0 : Int) ≤ 0 by decide) (show (0 : Int) ≤ 60 by decide)) (fz_fr_up hf36 rfl) (fun H40 hI41 hf42 e43 => ?_)
            have hXh44 : fz_Xh H40 := fz_Xh_eq (by rw [e43]; exact fz_up_ne (by decide)) hXh38
            refine fz_iconst ⟨by decide, by decide⟩ kX11_keep rfl ?_
            exact fz_iret kX11_keep rfl rfl (fun _ => ⟨hI41, hf42, hXh44, _, rfl, (by omega), (by omega), (by first | exact fz_kM_in e37 e43 (by omega) (by omega) | exact Or.inr ⟨by omega, rfl⟩)⟩)
        · exfalso; omega
      · refine fz_if_ne (tgt := 23) kX11_keep rfl (by decide) (fun c46 => ?_) (fun c46 => ?_)
        · exfalso; omega
        · refine fz_iconst ⟨by decide, by decide⟩ kX11_keep rfl ?_
          exact fz_iret kX11_keep rfl rfl (fun _ => ⟨hI, hf, hXh, _, rfl, (by omega), (by omega), (by first | exact fz_kM_in lost lost (by omega) (by omega) | exact Or.inr ⟨by omega, rfl⟩)⟩)
  · refine fz_if_eq (tgt := 21) kX11_keep rfl (by decide) (fun c48 => ?_) (fun c48 => ?_)
    · refine fz_iconst ⟨by decide, by decide⟩ kX11_keep rfl ?_
      exact fz_iret kX11_keep rfl rfl (fun _ => ⟨hI, hf, hXh, _, rfl, (by omega), (by omega), (by first | exact fz_kM_in lost lost (by omega) (by omega) | exact Or.inr ⟨by omega, rfl⟩)⟩)
    · exfalso; omega

abbrev qX11_row (h : fz_H) (s so n : Int) : fz_H → Option fz_V → Prop := fun h' r0 => fz_Iv h' ∧ fz_fr [(83, 99999), (84, 99999), (85, 99999)] h h' ∧ fz_Xh h' ∧ ∃ r : Int, r0 = some (fz_i r) ∧ ((-14) ≤ r ∧ r ≤ 1) ∧ ((0 ≤ s ∧ s ≤ 5 ∧ 0 ≤ so ∧ so ≤ 4 ∧ n ≤ 60 ∧ n < 0 ∧ r = -14) ∨ (0 ≤ s ∧ s ≤ 5 ∧ 0 ≤ so ∧ so ≤ 4 ∧ n ≤ 60 ∧ 0 ≤ n ∧ r = 1) ∨ (¬ (0 ≤ s ∧ s ≤ 5 ∧ 0 ≤ so ∧ so ≤ 4 ∧ n ≤ 60) ∧ r = -1)) ∧ (fz_rM h h' s so n)
set_option maxHeartbeats 1000000 in
set_option maxRecDepth 100000 in
theorem sX11_row (h : fz_H) (hI : fz_Iv h) (s so n : Int) (hXh : fz_Xh h) : fz_R 2 mX11_row 0 [(0, fz_r 53), (1, fz_i s), (2, fz_i so), (3, fz_i n)] [] h (qX11_row h s so n) := by
  refine fz_knowl (fun hk => ?_)
  have hr_s : -2147483648 ≤ s ∧ s < 2147483648 := hk _ (List.Mem.tail _ (List.Mem.head _))
  have hr_so : -2147483648 ≤ so ∧ so < 2147483648 := hk _ (List.Mem.tail _ (List.Mem.tail _ (List.Mem.head _)))
  have hr_n : -2147483648 ≤ n ∧ n < 2147483648 := hk _ (List.Mem.tail _ (List.Mem.tail _ (List.Mem.tail _ (List.Mem.head _))))
  clear hk
  have hf : fz_fr [(83, 99999), (84, 99999), (85, 99999)] h h := fz_fr_rf
  refine fz_iload_n kX11_row rfl rfl ?_
  refine fz_callS (d' := 1) (M' := mX11_isShelf) (As := [fz_i s]) (st := []) kX11_row rfl rfl vX11_isShelf rfl rfl (Nat.le_of_ble_eq_true rfl) (Nat.le_of_ble_eq_true rfl) (by decide) (sX11_isShelf h hI s ) (fun H1 r2 q3 o4 => ?_)
  obtain ⟨e5, y6, rfl, p7⟩ := q3
  subst H1
  clear o4
  rcases p7 with ⟨rfl, c8⟩ | ⟨rfl, c8⟩
  · refine fz_if_eq (tgt := 22) kX11_row rfl (by decide) (fun c9 => ?_) (fun c9 => ?_)
    · exfalso; omega
    · refine fz_iload_n kX11_row rfl rfl ?_
      refine fz_iconst ⟨by decide, by decide⟩ kX11_row rfl ?_
      refine fz_iconst ⟨by decide, by decide⟩ kX11_row rfl ?_
      refine fz_callS (d' := 0) (M' := mX11_within) (As := [fz_i so, fz_i 0, fz_i 4]) (st := []) kX11_row rfl rfl vX11_within rfl rfl (Nat.le_of_ble_eq_true rfl) (Nat.le_of_ble_eq_true rfl) (by decide) (sX11_within h hI so 0 4 ) (fun H10 r11 q12 o13 => ?_)
      obtain ⟨e14, y15, rfl, p16⟩ := q12
      subst H10
      clear o13
      rcases p16 with ⟨rfl, c17⟩ | ⟨rfl, c17⟩
      · refine fz_if_eq (tgt := 22) kX11_row rfl (by decide) (fun c18 => ?_) (fun c18 => ?_)
        · exfalso; omega
        · refine fz_iload_n kX11_row rfl rfl ?_
          refine fz_bipush ⟨by decide, by decide⟩ kX11_row rfl ?_
          refine fz_icmp_le (tgt := 24) kX11_row rfl (by decide) (fun c19 => ?_) (fun c19 => ?_)
          · refine fz_iload_n kX11_row rfl rfl ?_
            refine fz_if_ge (tgt := 31) kX11_row rfl (by decide) (fun c20 => ?_) (fun c20 => ?_)
            · refine fz_aload_n kX11_row rfl rfl ?_
              refine fz_getR (t := 83) kX11_row rfl rfl ?_
              refine fz_iload_n kX11_row rfl rfl ?_
              refine fz_iload_n kX11_row rfl rfl ?_
              refine fz_iast (n := 6) kX11_row rfl rfl (by omega) (by omega) ?_
              refine fz_nmu (S := [(83, 99999), (84, 99999), (85, 99999)]) (h0 := h) (fz_Iv_up hI (by decide) (show ((-1) : Int) ≤ so by omega) (show (so : Int) ≤ 59 by omega)) (fz_fr_up hf rfl) (fun H21 hI22 hf23 e24 => ?_)
              have hXh25 : fz_Xh H21 := by rw [e24]; exact fz_Xh_st hXh (by omega)
              refine fz_aload_n kX11_row rfl rfl ?_
              refine fz_getR (t := 84) kX11_row rfl rfl ?_
              refine fz_iload_n kX11_row rfl rfl ?_
              refine fz_iload_n kX11_row rfl rfl ?_
              refine fz_iast (n := 6) kX11_row rfl rfl (by omega) (by omega) ?_
              refine fz_nmu (S := [(83, 99999), (84, 99999), (85, 99999)]) (h0 := h) (fz_Iv_up hI22 (by decide) (show (0 : Int) ≤ n by omega) (show (n : Int) ≤ 60 by omega)) (fz_fr_up hf23 rfl) (fun H27 hI28 hf29 e30 => ?_)
              have hXh31 : fz_Xh H27 := fz_Xh_eq (by rw [e30]; exact fz_up_ne (by decide)) hXh25
              refine fz_iconst ⟨by decide, by decide⟩ kX11_row rfl ?_
              refine fz_istore (ls' := [(4, fz_i 0), (0, fz_r 53), (1, fz_i s), (2, fz_i so), (3, fz_i n)]) kX11_row rfl (by decide) rfl ?_
              have lp38 : ∀ (n37 : Nat) (x32 : Int) (H34 : fz_H), fz_Iv H34 → fz_fr [(83, 99999), (84, 99999), (85, 99999)] h H34 → fz_Xh H34 → (0 ≤ x32 ∧ x32 ≤ 60) → (H34 = fz_fill (fz_up (fz_up h 83 s.toNat so) 84 s.toNat n) 85 (60 * s).toNat (60 * s + x32).toNat 0) → (60 - x32).toNat < n37 → fz_R 2 mX11_row 48 [(4, fz_i x32), (0, fz_r 53), (1, fz_i s), (2, fz_i so), (3, fz_i n)] [] H34 (qX11_row h s so n) := by
                intro n37
                induction n37 with
                | zero => intro x32 H34 hI35 hf36 hXh33 hv41 hv42 hm40; exact absurd hm40 (by omega)
                | succ n37 ih39 =>
                  intro x32 H34 hI35 hf36 hXh33 hv41 hv42 hm40
                  refine fz_iload kX11_row rfl rfl ?_
                  refine fz_bipush ⟨by decide, by decide⟩ kX11_row rfl ?_
                  refine fz_icmp_ge (tgt := 74) kX11_row rfl (by decide) (fun c43 => ?_) (fun c43 => ?_)
                  · refine fz_iconst ⟨by decide, by decide⟩ kX11_row rfl ?_
                    exact fz_iret kX11_row rfl rfl (fun _ => ⟨hI35, hf36, hXh33, _, rfl, (by omega), (by omega), (by first | exact Or.inl ⟨by omega, fz_fill_e hv42 (by omega)⟩ | exact Or.inr ⟨by omega, rfl⟩)⟩)
                  · refine fz_aload_n kX11_row rfl rfl ?_
                    refine fz_getR (t := 85) kX11_row rfl rfl ?_
                    refine fz_bipush ⟨by decide, by decide⟩ kX11_row rfl ?_
                    refine fz_iload_n kX11_row rfl rfl ?_
                    refine fz_imulN kX11_row rfl (by omega) ?_
                    refine fz_iload kX11_row rfl rfl ?_
                    refine fz_iaddN kX11_row rfl (by omega) ?_
                    refine fz_lconst (x := 0) ⟨by decide, by decide⟩ rfl kX11_row rfl ?_
                    refine fz_last (n := 360) kX11_row rfl rfl (by omega) (by omega) ?_
                    refine fz_nmu (S := [(83, 99999), (84, 99999), (85, 99999)]) (h0 := h) (fz_Iv_up hI35 (by decide) (show ((-9223372036854775808) : Int) ≤ 0 by decide) (show (0 : Int) ≤ 9223372036854775807 by decide)) (fz_fr_up hf36 rfl) (fun H45 hI46 hf47 e48 => ?_)
                    have hXh49 : fz_Xh H45 := fz_Xh_eq (by rw [e48]; exact fz_up_ne (by decide)) hXh33
                    refine fz_iincN (ls' := [(4, fz_i (x32 + 1)), (0, fz_r 53), (1, fz_i s), (2, fz_i so), (3, fz_i n)]) kX11_row rfl (by decide) rfl (by omega) rfl ?_
                    refine fz_goto (tgt := 48) kX11_row rfl (by decide) ?_
                    exact ih39 (x32 + 1) H45 hI46 hf47 hXh49 (by omega) (fz_fill_st hv42 e48 (by omega) (by omega) (by omega) (by omega)) (by omega)
              exact lp38 _ 0 H27 hI28 hf29 hXh31 (by omega) (by rw [e30, e24, show (60 * s + 0 : Int) = 60 * s by omega]; exact fz_fill_0.symm) (Nat.lt_succ_self _)
            · refine fz_bipush ⟨by decide, by decide⟩ kX11_row rfl ?_
              exact fz_iret kX11_row rfl rfl (fun _ => ⟨hI, hf, hXh, _, rfl, (by omega), (by omega), (by first | exact Or.inl ⟨by omega, fz_fill_e lost (by omega)⟩ | exact Or.inr ⟨by omega, rfl⟩)⟩)
          · refine fz_iconst ⟨by decide, by decide⟩ kX11_row rfl ?_
            exact fz_iret kX11_row rfl rfl (fun _ => ⟨hI, hf, hXh, _, rfl, (by omega), (by omega), (by first | exact Or.inl ⟨by omega, fz_fill_e lost (by omega)⟩ | exact Or.inr ⟨by omega, rfl⟩)⟩)
      · refine fz_if_eq (tgt := 22) kX11_row rfl (by decide) (fun c54 => ?_) (fun c54 => ?_)
        · refine fz_iconst ⟨by decide, by decide⟩ kX11_row rfl ?_
          exact fz_iret kX11_row rfl rfl (fun _ => ⟨hI, hf, hXh, _, rfl, (by omega), (by omega), (by first | exact Or.inl ⟨by omega, fz_fill_e lost (by omega)⟩ | exact Or.inr ⟨by omega, rfl⟩)⟩)
        · exfalso; omega
  · refine fz_if_eq (tgt := 22) kX11_row rfl (by decide) (fun c56 => ?_) (fun c56 => ?_)
    · refine fz_iconst ⟨by decide, by decide⟩ kX11_row rfl ?_
      exact fz_iret kX11_row rfl rfl (fun _ => ⟨hI, hf, hXh, _, rfl, (by omega), (by omega), (by first | exact Or.inl ⟨by omega, fz_fill_e lost (by omega)⟩ | exact Or.inr ⟨by omega, rfl⟩)⟩)
    · exfalso; omega

abbrev qX11_isRow (h : fz_H) (s : Int) : fz_H → Option fz_V → Prop := fun h' r0 => h' = h ∧ ∃ r : Int, r0 = some (fz_i r) ∧ ((r = 1 ∧ (0 ≤ h 83 s.toNat ∧ h 83 s.toNat ≤ 4)) ∨ (r = 0 ∧ ¬ (0 ≤ h 83 s.toNat ∧ h 83 s.toNat ≤ 4)))
set_option maxHeartbeats 1000000 in
set_option maxRecDepth 100000 in
theorem sX11_isRow (h : fz_H) (hI : fz_Iv h) (s : Int) (hp0 : 0 ≤ s ∧ s ≤ 5) : fz_R 1 mX11_isRow 0 [(0, fz_r 53), (1, fz_i s)] [] h (qX11_isRow h s) := by
  refine fz_knowl (fun hk => ?_)
  have hr_s : -2147483648 ≤ s ∧ s < 2147483648 := hk _ (List.Mem.tail _ (List.Mem.head _))
  clear hk
  refine fz_aload_n kX11_isRow rfl rfl ?_
  refine fz_getR (t := 83) kX11_isRow rfl rfl ?_
  refine fz_iload_n kX11_isRow rfl rfl ?_
  refine fz_ialdV (n := 6) (v := h 83 (s.toNat)) kX11_isRow rfl rfl (by omega) (by omega) rfl ?_
  have b1 : (-1) ≤ h 83 (s.toNat) ∧ h 83 (s.toNat) ≤ 59 := hI.1 83 _
  refine fz_iconst ⟨by decide, by decide⟩ kX11_isRow rfl ?_
  refine fz_iconst ⟨by decide, by decide⟩ kX11_isRow rfl ?_
  refine fz_callS (d' := 0) (M' := mX11_within) (As := [fz_i (h 83 (s.toNat)), fz_i 0, fz_i 4]) (st := []) kX11_isRow rfl rfl vX11_within rfl rfl (Nat.le_of_ble_eq_true rfl) (Nat.le_of_ble_eq_true rfl) (by decide) (sX11_within h hI (h 83 (s.toNat)) 0 4 ) (fun H2 r3 q4 o5 => ?_)
  obtain ⟨e6, y7, rfl, p8⟩ := q4
  subst H2
  clear o5
  rcases p8 with ⟨rfl, c9⟩ | ⟨rfl, c9⟩
  · exact fz_zret kX11_isRow rfl rfl (by omega) ⟨rfl, _, rfl, Or.inl ⟨rfl, by omega⟩⟩
  · exact fz_zret kX11_isRow rfl rfl (by omega) ⟨rfl, _, rfl, Or.inr ⟨rfl, by omega⟩⟩

abbrev qX11_kept (h : fz_H) (so v : Int) : fz_H → Option fz_V → Prop := fun h' r0 => h' = h ∧ ∃ r : Int, r0 = some (fz_l r) ∧ ((-9223372036854775808) ≤ r ∧ r ≤ 9223372036854775807) ∧ (r = fz_lb so v)
set_option maxHeartbeats 1000000 in
set_option maxRecDepth 100000 in
theorem sX11_kept (h : fz_H) (hI : fz_Iv h) (so v : Int) (hp0 : 0 ≤ so ∧ so ≤ 4) : fz_R 0 mX11_kept 0 [(0, fz_i so), (1, fz_l v)] [] h (qX11_kept h so v) := by
  refine fz_knowl (fun hk => ?_)
  have hr_so : -2147483648 ≤ so ∧ so < 2147483648 := hk _ (List.Mem.head _)
  have hr_v : -9223372036854775808 ≤ v ∧ v < 9223372036854775808 := hk _ (List.Mem.tail _ (List.Mem.head _))
  clear hk
  refine fz_iload_n kX11_kept rfl rfl ?_
  rcases (show so = 0 ∨ so = 1 ∨ so = 2 ∨ so = 3 ∨ (so < 0 ∨ 3 < so) by omega) with c1 | c1 | c1 | c1 | c1
  · refine fz_tswC (j := 0) (tgt := 32) kX11_kept rfl c1 (by decide) (by decide) rfl (by decide) ?_
    refine fz_lload_n kX11_kept rfl rfl ?_
    refine fz_l2i kX11_kept rfl ?_
    have b2 : -2147483648 ≤ (fz_w v) ∧ (fz_w v) < 2147483648 := fz_w_b _
    refine fz_ci2b kX11_kept rfl ?_
    have b3 := fz_i2b_b (fz_w v)
    refine fz_i2l kX11_kept rfl ?_
    exact fz_lret kX11_kept rfl rfl (fun _ => ⟨rfl, _, rfl, (by omega), (by first | exact fz_lb_0 (by omega) | exact fz_lb_1 (by omega) | exact fz_lb_2 (by omega) | exact fz_lb_3 (by omega) | exact fz_lb_4 (by omega) (by omega) | exact fz_lb_5 (by omega) (by omega))⟩)
  · refine fz_tswC (j := 1) (tgt := 37) kX11_kept rfl c1 (by decide) (by decide) rfl (by decide) ?_
    refine fz_lload_n kX11_kept rfl rfl ?_
    refine fz_l2i kX11_kept rfl ?_
    have b5 : -2147483648 ≤ (fz_w v) ∧ (fz_w v) < 2147483648 := fz_w_b _
    refine fz_ci2s kX11_kept rfl ?_
    have b6 := fz_i2s_b (fz_w v)
    refine fz_i2l kX11_kept rfl ?_
    exact fz_lret kX11_kept rfl rfl (fun _ => ⟨rfl, _, rfl, (by omega), (by first | exact fz_lb_0 (by omega) | exact fz_lb_1 (by omega) | exact fz_lb_2 (by omega) | exact fz_lb_3 (by omega) | exact fz_lb_4 (by omega) (by omega) | exact fz_lb_5 (by omega) (by omega))⟩)
  · refine fz_tswC (j := 2) (tgt := 42) kX11_kept rfl c1 (by decide) (by decide) rfl (by decide) ?_
    refine fz_lload_n kX11_kept rfl rfl ?_
    refine fz_l2i kX11_kept rfl ?_
    have b8 : -2147483648 ≤ (fz_w v) ∧ (fz_w v) < 2147483648 := fz_w_b _
    refine fz_i2l kX11_kept rfl ?_
    exact fz_lret kX11_kept rfl rfl (fun _ => ⟨rfl, _, rfl, (by omega), (by first | exact fz_lb_0 (by omega) | exact fz_lb_1 (by omega) | exact fz_lb_2 (by omega) | exact fz_lb_3 (by omega) | exact fz_lb_4 (by omega) (by omega) | exact fz_lb_5 (by omega) (by omega))⟩)
  · refine fz_tswC (j := 3) (tgt := 46) kX11_kept rfl c1 (by decide) (by decide) rfl (by decide) ?_
    refine fz_lload_n kX11_kept rfl rfl ?_
    exact fz_lret kX11_kept rfl rfl (fun _ => ⟨rfl, _, rfl, (by omega), (by first | exact fz_lb_0 (by omega) | exact fz_lb_1 (by omega) | exact fz_lb_2 (by omega) | exact fz_lb_3 (by omega) | exact fz_lb_4 (by omega) (by omega) | exact fz_lb_5 (by omega) (by omega))⟩)
  · refine fz_tswO (tgt := 48) kX11_kept rfl c1 (by decide) ?_
    refine fz_lload_n kX11_kept rfl rfl ?_
    refine fz_lconst (x := 0) ⟨by decide, by decide⟩ rfl kX11_kept rfl ?_
    refine fz_lcmp kX11_kept rfl ?_
    have b11 := fz_cmp_c v 0
    refine fz_if_eq (tgt := 58) kX11_kept rfl (by decide) (fun c12 => ?_) (fun c12 => ?_)
    · refine fz_lconst (x := 0) ⟨by decide, by decide⟩ rfl kX11_kept rfl ?_
      exact fz_lret kX11_kept rfl rfl (fun _ => ⟨rfl, _, rfl, (by omega), (by first | exact fz_lb_0 (by omega) | exact fz_lb_1 (by omega) | exact fz_lb_2 (by omega) | exact fz_lb_3 (by omega) | exact fz_lb_4 (by omega) (by omega) | exact fz_lb_5 (by omega) (by omega))⟩)
    · refine fz_lconst (x := 1) ⟨by decide, by decide⟩ rfl kX11_kept rfl ?_
      refine fz_goto (tgt := 59) kX11_kept rfl (by decide) ?_
      exact fz_lret kX11_kept rfl rfl (fun _ => ⟨rfl, _, rfl, (by omega), (by first | exact fz_lb_0 (by omega) | exact fz_lb_1 (by omega) | exact fz_lb_2 (by omega) | exact fz_lb_3 (by omega) | exact fz_lb_4 (by omega) (by omega) | exact fz_lb_5 (by omega) (by omega))⟩)

abbrev qX11_put (h : fz_H) (s i v : Int) : fz_H → Option fz_V → Prop := fun h' r0 => fz_Iv h' ∧ fz_fr [(85, 99999)] h h' ∧ ∃ r : Int, r0 = some (fz_i r) ∧ ((-13) ≤ r ∧ r ≤ 1) ∧ ((¬ (0 ≤ s ∧ s ≤ 5) ∧ r = -1) ∨ (0 ≤ s ∧ s ≤ 5 ∧ h 83 s.toNat = -1 ∧ r = -11) ∨ (0 ≤ s ∧ s ≤ 5 ∧ h 83 s.toNat ≠ -1 ∧ ¬ (0 ≤ h 83 s.toNat ∧ h 83 s.toNat ≤ 4) ∧ r = -12) ∨ (0 ≤ s ∧ s ≤ 5 ∧ (0 ≤ h 83 s.toNat ∧ h 83 s.toNat ≤ 4) ∧ ¬ (0 ≤ i ∧ i < h 84 s.toNat) ∧ r = -13) ∨ (0 ≤ s ∧ s ≤ 5 ∧ (0 ≤ h 83 s.toNat ∧ h 83 s.toNat ≤ 4) ∧ 0 ≤ i ∧ i < h 84 s.toNat ∧ r = 1)) ∧ (fz_pM h h' s i v)
set_option maxHeartbeats 1000000 in
set_option maxRecDepth 100000 in
theorem sX11_put (h : fz_H) (hI : fz_Iv h) (s i v : Int) : fz_R 2 mX11_put 0 [(0, fz_r 53), (1, fz_i s), (2, fz_i i), (3, fz_l v)] [] h (qX11_put h s i v) := by
  refine fz_knowl (fun hk => ?_)
  have hr_s : -2147483648 ≤ s ∧ s < 2147483648 := hk _ (List.Mem.tail _ (List.Mem.head _))
  have hr_i : -2147483648 ≤ i ∧ i < 2147483648 := hk _ (List.Mem.tail _ (List.Mem.tail _ (List.Mem.head _)))
  have hr_v : -9223372036854775808 ≤ v ∧ v < 9223372036854775808 := hk _ (List.Mem.tail _ (List.Mem.tail _ (List.Mem.tail _ (List.Mem.head _))))
  clear hk
  have hf : fz_fr [(85, 99999)] h h := fz_fr_rf
  refine fz_iload_n kX11_put rfl rfl ?_
  refine fz_callS (d' := 1) (M' := mX11_isShelf) (As := [fz_i s]) (st := []) kX11_put rfl rfl vX11_isShelf rfl rfl (Nat.le_of_ble_eq_true rfl) (Nat.le_of_ble_eq_true rfl) (by decide) (sX11_isShelf h hI s ) (fun H1 r2 q3 o4 => ?_)
  obtain ⟨e5, y6, rfl, p7⟩ := q3
  subst H1
  clear o4
  rcases p7 with ⟨rfl, c8⟩ | ⟨rfl, c8⟩
  · refine fz_if_ne (tgt := 9) kX11_put rfl (by decide) (fun c9 => ?_) (fun c9 => ?_)
    · refine fz_aload_n kX11_put rfl rfl ?_
      refine fz_getR (t := 83) kX11_put rfl rfl ?_
      refine fz_iload_n kX11_put rfl rfl ?_
      refine fz_ialdV (n := 6) (v := h 83 (s.toNat)) kX11_put rfl rfl (by omega) (by omega) rfl ?_
      have b10 : (-1) ≤ h 83 (s.toNat) ∧ h 83 (s.toNat) ≤ 59 := hI.1 83 _
      refine fz_iconst ⟨by decide, by decide⟩ kX11_put rfl ?_
      refine fz_icmp_ne (tgt := 22) kX11_put rfl (by decide) (fun c11 => ?_) (fun c11 => ?_)
      · refine fz_aload_n kX11_put rfl rfl ?_
        refine fz_iload_n kX11_put rfl rfl ?_
        refine fz_callV (d' := 1) (M' := mX11_isRow) (As := [fz_i s]) (st := []) kX11_put rfl rfl vX11_isRow rfl rfl rfl rfl (Nat.le_of_ble_eq_true rfl) (Nat.le_of_ble_eq_true rfl) (by decide) (sX11_isRow h hI s (by omega)) (fun H12 r13 q14 o15 => ?_)
        obtain ⟨e16, y17, rfl, p18⟩ := q14
        subst H12
        clear o15
        rcases p18 with ⟨rfl, c19⟩ | ⟨rfl, c19⟩
        · refine fz_if_ne (tgt := 33) kX11_put rfl (by decide) (fun c20 => ?_) (fun c20 => ?_)
          · refine fz_iload_n kX11_put rfl rfl ?_
            refine fz_iconst ⟨by decide, by decide⟩ kX11_put rfl ?_
            refine fz_aload_n kX11_put rfl rfl ?_
            refine fz_getR (t := 84) kX11_put rfl rfl ?_
            refine fz_iload_n kX11_put rfl rfl ?_
            refine fz_ialdV (n := 6) (v := h 84 (s.toNat)) kX11_put rfl rfl (by omega) (by omega) rfl ?_
            have b21 : 0 ≤ h 84 (s.toNat) ∧ h 84 (s.toNat) ≤ 60 := hI.1 84 _
            refine fz_iconst ⟨by decide, by decide⟩ kX11_put rfl ?_
            refine fz_isubN kX11_put rfl (by omega) ?_
            refine fz_callS (d' := 0) (M' := mX11_within) (As := [fz_i i, fz_i 0, fz_i ((h 84 (s.toNat)) - 1)]) (st := []) kX11_put rfl rfl vX11_within rfl rfl (Nat.le_of_ble_eq_true rfl) (Nat.le_of_ble_eq_true rfl) (by decide) (sX11_within h hI i 0 ((h 84 (s.toNat)) - 1) ) (fun H22 r23 q24 o25 => ?_)
            obtain ⟨e26, y27, rfl, p28⟩ := q24
            subst H22
            clear o25
            rcases p28 with ⟨rfl, c29⟩ | ⟨rfl, c29⟩
            · refine fz_if_ne (tgt := 52) kX11_put rfl (by decide) (fun c30 => ?_) (fun c30 => ?_)
              · refine fz_aload_n kX11_put rfl rfl ?_
                refine fz_getR (t := 85) kX11_put rfl rfl ?_
                refine fz_bipush ⟨by decide, by decide⟩ kX11_put rfl ?_
                refine fz_iload_n kX11_put rfl rfl ?_
                refine fz_imulN kX11_put rfl (by omega) ?_
                refine fz_iload_n kX11_put rfl rfl ?_
                refine fz_iaddN kX11_put rfl (by omega) ?_
                refine fz_aload_n kX11_put rfl rfl ?_
                refine fz_getR (t := 83) kX11_put rfl rfl ?_
                refine fz_iload_n kX11_put rfl rfl ?_
                refine fz_ialdV (n := 6) (v := h 83 (s.toNat)) kX11_put rfl rfl (by omega) (by omega) rfl ?_
                refine fz_lload_n kX11_put rfl rfl ?_
                refine fz_callS (d' := 0) (M' := mX11_kept) (As := [fz_i (h 83 (s.toNat)), fz_l v]) (st := [fz_i ((60 * s) + i), fz_r 85]) kX11_put rfl rfl vX11_kept rfl rfl (Nat.le_of_ble_eq_true rfl) (Nat.le_of_ble_eq_true rfl) (by decide) (sX11_kept h hI (h 83 (s.toNat)) v (by omega)) (fun H31 r32 q33 o34 => ?_)
                obtain ⟨e35, y38, rfl, f36, f37⟩ := q33
                subst H31
                clear o34
                refine fz_last (n := 360) kX11_put rfl rfl (by omega) (by omega) ?_
                refine fz_nmu (S := [(85, 99999)]) (h0 := h) (fz_Iv_up hI (by decide) (show ((-9223372036854775808) : Int) ≤ y38 by omega) (show (y38 : Int) ≤ 9223372036854775807 by omega)) (fz_fr_up hf rfl) (fun H39 hI40 hf41 e42 => ?_)
                refine fz_iconst ⟨by decide, by decide⟩ kX11_put rfl ?_
                exact fz_iret kX11_put rfl rfl (fun _ => ⟨hI40, hf41, _, rfl, (by omega), (by omega), (by first | exact fz_pM_in e42 (by omega) f37 (by omega) | exact Or.inr ⟨by omega, rfl⟩)⟩)
              · exfalso; omega
            · refine fz_if_ne (tgt := 52) kX11_put rfl (by decide) (fun c44 => ?_) (fun c44 => ?_)
              · exfalso; omega
              · refine fz_bipush ⟨by decide, by decide⟩ kX11_put rfl ?_
                exact fz_iret kX11_put rfl rfl (fun _ => ⟨hI, hf, _, rfl, (by omega), (by omega), (by first | exact fz_pM_in lost (by omega) lost (by omega) | exact Or.inr ⟨by omega, rfl⟩)⟩)
          · exfalso; omega
        · refine fz_if_ne (tgt := 33) kX11_put rfl (by decide) (fun c46 => ?_) (fun c46 => ?_)
          · exfalso; omega
          · refine fz_bipush ⟨by decide, by decide⟩ kX11_put rfl ?_
            exact fz_iret kX11_put rfl rfl (fun _ => ⟨hI, hf, _, rfl, (by omega), (by omega), (by first | exact fz_pM_in lost (by omega) lost (by omega) | exact Or.inr ⟨by omega, rfl⟩)⟩)
      · refine fz_bipush ⟨by decide, by decide⟩ kX11_put rfl ?_
        exact fz_iret kX11_put rfl rfl (fun _ => ⟨hI, hf, _, rfl, (by omega), (by omega), (by first | exact fz_pM_in lost (by omega) lost (by omega) | exact Or.inr ⟨by omega, rfl⟩)⟩)
    · exfalso; omega
  · refine fz_if_ne (tgt := 9) kX11_put rfl (by decide) (fun c49 => ?_) (fun c49 => ?_)
    · exfalso; omega
    · refine fz_iconst ⟨by decide, by decide⟩ kX11_put rfl ?_
      exact fz_iret kX11_put rfl rfl (fun _ => ⟨hI, hf, _, rfl, (by omega), (by omega), (by first | exact fz_pM_in lost (by omega) lost (by omega) | exact Or.inr ⟨by omega, rfl⟩)⟩)

abbrev qX11_element (h : fz_H) (s i : Int) : fz_H → Option fz_V → Prop := fun h' r0 => h' = h ∧ ∃ r : Int, r0 = some (fz_l r) ∧ ((-9223372036854775808) ≤ r ∧ r ≤ 9223372036854775807) ∧ (((0 ≤ s ∧ s ≤ 5 ∧ 0 ≤ h 83 s.toNat ∧ h 83 s.toNat ≤ 4 ∧ 0 ≤ i ∧ i < h 84 s.toNat) ∧ r = h 85 (60 * s + i).toNat) ∨ (¬ (0 ≤ s ∧ s ≤ 5 ∧ 0 ≤ h 83 s.toNat ∧ h 83 s.toNat ≤ 4 ∧ 0 ≤ i ∧ i < h 84 s.toNat) ∧ r = -9223372036854775808))
set_option maxHeartbeats 1000000 in
set_option maxRecDepth 100000 in
theorem sX11_element (h : fz_H) (hI : fz_Iv h) (s i : Int) : fz_R 2 mX11_element 0 [(0, fz_r 53), (1, fz_i s), (2, fz_i i)] [] h (qX11_element h s i) := by
  refine fz_knowl (fun hk => ?_)
  have hr_s : -2147483648 ≤ s ∧ s < 2147483648 := hk _ (List.Mem.tail _ (List.Mem.head _))
  have hr_i : -2147483648 ≤ i ∧ i < 2147483648 := hk _ (List.Mem.tail _ (List.Mem.tail _ (List.Mem.head _)))
  clear hk
  refine fz_iload_n kX11_element rfl rfl ?_
  refine fz_callS (d' := 1) (M' := mX11_isShelf) (As := [fz_i s]) (st := []) kX11_element rfl rfl vX11_isShelf rfl rfl (Nat.le_of_ble_eq_true rfl) (Nat.le_of_ble_eq_true rfl) (by decide) (sX11_isShelf h hI s ) (fun H1 r2 q3 o4 => ?_)
  obtain ⟨e5, y6, rfl, p7⟩ := q3
  subst H1
  clear o4
  rcases p7 with ⟨rfl, c8⟩ | ⟨rfl, c8⟩
  · refine fz_if_eq (tgt := 45) kX11_element rfl (by decide) (fun c9 => ?_) (fun c9 => ?_)
    · exfalso; omega
    · refine fz_aload_n kX11_element rfl rfl ?_
      refine fz_iload_n kX11_element rfl rfl ?_
      refine fz_callV (d' := 1) (M' := mX11_isRow) (As := [fz_i s]) (st := []) kX11_element rfl rfl vX11_isRow rfl rfl rfl rfl (Nat.le_of_ble_eq_true rfl) (Nat.le_of_ble_eq_true rfl) (by decide) (sX11_isRow h hI s (by omega)) (fun H10 r11 q12 o13 => ?_)
      obtain ⟨e14, y15, rfl, p16⟩ := q12
      subst H10
      clear o13
      rcases p16 with ⟨rfl, c17⟩ | ⟨rfl, c17⟩
      · refine fz_if_eq (tgt := 45) kX11_element rfl (by decide) (fun c18 => ?_) (fun c18 => ?_)
        · exfalso; omega
        · refine fz_iload_n kX11_element rfl rfl ?_
          refine fz_iconst ⟨by decide, by decide⟩ kX11_element rfl ?_
          refine fz_aload_n kX11_element rfl rfl ?_
          refine fz_getR (t := 84) kX11_element rfl rfl ?_
          refine fz_iload_n kX11_element rfl rfl ?_
          refine fz_ialdV (n := 6) (v := h 84 (s.toNat)) kX11_element rfl rfl (by omega) (by omega) rfl ?_
          have b19 : 0 ≤ h 84 (s.toNat) ∧ h 84 (s.toNat) ≤ 60 := hI.1 84 _
          refine fz_iconst ⟨by decide, by decide⟩ kX11_element rfl ?_
          refine fz_isubN kX11_element rfl (by omega) ?_
          refine fz_callS (d' := 0) (M' := mX11_within) (As := [fz_i i, fz_i 0, fz_i ((h 84 (s.toNat)) - 1)]) (st := []) kX11_element rfl rfl vX11_within rfl rfl (Nat.le_of_ble_eq_true rfl) (Nat.le_of_ble_eq_true rfl) (by decide) (sX11_within h hI i 0 ((h 84 (s.toNat)) - 1) ) (fun H20 r21 q22 o23 => ?_)
          obtain ⟨e24, y25, rfl, p26⟩ := q22
          subst H20
          clear o23
          rcases p26 with ⟨rfl, c27⟩ | ⟨rfl, c27⟩
          · refine fz_if_eq (tgt := 45) kX11_element rfl (by decide) (fun c28 => ?_) (fun c28 => ?_)
            · exfalso; omega
            · refine fz_aload_n kX11_element rfl rfl ?_
              refine fz_getR (t := 85) kX11_element rfl rfl ?_
              refine fz_bipush ⟨by decide, by decide⟩ kX11_element rfl ?_
              refine fz_iload_n kX11_element rfl rfl ?_
              refine fz_imulN kX11_element rfl (by omega) ?_
              refine fz_iload_n kX11_element rfl rfl ?_
              refine fz_iaddN kX11_element rfl (by omega) ?_
              refine fz_laldV (n := 360) (v := h 85 (((60 * s) + i).toNat)) kX11_element rfl rfl (by omega) (by omega) rfl ?_
              have b29 : (-9223372036854775808) ≤ h 85 (((60 * s) + i).toNat) ∧ h 85 (((60 * s) + i).toNat) ≤ 9223372036854775807 := hI.1 85 _
              refine fz_goto (tgt := 48) kX11_element rfl (by decide) ?_
              exact fz_lret kX11_element rfl rfl (fun _ => ⟨rfl, _, rfl, (by omega), (by omega)⟩)
          · refine fz_if_eq (tgt := 45) kX11_element rfl (by decide) (fun c30 => ?_) (fun c30 => ?_)
            · refine fz_ldc2 (x := (-9223372036854775808)) kX11_element rfl rfl rfl ?_
              exact fz_lret kX11_element rfl rfl (fun _ => ⟨rfl, _, rfl, (by omega), (by omega)⟩)
            · exfalso; omega
      · refine fz_if_eq (tgt := 45) kX11_element rfl (by decide) (fun c31 => ?_) (fun c31 => ?_)
        · refine fz_ldc2 (x := (-9223372036854775808)) kX11_element rfl rfl rfl ?_
          exact fz_lret kX11_element rfl rfl (fun _ => ⟨rfl, _, rfl, (by omega), (by omega)⟩)
        · exfalso; omega
  · refine fz_if_eq (tgt := 45) kX11_element rfl (by decide) (fun c32 => ?_) (fun c32 => ?_)
    · refine fz_ldc2 (x := (-9223372036854775808)) kX11_element rfl rfl rfl ?_
      exact fz_lret kX11_element rfl rfl (fun _ => ⟨rfl, _, rfl, (by omega), (by omega)⟩)
    · exfalso; omega

abbrev qX11_shift (h : fz_H) (s i o j n : Int) : fz_H → Option fz_V → Prop := fun h' r0 => fz_Iv h' ∧ fz_fr [(85, 99999)] h h' ∧ ∃ r : Int, r0 = some (fz_i r) ∧ ((-13) ≤ r ∧ r ≤ 60) ∧ ((¬ (0 ≤ s ∧ s ≤ 5 ∧ 0 ≤ o ∧ o ≤ 5) ∧ r = -1) ∨ ((0 ≤ s ∧ s ≤ 5 ∧ 0 ≤ o ∧ o ≤ 5) ∧ (h 83 s.toNat = -1 ∨ h 83 o.toNat = -1) ∧ r = -11) ∨ ((0 ≤ s ∧ s ≤ 5 ∧ 0 ≤ o ∧ o ≤ 5) ∧ ¬ h 83 s.toNat = -1 ∧ ¬ h 83 o.toNat = -1 ∧ ¬ (0 ≤ h 83 s.toNat ∧ h 83 s.toNat ≤ 4 ∧ h 83 o.toNat = h 83 s.toNat) ∧ r = -12) ∨ ((0 ≤ s ∧ s ≤ 5 ∧ 0 ≤ o ∧ o ≤ 5) ∧ (0 ≤ h 83 s.toNat ∧ h 83 s.toNat ≤ 4 ∧ h 83 o.toNat = h 83 s.toNat) ∧ ¬ (0 ≤ n ∧ 0 ≤ i ∧ 0 ≤ j ∧ i + n ≤ h 84 s.toNat ∧ j + n ≤ h 84 o.toNat) ∧ r = -13) ∨ ((0 ≤ s ∧ s ≤ 5 ∧ 0 ≤ o ∧ o ≤ 5) ∧ (0 ≤ h 83 s.toNat ∧ h 83 s.toNat ≤ 4 ∧ h 83 o.toNat = h 83 s.toNat) ∧ (0 ≤ n ∧ 0 ≤ i ∧ 0 ≤ j ∧ i + n ≤ h 84 s.toNat ∧ j + n ≤ h 84 o.toNat) ∧ r = n)) ∧ (fz_sM h h' s i o j n)
set_option maxHeartbeats 1000000 in
set_option maxRecDepth 100000 in
theorem sX11_shift (h : fz_H) (hI : fz_Iv h) (s i o j n : Int) : fz_R 2 mX11_shift 0 [(0, fz_r 53), (1, fz_i s), (2, fz_i i), (3, fz_i o), (4, fz_i j), (5, fz_i n)] [] h (qX11_shift h s i o j n) := by
  refine fz_knowl (fun hk => ?_)
  have hr_s : -2147483648 ≤ s ∧ s < 2147483648 := hk _ (List.Mem.tail _ (List.Mem.head _))
  have hr_i : -2147483648 ≤ i ∧ i < 2147483648 := hk _ (List.Mem.tail _ (List.Mem.tail _ (List.Mem.head _)))
  have hr_o : -2147483648 ≤ o ∧ o < 2147483648 := hk _ (List.Mem.tail _ (List.Mem.tail _ (List.Mem.tail _ (List.Mem.head _))))
  have hr_j : -2147483648 ≤ j ∧ j < 2147483648 := hk _ (List.Mem.tail _ (List.Mem.tail _ (List.Mem.tail _ (List.Mem.tail _ (List.Mem.head _)))))
  have hr_n : -2147483648 ≤ n ∧ n < 2147483648 := hk _ (List.Mem.tail _ (List.Mem.tail _ (List.Mem.tail _ (List.Mem.tail _ (List.Mem.tail _ (List.Mem.head _))))))
  clear hk
  have hf : fz_fr [(85, 99999)] h h := fz_fr_rf
  refine fz_iload_n kX11_shift rfl rfl ?_
  refine fz_callS (d' := 1) (M' := mX11_isShelf) (As := [fz_i s]) (st := []) kX11_shift rfl rfl vX11_isShelf rfl rfl (Nat.le_of_ble_eq_true rfl) (Nat.le_of_ble_eq_true rfl) (by decide) (sX11_isShelf h hI s ) (fun H1 r2 q3 o4 => ?_)
  obtain ⟨e5, y6, rfl, p7⟩ := q3
  subst H1
  clear o4
  rcases p7 with ⟨rfl, c8⟩ | ⟨rfl, c8⟩
  · refine fz_if_eq (tgt := 14) kX11_shift rfl (by decide) (fun c9 => ?_) (fun c9 => ?_)
    · exfalso; omega
    · refine fz_iload_n kX11_shift rfl rfl ?_
      refine fz_callS (d' := 1) (M' := mX11_isShelf) (As := [fz_i o]) (st := []) kX11_shift rfl rfl vX11_isShelf rfl rfl (Nat.le_of_ble_eq_true rfl) (Nat.le_of_ble_eq_true rfl) (by decide) (sX11_isShelf h hI o ) (fun H10 r11 q12 o13 => ?_)
      obtain ⟨e14, y15, rfl, p16⟩ := q12
      subst H10
      clear o13
      rcases p16 with ⟨rfl, c17⟩ | ⟨rfl, c17⟩
      · refine fz_if_ne (tgt := 16) kX11_shift rfl (by decide) (fun c18 => ?_) (fun c18 => ?_)
        · refine fz_aload_n kX11_shift rfl rfl ?_
          refine fz_getR (t := 83) kX11_shift rfl rfl ?_
          refine fz_iload_n kX11_shift rfl rfl ?_
          refine fz_ialdV (n := 6) (v := h 83 (s.toNat)) kX11_shift rfl rfl (by omega) (by omega) rfl ?_
          have b19 : (-1) ≤ h 83 (s.toNat) ∧ h 83 (s.toNat) ≤ 59 := hI.1 83 _
          refine fz_iconst ⟨by decide, by decide⟩ kX11_shift rfl ?_
          refine fz_icmp_eq (tgt := 36) kX11_shift rfl (by decide) (fun c20 => ?_) (fun c20 => ?_)
          · refine fz_bipush ⟨by decide, by decide⟩ kX11_shift rfl ?_
            exact fz_iret kX11_shift rfl rfl (fun _ => ⟨hI, hf, _, rfl, (by omega), (by first | exact Or.inl ⟨by omega, rfl⟩ | exact Or.inr (Or.inl ⟨by omega, by omega, rfl⟩) | exact Or.inr (Or.inr (Or.inl ⟨by omega, by omega, by omega, by omega, rfl⟩)) | exact Or.inr (Or.inr (Or.inr (Or.inl ⟨by omega, by omega, by omega, rfl⟩))) | exact Or.inr (Or.inr (Or.inr (Or.inr ⟨by omega, by omega, by omega, rfl⟩))) | omega), (by first | exact Or.inl ⟨(by unfold fz_sOK; omega), fz_cp_e lost (by omega) (by omega) (by omega)⟩ | exact Or.inl ⟨(by unfold fz_sOK; omega), fz_cp_e lost rfl rfl (by omega)⟩ | exact Or.inr ⟨(by unfold fz_sOK; omega), rfl⟩)⟩)
          · refine fz_aload_n kX11_shift rfl rfl ?_
            refine fz_getR (t := 83) kX11_shift rfl rfl ?_
            refine fz_iload_n kX11_shift rfl rfl ?_
            refine fz_ialdV (n := 6) (v := h 83 (o.toNat)) kX11_shift rfl rfl (by omega) (by omega) rfl ?_
            have b23 : (-1) ≤ h 83 (o.toNat) ∧ h 83 (o.toNat) ≤ 59 := hI.1 83 _
            refine fz_iconst ⟨by decide, by decide⟩ kX11_shift rfl ?_
            refine fz_icmp_ne (tgt := 39) kX11_shift rfl (by decide) (fun c24 => ?_) (fun c24 => ?_)
            · refine fz_aload_n kX11_shift rfl rfl ?_
              refine fz_iload_n kX11_shift rfl rfl ?_
              refine fz_callV (d' := 1) (M' := mX11_isRow) (As := [fz_i s]) (st := []) kX11_shift rfl rfl vX11_isRow rfl rfl rfl rfl (Nat.le_of_ble_eq_true rfl) (Nat.le_of_ble_eq_true rfl) (by decide) (sX11_isRow h hI s (by omega)) (fun H25 r26 q27 o28 => ?_)
              obtain ⟨e29, y30, rfl, p31⟩ := q27
              subst H25
              clear o28
              rcases p31 with ⟨rfl, c32⟩ | ⟨rfl, c32⟩
              · refine fz_if_eq (tgt := 70) kX11_shift rfl (by decide) (fun c33 => ?_) (fun c33 => ?_)
                · exfalso; omega
                · refine fz_aload_n kX11_shift rfl rfl ?_
                  refine fz_iload_n kX11_shift rfl rfl ?_
                  refine fz_callV (d' := 1) (M' := mX11_isRow) (As := [fz_i o]) (st := []) kX11_shift rfl rfl vX11_isRow rfl rfl rfl rfl (Nat.le_of_ble_eq_true rfl) (Nat.le_of_ble_eq_true rfl) (by decide) (sX11_isRow h hI o (by omega)) (fun H34 r35 q36 o37 => ?_)
                  obtain ⟨e38, y39, rfl, p40⟩ := q36
                  subst H34
                  clear o37
                  rcases p40 with ⟨rfl, c41⟩ | ⟨rfl, c41⟩
                  · refine fz_if_eq (tgt := 70) kX11_shift rfl (by decide) (fun c42 => ?_) (fun c42 => ?_)
                    · exfalso; omega
                    · refine fz_aload_n kX11_shift rfl rfl ?_
                      refine fz_getR (t := 83) kX11_shift rfl rfl ?_
                      refine fz_iload_n kX11_shift rfl rfl ?_
                      refine fz_ialdV (n := 6) (v := h 83 (s.toNat)) kX11_shift rfl rfl (by omega) (by omega) rfl ?_
                      refine fz_aload_n kX11_shift rfl rfl ?_
                      refine fz_getR (t := 83) kX11_shift rfl rfl ?_
                      refine fz_iload_n kX11_shift rfl rfl ?_
                      refine fz_ialdV (n := 6) (v := h 83 (o.toNat)) kX11_shift rfl rfl (by omega) (by omega) rfl ?_
                      refine fz_icmp_eq (tgt := 73) kX11_shift rfl (by decide) (fun c43 => ?_) (fun c43 => ?_)
                      · refine fz_iload kX11_shift rfl rfl ?_
                        refine fz_if_lt (tgt := 122) kX11_shift rfl (by decide) (fun c44 => ?_) (fun c44 => ?_)
                        · refine fz_bipush ⟨by decide, by decide⟩ kX11_shift rfl ?_
                          exact fz_iret kX11_shift rfl rfl (fun _ => ⟨hI, hf, _, rfl, (by omega), (by first | exact Or.inl ⟨by omega, rfl⟩ | exact Or.inr (Or.inl ⟨by omega, by omega, rfl⟩) | exact Or.inr (Or.inr (Or.inl ⟨by omega, by omega, by omega, by omega, rfl⟩)) | exact Or.inr (Or.inr (Or.inr (Or.inl ⟨by omega, by omega, by omega, rfl⟩))) | exact Or.inr (Or.inr (Or.inr (Or.inr ⟨by omega, by omega, by omega, rfl⟩))) | omega), (by first | exact Or.inl ⟨(by unfold fz_sOK; omega), fz_cp_e lost (by omega) (by omega) (by omega)⟩ | exact Or.inl ⟨(by unfold fz_sOK; omega), fz_cp_e lost rfl rfl (by omega)⟩ | exact Or.inr ⟨(by unfold fz_sOK; omega), rfl⟩)⟩)
                        · refine fz_iload_n kX11_shift rfl rfl ?_
                          refine fz_if_lt (tgt := 122) kX11_shift rfl (by decide) (fun c47 => ?_) (fun c47 => ?_)
                          · refine fz_bipush ⟨by decide, by decide⟩ kX11_shift rfl ?_
                            exact fz_iret kX11_shift rfl rfl (fun _ => ⟨hI, hf, _, rfl, (by omega), (by first | exact Or.inl ⟨by omega, rfl⟩ | exact Or.inr (Or.inl ⟨by omega, by omega, rfl⟩) | exact Or.inr (Or.inr (Or.inl ⟨by omega, by omega, by omega, by omega, rfl⟩)) | exact Or.inr (Or.inr (Or.inr (Or.inl ⟨by omega, by omega, by omega, rfl⟩))) | exact Or.inr (Or.inr (Or.inr (Or.inr ⟨by omega, by omega, by omega, rfl⟩))) | omega), (by first | exact Or.inl ⟨(by unfold fz_sOK; omega), fz_cp_e lost (by omega) (by omega) (by omega)⟩ | exact Or.inl ⟨(by unfold fz_sOK; omega), fz_cp_e lost rfl rfl (by omega)⟩ | exact Or.inr ⟨(by unfold fz_sOK; omega), rfl⟩)⟩)
                          · refine fz_iload kX11_shift rfl rfl ?_
                            refine fz_if_lt (tgt := 122) kX11_shift rfl (by decide) (fun c50 => ?_) (fun c50 => ?_)
                            · refine fz_bipush ⟨by decide, by decide⟩ kX11_shift rfl ?_
                              exact fz_iret kX11_shift rfl rfl (fun _ => ⟨hI, hf, _, rfl, (by omega), (by first | exact Or.inl ⟨by omega, rfl⟩ | exact Or.inr (Or.inl ⟨by omega, by omega, rfl⟩) | exact Or.inr (Or.inr (Or.inl ⟨by omega, by omega, by omega, by omega, rfl⟩)) | exact Or.inr (Or.inr (Or.inr (Or.inl ⟨by omega, by omega, by omega, rfl⟩))) | exact Or.inr (Or.inr (Or.inr (Or.inr ⟨by omega, by omega, by omega, rfl⟩))) | omega), (by first | exact Or.inl ⟨(by unfold fz_sOK; omega), fz_cp_e lost (by omega) (by omega) (by omega)⟩ | exact Or.inl ⟨(by unfold fz_sOK; omega), fz_cp_e lost rfl rfl (by omega)⟩ | exact Or.inr ⟨(by unfold fz_sOK; omega), rfl⟩)⟩)
                            · refine fz_iload_n kX11_shift rfl rfl ?_
                              refine fz_i2l kX11_shift rfl ?_
                              refine fz_iload kX11_shift rfl rfl ?_
                              refine fz_i2l kX11_shift rfl ?_
                              refine fz_laddN kX11_shift rfl (by omega) ?_
                              refine fz_aload_n kX11_shift rfl rfl ?_
                              refine fz_getR (t := 84) kX11_shift rfl rfl ?_
                              refine fz_iload_n kX11_shift rfl rfl ?_
                              refine fz_ialdV (n := 6) (v := h 84 (s.toNat)) kX11_shift rfl rfl (by omega) (by omega) rfl ?_
                              have b53 : 0 ≤ h 84 (s.toNat) ∧ h 84 (s.toNat) ≤ 60 := hI.1 84 _
                              refine fz_i2l kX11_shift rfl ?_
                              refine fz_lcmp kX11_shift rfl ?_
                              have b54 := fz_cmp_c (i + n) (h 84 (s.toNat))
                              refine fz_if_gt (tgt := 122) kX11_shift rfl (by decide) (fun c55 => ?_) (fun c55 => ?_)
                              · refine fz_bipush ⟨by decide, by decide⟩ kX11_shift rfl ?_
                                exact fz_iret kX11_shift rfl rfl (fun _ => ⟨hI, hf, _, rfl, (by omega), (by first | exact Or.inl ⟨by omega, rfl⟩ | exact Or.inr (Or.inl ⟨by omega, by omega, rfl⟩) | exact Or.inr (Or.inr (Or.inl ⟨by omega, by omega, by omega, by omega, rfl⟩)) | exact Or.inr (Or.inr (Or.inr (Or.inl ⟨by omega, by omega, by omega, rfl⟩))) | exact Or.inr (Or.inr (Or.inr (Or.inr ⟨by omega, by omega, by omega, rfl⟩))) | omega), (by first | exact Or.inl ⟨(by unfold fz_sOK; omega), fz_cp_e lost (by omega) (by omega) (by omega)⟩ | exact Or.inl ⟨(by unfold fz_sOK; omega), fz_cp_e lost rfl rfl (by omega)⟩ | exact Or.inr ⟨(by unfold fz_sOK; omega), rfl⟩)⟩)
                              · refine fz_iload kX11_shift rfl rfl ?_
                                refine fz_i2l kX11_shift rfl ?_
                                refine fz_iload kX11_shift rfl rfl ?_
                                refine fz_i2l kX11_shift rfl ?_
                                refine fz_laddN kX11_shift rfl (by omega) ?_
                                refine fz_aload_n kX11_shift rfl rfl ?_
                                refine fz_getR (t := 84) kX11_shift rfl rfl ?_
                                refine fz_iload_n kX11_shift rfl rfl ?_
                                refine fz_ialdV (n := 6) (v := h 84 (o.toNat)) kX11_shift rfl rfl (by omega) (by omega) rfl ?_
                                have b58 : 0 ≤ h 84 (o.toNat) ∧ h 84 (o.toNat) ≤ 60 := hI.1 84 _
                                refine fz_i2l kX11_shift rfl ?_
                                refine fz_lcmp kX11_shift rfl ?_
                                have b59 := fz_cmp_c (j + n) (h 84 (o.toNat))
                                refine fz_if_le (tgt := 125) kX11_shift rfl (by decide) (fun c60 => ?_) (fun c60 => ?_)
                                · have k62 : i ≤ 60 := by omega
                                  have k64 : j ≤ 60 := by omega
                                  have k66 : n ≤ 60 := by omega
                                  refine fz_iload_n kX11_shift rfl rfl ?_
                                  refine fz_iload_n kX11_shift rfl rfl ?_
                                  refine fz_icmp_ne (tgt := 185) kX11_shift rfl (by decide) (fun c67 => ?_) (fun c67 => ?_)
                                  · refine fz_iconst ⟨by decide, by decide⟩ kX11_shift rfl ?_
                                    refine fz_istore (ls' := [(6, fz_i 0), (0, fz_r 53), (1, fz_i s), (2, fz_i i), (3, fz_i o), (4, fz_i j), (5, fz_i n)]) kX11_shift rfl (by decide) rfl ?_
                                    have lp73 : ∀ (n72 : Nat) (x68 : Int) (H69 : fz_H), fz_Iv H69 → fz_fr [(85, 99999)] h H69 → (0 ≤ x68 ∧ x68 ≤ 60) → (x68 ≤ n) → (H69 = fz_cp h 85 (60 * s + i).toNat 85 (60 * o + j).toNat (x68 : Int).toNat) → (n - x68).toNat < n72 → fz_R 2 mX11_shift 188 [(6, fz_i x68), (0, fz_r 53), (1, fz_i s), (2, fz_i i), (3, fz_i o), (4, fz_i j), (5, fz_i n)] [] H69 (qX11_shift h s i o j n) := by
                                      intro n72
                                      induction n72 with
                                      | zero => intro x68 H69 hI70 hf71 hv76 hv77 hv78 hm75; exact absurd hm75 (by omega)
                                      | succ n72 ih74 =>
                                        intro x68 H69 hI70 hf71 hv76 hv77 hv78 hm75
                                        refine fz_iload kX11_shift rfl rfl ?_
                                        refine fz_iload kX11_shift rfl rfl ?_
                                        refine fz_icmp_ge (tgt := 230) kX11_shift rfl (by decide) (fun c79 => ?_) (fun c79 => ?_)
                                        · refine fz_iload kX11_shift rfl rfl ?_
                                          exact fz_iret kX11_shift rfl rfl (fun _ => ⟨hI70, hf71, _, rfl, (by omega), (by first | exact Or.inl ⟨by omega, rfl⟩ | exact Or.inr (Or.inl ⟨by omega, by omega, rfl⟩) | exact Or.inr (Or.inr (Or.inl ⟨by omega, by omega, by omega, by omega, rfl⟩)) | exact Or.inr (Or.inr (Or.inr (Or.inl ⟨by omega, by omega, by omega, rfl⟩))) | exact Or.inr (Or.inr (Or.inr (Or.inr ⟨by omega, by omega, by omega, rfl⟩))) | omega), (by first | exact Or.inl ⟨(by unfold fz_sOK; omega), fz_cp_e lost (by omega) (by omega) (by omega)⟩ | exact Or.inl ⟨(by unfold fz_sOK; omega), fz_cp_e hv78 rfl rfl (by omega)⟩ | exact Or.inr ⟨(by unfold fz_sOK; omega), rfl⟩)⟩)
                                        · refine fz_aload_n kX11_shift rfl rfl ?_
                                          refine fz_getR (t := 85) kX11_shift rfl rfl ?_
                                          refine fz_bipush ⟨by decide, by decide⟩ kX11_shift rfl ?_
                                          refine fz_iload_n kX11_shift rfl rfl ?_
                                          refine fz_imulN kX11_shift rfl (by omega) ?_
                                          refine fz_iload kX11_shift rfl rfl ?_
                                          refine fz_iaddN kX11_shift rfl (by omega) ?_
                                          refine fz_iload kX11_shift rfl rfl ?_
                                          refine fz_iaddN kX11_shift rfl (by omega) ?_
                                          refine fz_aload_n kX11_shift rfl rfl ?_
                                          refine fz_getR (t := 85) kX11_shift rfl rfl ?_
                                          refine fz_bipush ⟨by decide, by decide⟩ kX11_shift rfl ?_
                                          refine fz_iload_n kX11_shift rfl rfl ?_
                                          refine fz_imulN kX11_shift rfl (by omega) ?_
                                          refine fz_iload_n kX11_shift rfl rfl ?_
                                          refine fz_iaddN kX11_shift rfl (by omega) ?_
                                          refine fz_iload kX11_shift rfl rfl ?_
                                          refine fz_iaddN kX11_shift rfl (by omega) ?_
                                          obtain ⟨v82, e83⟩ : ∃ z, H69 85 ((((60 * s) + i) + x68).toNat) = z := ⟨_, rfl⟩
                                          refine fz_laldV (n := 360) (v := v82) kX11_shift rfl rfl (by omega) (by omega) e83 ?_
                                          have b84 : (-9223372036854775808) ≤ v82 ∧ v82 ≤ 9223372036854775807 := by rw [← e83]; exact hI70.1 85 _
                                          refine fz_last (n := 360) kX11_shift rfl rfl (by omega) (by omega) ?_
                                          refine fz_nmu (S := [(85, 99999)]) (h0 := h) (fz_Iv_up hI70 (by decide) (show ((-9223372036854775808) : Int) ≤ v82 by omega) (show (v82 : Int) ≤ 9223372036854775807 by omega)) (fz_fr_up hf71 rfl) (fun H85 hI86 hf87 e88 => ?_)
                                          refine fz_iincN (ls' := [(6, fz_i (x68 + 1)), (0, fz_r 53), (1, fz_i s), (2, fz_i i), (3, fz_i o), (4, fz_i j), (5, fz_i n)]) kX11_shift rfl (by decide) rfl (by omega) rfl ?_
                                          refine fz_goto (tgt := 188) kX11_shift rfl (by decide) ?_
                                          exact ih74 (x68 + 1) H85 hI86 hf87 (by omega) (by omega) (fz_cp_fwI hv78 e88 e83 (by omega) (by omega) (by omega) (by omega)) (by omega)
                                    exact lp73 _ 0 h hI hf (by omega) (by omega) (fz_cp_0.symm) (Nat.lt_succ_self _)
                                  · refine fz_iload_n kX11_shift rfl rfl ?_
                                    refine fz_iload kX11_shift rfl rfl ?_
                                    refine fz_icmp_ge (tgt := 185) kX11_shift rfl (by decide) (fun c91 => ?_) (fun c91 => ?_)
                                    · refine fz_iconst ⟨by decide, by decide⟩ kX11_shift rfl ?_
                                      refine fz_istore (ls' := [(6, fz_i 0), (0, fz_r 53), (1, fz_i s), (2, fz_i i), (3, fz_i o), (4, fz_i j), (5, fz_i n)]) kX11_shift rfl (by decide) rfl ?_
                                      have lp97 : ∀ (n96 : Nat) (x92 : Int) (H93 : fz_H), fz_Iv H93 → fz_fr [(85, 99999)] h H93 → (0 ≤ x92 ∧ x92 ≤ 60) → (x92 ≤ n) → (H93 = fz_cp h 85 (60 * s + i).toNat 85 (60 * o + j).toNat (x92 : Int).toNat) → (n - x92).toNat < n96 → fz_R 2 mX11_shift 188 [(6, fz_i x92), (0, fz_r 53), (1, fz_i s), (2, fz_i i), (3, fz_i o), (4, fz_i j), (5, fz_i n)] [] H93 (qX11_shift h s i o j n) := by
                                        intro n96
                                        induction n96 with
                                        | zero => intro x92 H93 hI94 hf95 hv100 hv101 hv102 hm99; exact absurd hm99 (by omega)
                                        | succ n96 ih98 =>
                                          intro x92 H93 hI94 hf95 hv100 hv101 hv102 hm99
                                          refine fz_iload kX11_shift rfl rfl ?_
                                          refine fz_iload kX11_shift rfl rfl ?_
                                          refine fz_icmp_ge (tgt := 230) kX11_shift rfl (by decide) (fun c103 => ?_) (fun c103 => ?_)
                                          · refine fz_iload kX11_shift rfl rfl ?_
                                            exact fz_iret kX11_shift rfl rfl (fun _ => ⟨hI94, hf95, _, rfl, (by omega), (by first | exact Or.inl ⟨by omega, rfl⟩ | exact Or.inr (Or.inl ⟨by omega, by omega, rfl⟩) | exact Or.inr (Or.inr (Or.inl ⟨by omega, by omega, by omega, by omega, rfl⟩)) | exact Or.inr (Or.inr (Or.inr (Or.inl ⟨by omega, by omega, by omega, rfl⟩))) | exact Or.inr (Or.inr (Or.inr (Or.inr ⟨by omega, by omega, by omega, rfl⟩))) | omega), (by first | exact Or.inl ⟨(by unfold fz_sOK; omega), fz_cp_e lost (by omega) (by omega) (by omega)⟩ | exact Or.inl ⟨(by unfold fz_sOK; omega), fz_cp_e hv102 rfl rfl (by omega)⟩ | exact Or.inr ⟨(by unfold fz_sOK; omega), rfl⟩)⟩)
                                          · refine fz_aload_n kX11_shift rfl rfl ?_
                                            refine fz_getR (t := 85) kX11_shift rfl rfl ?_
                                            refine fz_bipush ⟨by decide, by decide⟩ kX11_shift rfl ?_
                                            refine fz_iload_n kX11_shift rfl rfl ?_
                                            refine fz_imulN kX11_shift rfl (by omega) ?_
                                            refine fz_iload kX11_shift rfl rfl ?_
                                            refine fz_iaddN kX11_shift rfl (by omega) ?_
                                            refine fz_iload kX11_shift rfl rfl ?_
                                            refine fz_iaddN kX11_shift rfl (by omega) ?_
                                            refine fz_aload_n kX11_shift rfl rfl ?_
                                            refine fz_getR (t := 85) kX11_shift rfl rfl ?_
                                            refine fz_bipush ⟨by decide, by decide⟩ kX11_shift rfl ?_
                                            refine fz_iload_n kX11_shift rfl rfl ?_
                                            refine fz_imulN kX11_shift rfl (by omega) ?_
                                            refine fz_iload_n kX11_shift rfl rfl ?_
                                            refine fz_iaddN kX11_shift rfl (by omega) ?_
                                            refine fz_iload kX11_shift rfl rfl ?_
                                            refine fz_iaddN kX11_shift rfl (by omega) ?_
                                            obtain ⟨v106, e107⟩ : ∃ z, H93 85 ((((60 * s) + i) + x92).toNat) = z := ⟨_, rfl⟩
                                            refine fz_laldV (n := 360) (v := v106) kX11_shift rfl rfl (by omega) (by omega) e107 ?_
                                            have b108 : (-9223372036854775808) ≤ v106 ∧ v106 ≤ 9223372036854775807 := by rw [← e107]; exact hI94.1 85 _
                                            refine fz_last (n := 360) kX11_shift rfl rfl (by omega) (by omega) ?_
                                            refine fz_nmu (S := [(85, 99999)]) (h0 := h) (fz_Iv_up hI94 (by decide) (show ((-9223372036854775808) : Int) ≤ v106 by omega) (show (v106 : Int) ≤ 9223372036854775807 by omega)) (fz_fr_up hf95 rfl) (fun H109 hI110 hf111 e112 => ?_)
                                            refine fz_iincN (ls' := [(6, fz_i (x92 + 1)), (0, fz_r 53), (1, fz_i s), (2, fz_i i), (3, fz_i o), (4, fz_i j), (5, fz_i n)]) kX11_shift rfl (by decide) rfl (by omega) rfl ?_
                                            refine fz_goto (tgt := 188) kX11_shift rfl (by decide) ?_
                                            exact ih98 (x92 + 1) H109 hI110 hf111 (by omega) (by omega) (fz_cp_fwI hv102 e112 e107 (by omega) (by omega) (by omega) (by omega)) (by omega)
                                      exact lp97 _ 0 h hI hf (by omega) (by omega) (fz_cp_0.symm) (Nat.lt_succ_self _)
                                    · refine fz_iload kX11_shift rfl rfl ?_
                                      refine fz_iconst ⟨by decide, by decide⟩ kX11_shift rfl ?_
                                      refine fz_isubN kX11_shift rfl (by omega) ?_
                                      refine fz_istore (ls' := [(6, fz_i (n - 1)), (0, fz_r 53), (1, fz_i s), (2, fz_i i), (3, fz_i o), (4, fz_i j), (5, fz_i n)]) kX11_shift rfl (by decide) rfl ?_
                                      have lp120 : ∀ (n119 : Nat) (x115 : Int) (H116 : fz_H), fz_Iv H116 → fz_fr [(85, 99999)] h H116 → ((-1) ≤ x115 ∧ x115 ≤ 59) → (x115 < n) → (H116 = fz_cp h 85 (60 * s + i + x115 + 1).toNat 85 (60 * o + j + x115 + 1).toNat (n - x115 - 1).toNat) → (x115 + 1 - 0).toNat < n119 → fz_R 2 mX11_shift 142 [(6, fz_i x115), (0, fz_r 53), (1, fz_i s), (2, fz_i i), (3, fz_i o), (4, fz_i j), (5, fz_i n)] [] H116 (qX11_shift h s i o j n) := by
                                        intro n119
                                        induction n119 with
                                        | zero => intro x115 H116 hI117 hf118 hv123 hv124 hv125 hm122; exact absurd hm122 (by omega)
                                        | succ n119 ih121 =>
                                          intro x115 H116 hI117 hf118 hv123 hv124 hv125 hm122
                                          refine fz_iload kX11_shift rfl rfl ?_
                                          refine fz_if_lt (tgt := 182) kX11_shift rfl (by decide) (fun c126 => ?_) (fun c126 => ?_)
                                          · refine fz_goto (tgt := 230) kX11_shift rfl (by decide) ?_
                                            refine fz_iload kX11_shift rfl rfl ?_
                                            exact fz_iret kX11_shift rfl rfl (fun _ => ⟨hI117, hf118, _, rfl, (by omega), (by first | exact Or.inl ⟨by omega, rfl⟩ | exact Or.inr (Or.inl ⟨by omega, by omega, rfl⟩) | exact Or.inr (Or.inr (Or.inl ⟨by omega, by omega, by omega, by omega, rfl⟩)) | exact Or.inr (Or.inr (Or.inr (Or.inl ⟨by omega, by omega, by omega, rfl⟩))) | exact Or.inr (Or.inr (Or.inr (Or.inr ⟨by omega, by omega, by omega, rfl⟩))) | omega), (by first | exact Or.inl ⟨(by unfold fz_sOK; omega), fz_cp_e hv125 (by omega) (by omega) (by omega)⟩ | exact Or.inl ⟨(by unfold fz_sOK; omega), fz_cp_e lost rfl rfl (by omega)⟩ | exact Or.inr ⟨(by unfold fz_sOK; omega), rfl⟩)⟩)
                                          · refine fz_aload_n kX11_shift rfl rfl ?_
                                            refine fz_getR (t := 85) kX11_shift rfl rfl ?_
                                            refine fz_bipush ⟨by decide, by decide⟩ kX11_shift rfl ?_
                                            refine fz_iload_n kX11_shift rfl rfl ?_
                                            refine fz_imulN kX11_shift rfl (by omega) ?_
                                            refine fz_iload kX11_shift rfl rfl ?_
                                            refine fz_iaddN kX11_shift rfl (by omega) ?_
                                            refine fz_iload kX11_shift rfl rfl ?_
                                            refine fz_iaddN kX11_shift rfl (by omega) ?_
                                            refine fz_aload_n kX11_shift rfl rfl ?_
                                            refine fz_getR (t := 85) kX11_shift rfl rfl ?_
                                            refine fz_bipush ⟨by decide, by decide⟩ kX11_shift rfl ?_
                                            refine fz_iload_n kX11_shift rfl rfl ?_
                                            refine fz_imulN kX11_shift rfl (by omega) ?_
                                            refine fz_iload_n kX11_shift rfl rfl ?_
                                            refine fz_iaddN kX11_shift rfl (by omega) ?_
                                            refine fz_iload kX11_shift rfl rfl ?_
                                            refine fz_iaddN kX11_shift rfl (by omega) ?_
                                            obtain ⟨v129, e130⟩ : ∃ z, H116 85 ((((60 * s) + i) + x115).toNat) = z := ⟨_, rfl⟩
                                            refine fz_laldV (n := 360) (v := v129) kX11_shift rfl rfl (by omega) (by omega) e130 ?_
                                            have b131 : (-9223372036854775808) ≤ v129 ∧ v129 ≤ 9223372036854775807 := by rw [← e130]; exact hI117.1 85 _
                                            refine fz_last (n := 360) kX11_shift rfl rfl (by omega) (by omega) ?_
                                            refine fz_nmu (S := [(85, 99999)]) (h0 := h) (fz_Iv_up hI117 (by decide) (show ((-9223372036854775808) : Int) ≤ v129 by omega) (show (v129 : Int) ≤ 9223372036854775807 by omega)) (fz_fr_up hf118 rfl) (fun H132 hI133 hf134 e135 => ?_)
                                            refine fz_iincN (ls' := [(6, fz_i (x115 + (-1))), (0, fz_r 53), (1, fz_i s), (2, fz_i i), (3, fz_i o), (4, fz_i j), (5, fz_i n)]) kX11_shift rfl (by decide) rfl (by omega) rfl ?_
                                            refine fz_goto (tgt := 142) kX11_shift rfl (by decide) ?_
                                            exact ih121 (x115 + (-1)) H132 hI133 hf134 (by omega) (by omega) (fz_cp_bkI hv125 e135 e130 (by omega) (by omega) (by omega) (by omega)) (by omega)
                                      exact lp120 _ (n - 1) h hI hf (by omega) (by omega) (by rw [show n - (n - 1) - 1 = 0 by omega]; exact fz_cp_0.symm) (Nat.lt_succ_self _)
                                · refine fz_bipush ⟨by decide, by decide⟩ kX11_shift rfl ?_
                                  exact fz_iret kX11_shift rfl rfl (fun _ => ⟨hI, hf, _, rfl, (by omega), (by first | exact Or.inl ⟨by omega, rfl⟩ | exact Or.inr (Or.inl ⟨by omega, by omega, rfl⟩) | exact Or.inr (Or.inr (Or.inl ⟨by omega, by omega, by omega, by omega, rfl⟩)) | exact Or.inr (Or.inr (Or.inr (Or.inl ⟨by omega, by omega, by omega, rfl⟩))) | exact Or.inr (Or.inr (Or.inr (Or.inr ⟨by omega, by omega, by omega, rfl⟩))) | omega), (by first | exact Or.inl ⟨(by unfold fz_sOK; omega), fz_cp_e lost (by omega) (by omega) (by omega)⟩ | exact Or.inl ⟨(by unfold fz_sOK; omega), fz_cp_e lost rfl rfl (by omega)⟩ | exact Or.inr ⟨(by unfold fz_sOK; omega), rfl⟩)⟩)
                      · refine fz_bipush ⟨by decide, by decide⟩ kX11_shift rfl ?_
                        exact fz_iret kX11_shift rfl rfl (fun _ => ⟨hI, hf, _, rfl, (by omega), (by first | exact Or.inl ⟨by omega, rfl⟩ | exact Or.inr (Or.inl ⟨by omega, by omega, rfl⟩) | exact Or.inr (Or.inr (Or.inl ⟨by omega, by omega, by omega, by omega, rfl⟩)) | exact Or.inr (Or.inr (Or.inr (Or.inl ⟨by omega, by omega, by omega, rfl⟩))) | exact Or.inr (Or.inr (Or.inr (Or.inr ⟨by omega, by omega, by omega, rfl⟩))) | omega), (by first | exact Or.inl ⟨(by unfold fz_sOK; omega), fz_cp_e lost (by omega) (by omega) (by omega)⟩ | exact Or.inl ⟨(by unfold fz_sOK; omega), fz_cp_e lost rfl rfl (by omega)⟩ | exact Or.inr ⟨(by unfold fz_sOK; omega), rfl⟩)⟩)
                  · refine fz_if_eq (tgt := 70) kX11_shift rfl (by decide) (fun c142 => ?_) (fun c142 => ?_)
                    · refine fz_bipush ⟨by decide, by decide⟩ kX11_shift rfl ?_
                      exact fz_iret kX11_shift rfl rfl (fun _ => ⟨hI, hf, _, rfl, (by omega), (by first | exact Or.inl ⟨by omega, rfl⟩ | exact Or.inr (Or.inl ⟨by omega, by omega, rfl⟩) | exact Or.inr (Or.inr (Or.inl ⟨by omega, by omega, by omega, by omega, rfl⟩)) | exact Or.inr (Or.inr (Or.inr (Or.inl ⟨by omega, by omega, by omega, rfl⟩))) | exact Or.inr (Or.inr (Or.inr (Or.inr ⟨by omega, by omega, by omega, rfl⟩))) | omega), (by first | exact Or.inl ⟨(by unfold fz_sOK; omega), fz_cp_e lost (by omega) (by omega) (by omega)⟩ | exact Or.inl ⟨(by unfold fz_sOK; omega), fz_cp_e lost rfl rfl (by omega)⟩ | exact Or.inr ⟨(by unfold fz_sOK; omega), rfl⟩)⟩)
                    · exfalso; omega
              · refine fz_if_eq (tgt := 70) kX11_shift rfl (by decide) (fun c145 => ?_) (fun c145 => ?_)
                · refine fz_bipush ⟨by decide, by decide⟩ kX11_shift rfl ?_
                  exact fz_iret kX11_shift rfl rfl (fun _ => ⟨hI, hf, _, rfl, (by omega), (by first | exact Or.inl ⟨by omega, rfl⟩ | exact Or.inr (Or.inl ⟨by omega, by omega, rfl⟩) | exact Or.inr (Or.inr (Or.inl ⟨by omega, by omega, by omega, by omega, rfl⟩)) | exact Or.inr (Or.inr (Or.inr (Or.inl ⟨by omega, by omega, by omega, rfl⟩))) | exact Or.inr (Or.inr (Or.inr (Or.inr ⟨by omega, by omega, by omega, rfl⟩))) | omega), (by first | exact Or.inl ⟨(by unfold fz_sOK; omega), fz_cp_e lost (by omega) (by omega) (by omega)⟩ | exact Or.inl ⟨(by unfold fz_sOK; omega), fz_cp_e lost rfl rfl (by omega)⟩ | exact Or.inr ⟨(by unfold fz_sOK; omega), rfl⟩)⟩)
                · exfalso; omega
            · refine fz_bipush ⟨by decide, by decide⟩ kX11_shift rfl ?_
              exact fz_iret kX11_shift rfl rfl (fun _ => ⟨hI, hf, _, rfl, (by omega), (by first | exact Or.inl ⟨by omega, rfl⟩ | exact Or.inr (Or.inl ⟨by omega, by omega, rfl⟩) | exact Or.inr (Or.inr (Or.inl ⟨by omega, by omega, by omega, by omega, rfl⟩)) | exact Or.inr (Or.inr (Or.inr (Or.inl ⟨by omega, by omega, by omega, rfl⟩))) | exact Or.inr (Or.inr (Or.inr (Or.inr ⟨by omega, by omega, by omega, rfl⟩))) | omega), (by first | exact Or.inl ⟨(by unfold fz_sOK; omega), fz_cp_e lost (by omega) (by omega) (by omega)⟩ | exact Or.inl ⟨(by unfold fz_sOK; omega), fz_cp_e lost rfl rfl (by omega)⟩ | exact Or.inr ⟨(by unfold fz_sOK; omega), rfl⟩)⟩)
        · exfalso; omega
      · refine fz_if_ne (tgt := 16) kX11_shift rfl (by decide) (fun c150 => ?_) (fun c150 => ?_)
        · exfalso; omega
        · refine fz_iconst ⟨by decide, by decide⟩ kX11_shift rfl ?_
          exact fz_iret kX11_shift rfl rfl (fun _ => ⟨hI, hf, _, rfl, (by omega), (by first | exact Or.inl ⟨by omega, rfl⟩ | exact Or.inr (Or.inl ⟨by omega, by omega, rfl⟩) | exact Or.inr (Or.inr (Or.inl ⟨by omega, by omega, by omega, by omega, rfl⟩)) | exact Or.inr (Or.inr (Or.inr (Or.inl ⟨by omega, by omega, by omega, rfl⟩))) | exact Or.inr (Or.inr (Or.inr (Or.inr ⟨by omega, by omega, by omega, rfl⟩))) | omega), (by first | exact Or.inl ⟨(by unfold fz_sOK; omega), fz_cp_e lost (by omega) (by omega) (by omega)⟩ | exact Or.inl ⟨(by unfold fz_sOK; omega), fz_cp_e lost rfl rfl (by omega)⟩ | exact Or.inr ⟨(by unfold fz_sOK; omega), rfl⟩)⟩)
  · refine fz_if_eq (tgt := 14) kX11_shift rfl (by decide) (fun c153 => ?_) (fun c153 => ?_)
    · refine fz_iconst ⟨by decide, by decide⟩ kX11_shift rfl ?_
      exact fz_iret kX11_shift rfl rfl (fun _ => ⟨hI, hf, _, rfl, (by omega), (by first | exact Or.inl ⟨by omega, rfl⟩ | exact Or.inr (Or.inl ⟨by omega, by omega, rfl⟩) | exact Or.inr (Or.inr (Or.inl ⟨by omega, by omega, by omega, by omega, rfl⟩)) | exact Or.inr (Or.inr (Or.inr (Or.inl ⟨by omega, by omega, by omega, rfl⟩))) | exact Or.inr (Or.inr (Or.inr (Or.inr ⟨by omega, by omega, by omega, rfl⟩))) | omega), (by first | exact Or.inl ⟨(by unfold fz_sOK; omega), fz_cp_e lost (by omega) (by omega) (by omega)⟩ | exact Or.inl ⟨(by unfold fz_sOK; omega), fz_cp_e lost rfl rfl (by omega)⟩ | exact Or.inr ⟨(by unfold fz_sOK; omega), rfl⟩)⟩)
    · exfalso; omega

abbrev qX11_taken (h : fz_H) (s k : Int) : fz_H → Option fz_V → Prop := fun h' r0 => h' = h ∧ ∃ r : Int, r0 = some (fz_i r) ∧ ((-12) ≤ r ∧ r ≤ 7)
set_option maxHeartbeats 1000000 in
set_option maxRecDepth 100000 in
theorem sX11_taken (h : fz_H) (hI : fz_Iv h) (s k : Int) (hXh : fz_Xh h) : fz_R 2 mX11_taken 0 [(0, fz_r 53), (1, fz_i s), (2, fz_i k)] [] h (qX11_taken h s k) := by
  refine fz_knowl (fun hk => ?_)
  have hr_s : -2147483648 ≤ s ∧ s < 2147483648 := hk _ (List.Mem.tail _ (List.Mem.head _))
  have hr_k : -2147483648 ≤ k ∧ k < 2147483648 := hk _ (List.Mem.tail _ (List.Mem.tail _ (List.Mem.head _)))
  clear hk
  refine fz_iload_n kX11_taken rfl rfl ?_
  refine fz_callS (d' := 1) (M' := mX11_isShelf) (As := [fz_i s]) (st := []) kX11_taken rfl rfl vX11_isShelf rfl rfl (Nat.le_of_ble_eq_true rfl) (Nat.le_of_ble_eq_true rfl) (by decide) (sX11_isShelf h hI s ) (fun H1 r2 q3 o4 => ?_)
  obtain ⟨e5, y6, rfl, p7⟩ := q3
  subst H1
  clear o4
  rcases p7 with ⟨rfl, c8⟩ | ⟨rfl, c8⟩
  · refine fz_if_eq (tgt := 17) kX11_taken rfl (by decide) (fun c9 => ?_) (fun c9 => ?_)
    · exfalso; omega
    · refine fz_iload_n kX11_taken rfl rfl ?_
      refine fz_iconst ⟨by decide, by decide⟩ kX11_taken rfl ?_
      refine fz_bipush ⟨by decide, by decide⟩ kX11_taken rfl ?_
      refine fz_callS (d' := 0) (M' := mX11_within) (As := [fz_i k, fz_i 0, fz_i 7]) (st := []) kX11_taken rfl rfl vX11_within rfl rfl (Nat.le_of_ble_eq_true rfl) (Nat.le_of_ble_eq_true rfl) (by decide) (sX11_within h hI k 0 7 ) (fun H10 r11 q12 o13 => ?_)
      obtain ⟨e14, y15, rfl, p16⟩ := q12
      subst H10
      clear o13
      rcases p16 with ⟨rfl, c17⟩ | ⟨rfl, c17⟩
      · refine fz_if_ne (tgt := 19) kX11_taken rfl (by decide) (fun c18 => ?_) (fun c18 => ?_)
        · refine fz_aload_n kX11_taken rfl rfl ?_
          refine fz_getR (t := 83) kX11_taken rfl rfl ?_
          refine fz_iload_n kX11_taken rfl rfl ?_
          refine fz_ialdV (n := 6) (v := h 83 (s.toNat)) kX11_taken rfl rfl (by omega) (by omega) rfl ?_
          have b19 : (-1) ≤ h 83 (s.toNat) ∧ h 83 (s.toNat) ≤ 59 := hI.1 83 _
          refine fz_iconst ⟨by decide, by decide⟩ kX11_taken rfl ?_
          refine fz_icmp_ne (tgt := 32) kX11_taken rfl (by decide) (fun c20 => ?_) (fun c20 => ?_)
          · refine fz_aload_n kX11_taken rfl rfl ?_
            refine fz_iload_n kX11_taken rfl rfl ?_
            refine fz_callV (d' := 1) (M' := mX11_isRow) (As := [fz_i s]) (st := []) kX11_taken rfl rfl vX11_isRow rfl rfl rfl rfl (Nat.le_of_ble_eq_true rfl) (Nat.le_of_ble_eq_true rfl) (by decide) (sX11_isRow h hI s (by omega)) (fun H21 r22 q23 o24 => ?_)
            obtain ⟨e25, y26, rfl, p27⟩ := q23
            subst H21
            clear o24
            rcases p27 with ⟨rfl, c28⟩ | ⟨rfl, c28⟩
            · refine fz_if_eq (tgt := 43) kX11_taken rfl (by decide) (fun c29 => ?_) (fun c29 => ?_)
              · exfalso; omega
              · refine fz_bipush ⟨by decide, by decide⟩ kX11_taken rfl ?_
                exact fz_iret kX11_taken rfl rfl (fun _ => ⟨rfl, _, rfl, (by omega)⟩)
            · refine fz_if_eq (tgt := 43) kX11_taken rfl (by decide) (fun c30 => ?_) (fun c30 => ?_)
              · have k31 := hXh s.toNat
                refine fz_aload_n kX11_taken rfl rfl ?_
                refine fz_getR (t := 81) kX11_taken rfl rfl ?_
                refine fz_aload_n kX11_taken rfl rfl ?_
                refine fz_getR (t := 83) kX11_taken rfl rfl ?_
                refine fz_iload_n kX11_taken rfl rfl ?_
                refine fz_ialdV (n := 6) (v := h 83 (s.toNat)) kX11_taken rfl rfl (by omega) (by omega) rfl ?_
                refine fz_bipush ⟨by decide, by decide⟩ kX11_taken rfl ?_
                refine fz_isubN kX11_taken rfl (by omega) ?_
                refine fz_ialdV (n := 50) (v := h 81 (((h 83 (s.toNat)) - 10).toNat)) kX11_taken rfl rfl (by omega) (by omega) rfl ?_
                have b32 : 0 ≤ h 81 (((h 83 (s.toNat)) - 10).toNat) ∧ h 81 (((h 83 (s.toNat)) - 10).toNat) ≤ 7 := hI.1 81 _
                refine fz_istore_n (ls' := [(3, fz_i (h 81 (((h 83 (s.toNat)) - 10).toNat))), (0, fz_r 53), (1, fz_i s), (2, fz_i k)]) kX11_taken rfl (by decide) rfl ?_
                refine fz_iload_n kX11_taken rfl rfl ?_
                refine fz_istore (ls' := [(4, fz_i (h 81 (((h 83 (s.toNat)) - 10).toNat))), (3, fz_i (h 81 (((h 83 (s.toNat)) - 10).toNat))), (0, fz_r 53), (1, fz_i s), (2, fz_i k)]) kX11_taken rfl (by decide) rfl ?_
                have lp35 : ∀ (n34 : Nat) (x33 : Int), ((-2147483648) ≤ x33 ∧ x33 ≤ 2147483647) → (x33).toNat < n34 → fz_R 2 mX11_taken 61 [(4, fz_i x33), (3, fz_i (h 81 (((h 83 (s.toNat)) - 10).toNat))), (0, fz_r 53), (1, fz_i s), (2, fz_i k)] [] h (qX11_taken h s k) := by
                  intro n34
                  induction n34 with
                  | zero => intro x33 hv38 hm37; exact absurd hm37 (by omega)
                  | succ n34 ih36 =>
                    intro x33 hv38 hm37
                    refine fz_iload kX11_taken rfl rfl ?_
                    refine fz_iload_n kX11_taken rfl rfl ?_
                    refine fz_icmp_eq (tgt := 82) kX11_taken rfl (by decide) (fun c39 => ?_) (fun c39 => ?_)
                    · refine fz_iload kX11_taken rfl rfl ?_
                      refine fz_iload_n kX11_taken rfl rfl ?_
                      refine fz_icmp_ne (tgt := 92) kX11_taken rfl (by decide) (fun c40 => ?_) (fun c40 => ?_)
                      · refine fz_bipush ⟨by decide, by decide⟩ kX11_taken rfl ?_
                        exact fz_iret kX11_taken rfl rfl (fun _ => ⟨rfl, _, rfl, (by omega)⟩)
                      · refine fz_iload_n kX11_taken rfl rfl ?_
                        refine fz_goto (tgt := 94) kX11_taken rfl (by decide) ?_
                        exact fz_iret kX11_taken rfl rfl (fun _ => ⟨rfl, _, rfl, (by omega)⟩)
                    · refine fz_iload kX11_taken rfl rfl ?_
                      refine fz_if_le (tgt := 82) kX11_taken rfl (by decide) (fun c41 => ?_) (fun c41 => ?_)
                      · refine fz_iload kX11_taken rfl rfl ?_
                        refine fz_iload_n kX11_taken rfl rfl ?_
                        refine fz_icmp_ne (tgt := 92) kX11_taken rfl (by decide) (fun c42 => ?_) (fun c42 => ?_)
                        · refine fz_bipush ⟨by decide, by decide⟩ kX11_taken rfl ?_
                          exact fz_iret kX11_taken rfl rfl (fun _ => ⟨rfl, _, rfl, (by omega)⟩)
                        · refine fz_iload_n kX11_taken rfl rfl ?_
                          refine fz_goto (tgt := 94) kX11_taken rfl (by decide) ?_
                          exact fz_iret kX11_taken rfl rfl (fun _ => ⟨rfl, _, rfl, (by omega)⟩)
                      · refine fz_iload kX11_taken rfl rfl ?_
                        refine fz_callS (d' := 0) (M' := mX11_above) (As := [fz_i x33]) (st := []) kX11_taken rfl rfl vX11_above rfl rfl (Nat.le_of_ble_eq_true rfl) (Nat.le_of_ble_eq_true rfl) (by decide) (sX11_above h hI x33 ) (fun H43 r44 q45 o46 => ?_)
                        obtain ⟨e47, y50, rfl, f48, f49⟩ := q45
                        subst H43
                        clear o46
                        refine fz_istore (ls' := [(4, fz_i y50), (3, fz_i (h 81 (((h 83 (s.toNat)) - 10).toNat))), (0, fz_r 53), (1, fz_i s), (2, fz_i k)]) kX11_taken rfl (by decide) rfl ?_
                        refine fz_goto (tgt := 61) kX11_taken rfl (by decide) ?_
                        exact ih36 y50 (by omega) (by omega)
                exact lp35 _ (h 81 (((h 83 (s.toNat)) - 10).toNat)) (by omega) (Nat.lt_succ_self _)
              · exfalso; omega
          · refine fz_bipush ⟨by decide, by decide⟩ kX11_taken rfl ?_
            exact fz_iret kX11_taken rfl rfl (fun _ => ⟨rfl, _, rfl, (by omega)⟩)
        · exfalso; omega
      · refine fz_if_ne (tgt := 19) kX11_taken rfl (by decide) (fun c51 => ?_) (fun c51 => ?_)
        · exfalso; omega
        · refine fz_iconst ⟨by decide, by decide⟩ kX11_taken rfl ?_
          exact fz_iret kX11_taken rfl rfl (fun _ => ⟨rfl, _, rfl, (by omega)⟩)
  · refine fz_if_eq (tgt := 17) kX11_taken rfl (by decide) (fun c52 => ?_) (fun c52 => ?_)
    · refine fz_iconst ⟨by decide, by decide⟩ kX11_taken rfl ?_
      exact fz_iret kX11_taken rfl rfl (fun _ => ⟨rfl, _, rfl, (by omega)⟩)
    · exfalso; omega

abbrev qX11_count (h : fz_H) (wh : Int) : fz_H → Option fz_V → Prop := fun h' r0 => h' = h ∧ ∃ r : Int, r0 = some (fz_i r) ∧ ((-1) ≤ r ∧ r ≤ 1000) ∧ ((wh = 0 ∧ r = h 53 0) ∨ (wh = 1 ∧ r = h 53 2) ∨ (wh = 2 ∧ r = h 53 10) ∨ (wh = 3 ∧ r = h 53 16) ∨ (wh = 4 ∧ r = h 53 42) ∨ (wh = 5 ∧ r = h 53 44) ∨ (wh = 6 ∧ r = h 53 46) ∨ (¬ (0 ≤ wh ∧ wh ≤ 6) ∧ r = -1))
set_option maxHeartbeats 1000000 in
set_option maxRecDepth 100000 in
theorem sX11_count (h : fz_H) (hI : fz_Iv h) (wh : Int) : fz_R 0 mX11_count 0 [(0, fz_r 53), (1, fz_i wh)] [] h (qX11_count h wh) := by
  refine fz_knowl (fun hk => ?_)
  have hr_wh : -2147483648 ≤ wh ∧ wh < 2147483648 := hk _ (List.Mem.tail _ (List.Mem.head _))
  clear hk
  have b1 : 0 ≤ h 53 0 ∧ h 53 0 ≤ 8 := hI.1 53 _
  have b2 : 0 ≤ h 53 2 ∧ h 53 2 ≤ 12 := hI.1 53 _
  have b3 : 0 ≤ h 53 10 ∧ h 53 10 ≤ 11 := hI.1 53 _
  have b4 : 0 ≤ h 53 16 ∧ h 53 16 ≤ 120 := hI.1 53 _
  have b5 : 0 ≤ h 53 42 ∧ h 53 42 ≤ 40 := hI.1 53 _
  have b6 : 0 ≤ h 53 44 ∧ h 53 44 ≤ 50 := hI.1 53 _
  have b7 : 0 ≤ h 53 46 ∧ h 53 46 ≤ 1000 := hI.1 53 _
  refine fz_iload_n kX11_count rfl rfl ?_
  rcases (show wh = 0 ∨ wh = 1 ∨ wh = 2 ∨ wh = 3 ∨ wh = 4 ∨ wh = 5 ∨ wh = 6 ∨ (wh < 0 ∨ 6 < wh) by omega) with c8 | c8 | c8 | c8 | c8 | c8 | c8 | c8
  · refine fz_tswC (j := 0) (tgt := 44) kX11_count rfl c8 (by decide) (by decide) rfl (by decide) ?_
    refine fz_aload_n kX11_count rfl rfl ?_
    refine fz_getV (v := h 53 0) kX11_count rfl rfl rfl ?_
    have b9 : 0 ≤ h 53 0 ∧ h 53 0 ≤ 8 := hI.1 53 _
    exact fz_iret kX11_count rfl rfl (fun _ => ⟨rfl, _, rfl, (by omega), (by first | exact Or.inl ⟨by omega, rfl⟩ | exact Or.inr (Or.inl ⟨by omega, rfl⟩) | exact Or.inr (Or.inr (Or.inl ⟨by omega, rfl⟩)) | exact Or.inr (Or.inr (Or.inr (Or.inl ⟨by omega, rfl⟩))) | exact Or.inr (Or.inr (Or.inr (Or.inr (Or.inl ⟨by omega, rfl⟩)))) | exact Or.inr (Or.inr (Or.inr (Or.inr (Or.inr (Or.inl ⟨by omega, rfl⟩))))) | exact Or.inr (Or.inr (Or.inr (Or.inr (Or.inr (Or.inr (Or.inl ⟨by omega, rfl⟩)))))) | exact Or.inr (Or.inr (Or.inr (Or.inr (Or.inr (Or.inr (Or.inr (⟨by omega, rfl⟩))))))) | omega)⟩)
  · refine fz_tswC (j := 1) (tgt := 49) kX11_count rfl c8 (by decide) (by decide) rfl (by decide) ?_
    refine fz_aload_n kX11_count rfl rfl ?_
    refine fz_getV (v := h 53 2) kX11_count rfl rfl rfl ?_
    have b11 : 0 ≤ h 53 2 ∧ h 53 2 ≤ 12 := hI.1 53 _
    exact fz_iret kX11_count rfl rfl (fun _ => ⟨rfl, _, rfl, (by omega), (by first | exact Or.inl ⟨by omega, rfl⟩ | exact Or.inr (Or.inl ⟨by omega, rfl⟩) | exact Or.inr (Or.inr (Or.inl ⟨by omega, rfl⟩)) | exact Or.inr (Or.inr (Or.inr (Or.inl ⟨by omega, rfl⟩))) | exact Or.inr (Or.inr (Or.inr (Or.inr (Or.inl ⟨by omega, rfl⟩)))) | exact Or.inr (Or.inr (Or.inr (Or.inr (Or.inr (Or.inl ⟨by omega, rfl⟩))))) | exact Or.inr (Or.inr (Or.inr (Or.inr (Or.inr (Or.inr (Or.inl ⟨by omega, rfl⟩)))))) | exact Or.inr (Or.inr (Or.inr (Or.inr (Or.inr (Or.inr (Or.inr (⟨by omega, rfl⟩))))))) | omega)⟩)
  · refine fz_tswC (j := 2) (tgt := 54) kX11_count rfl c8 (by decide) (by decide) rfl (by decide) ?_
    refine fz_aload_n kX11_count rfl rfl ?_
    refine fz_getV (v := h 53 10) kX11_count rfl rfl rfl ?_
    have b13 : 0 ≤ h 53 10 ∧ h 53 10 ≤ 11 := hI.1 53 _
    exact fz_iret kX11_count rfl rfl (fun _ => ⟨rfl, _, rfl, (by omega), (by first | exact Or.inl ⟨by omega, rfl⟩ | exact Or.inr (Or.inl ⟨by omega, rfl⟩) | exact Or.inr (Or.inr (Or.inl ⟨by omega, rfl⟩)) | exact Or.inr (Or.inr (Or.inr (Or.inl ⟨by omega, rfl⟩))) | exact Or.inr (Or.inr (Or.inr (Or.inr (Or.inl ⟨by omega, rfl⟩)))) | exact Or.inr (Or.inr (Or.inr (Or.inr (Or.inr (Or.inl ⟨by omega, rfl⟩))))) | exact Or.inr (Or.inr (Or.inr (Or.inr (Or.inr (Or.inr (Or.inl ⟨by omega, rfl⟩)))))) | exact Or.inr (Or.inr (Or.inr (Or.inr (Or.inr (Or.inr (Or.inr (⟨by omega, rfl⟩))))))) | omega)⟩)
  · refine fz_tswC (j := 3) (tgt := 59) kX11_count rfl c8 (by decide) (by decide) rfl (by decide) ?_
    refine fz_aload_n kX11_count rfl rfl ?_
    refine fz_getV (v := h 53 16) kX11_count rfl rfl rfl ?_
    have b15 : 0 ≤ h 53 16 ∧ h 53 16 ≤ 120 := hI.1 53 _
    exact fz_iret kX11_count rfl rfl (fun _ => ⟨rfl, _, rfl, (by omega), (by first | exact Or.inl ⟨by omega, rfl⟩ | exact Or.inr (Or.inl ⟨by omega, rfl⟩) | exact Or.inr (Or.inr (Or.inl ⟨by omega, rfl⟩)) | exact Or.inr (Or.inr (Or.inr (Or.inl ⟨by omega, rfl⟩))) | exact Or.inr (Or.inr (Or.inr (Or.inr (Or.inl ⟨by omega, rfl⟩)))) | exact Or.inr (Or.inr (Or.inr (Or.inr (Or.inr (Or.inl ⟨by omega, rfl⟩))))) | exact Or.inr (Or.inr (Or.inr (Or.inr (Or.inr (Or.inr (Or.inl ⟨by omega, rfl⟩)))))) | exact Or.inr (Or.inr (Or.inr (Or.inr (Or.inr (Or.inr (Or.inr (⟨by omega, rfl⟩))))))) | omega)⟩)
  · refine fz_tswC (j := 4) (tgt := 64) kX11_count rfl c8 (by decide) (by decide) rfl (by decide) ?_
    refine fz_aload_n kX11_count rfl rfl ?_
    refine fz_getV (v := h 53 42) kX11_count rfl rfl rfl ?_
    have b17 : 0 ≤ h 53 42 ∧ h 53 42 ≤ 40 := hI.1 53 _
    exact fz_iret kX11_count rfl rfl (fun _ => ⟨rfl, _, rfl, (by omega), (by first | exact Or.inl ⟨by omega, rfl⟩ | exact Or.inr (Or.inl ⟨by omega, rfl⟩) | exact Or.inr (Or.inr (Or.inl ⟨by omega, rfl⟩)) | exact Or.inr (Or.inr (Or.inr (Or.inl ⟨by omega, rfl⟩))) | exact Or.inr (Or.inr (Or.inr (Or.inr (Or.inl ⟨by omega, rfl⟩)))) | exact Or.inr (Or.inr (Or.inr (Or.inr (Or.inr (Or.inl ⟨by omega, rfl⟩))))) | exact Or.inr (Or.inr (Or.inr (Or.inr (Or.inr (Or.inr (Or.inl ⟨by omega, rfl⟩)))))) | exact Or.inr (Or.inr (Or.inr (Or.inr (Or.inr (Or.inr (Or.inr (⟨by omega, rfl⟩))))))) | omega)⟩)
  · refine fz_tswC (j := 5) (tgt := 69) kX11_count rfl c8 (by decide) (by decide) rfl (by decide) ?_
    refine fz_aload_n kX11_count rfl rfl ?_
    refine fz_getV (v := h 53 44) kX11_count rfl rfl rfl ?_
    have b19 : 0 ≤ h 53 44 ∧ h 53 44 ≤ 50 := hI.1 53 _
    exact fz_iret kX11_count rfl rfl (fun _ => ⟨rfl, _, rfl, (by omega), (by first | exact Or.inl ⟨by omega, rfl⟩ | exact Or.inr (Or.inl ⟨by omega, rfl⟩) | exact Or.inr (Or.inr (Or.inl ⟨by omega, rfl⟩)) | exact Or.inr (Or.inr (Or.inr (Or.inl ⟨by omega, rfl⟩))) | exact Or.inr (Or.inr (Or.inr (Or.inr (Or.inl ⟨by omega, rfl⟩)))) | exact Or.inr (Or.inr (Or.inr (Or.inr (Or.inr (Or.inl ⟨by omega, rfl⟩))))) | exact Or.inr (Or.inr (Or.inr (Or.inr (Or.inr (Or.inr (Or.inl ⟨by omega, rfl⟩)))))) | exact Or.inr (Or.inr (Or.inr (Or.inr (Or.inr (Or.inr (Or.inr (⟨by omega, rfl⟩))))))) | omega)⟩)
  · refine fz_tswC (j := 6) (tgt := 74) kX11_count rfl c8 (by decide) (by decide) rfl (by decide) ?_
    refine fz_aload_n kX11_count rfl rfl ?_
    refine fz_getV (v := h 53 46) kX11_count rfl rfl rfl ?_
    have b21 : 0 ≤ h 53 46 ∧ h 53 46 ≤ 1000 := hI.1 53 _
    exact fz_iret kX11_count rfl rfl (fun _ => ⟨rfl, _, rfl, (by omega), (by first | exact Or.inl ⟨by omega, rfl⟩ | exact Or.inr (Or.inl ⟨by omega, rfl⟩) | exact Or.inr (Or.inr (Or.inl ⟨by omega, rfl⟩)) | exact Or.inr (Or.inr (Or.inr (Or.inl ⟨by omega, rfl⟩))) | exact Or.inr (Or.inr (Or.inr (Or.inr (Or.inl ⟨by omega, rfl⟩)))) | exact Or.inr (Or.inr (Or.inr (Or.inr (Or.inr (Or.inl ⟨by omega, rfl⟩))))) | exact Or.inr (Or.inr (Or.inr (Or.inr (Or.inr (Or.inr (Or.inl ⟨by omega, rfl⟩)))))) | exact Or.inr (Or.inr (Or.inr (Or.inr (Or.inr (Or.inr (Or.inr (⟨by omega, rfl⟩))))))) | omega)⟩)
  · refine fz_tswO (tgt := 79) kX11_count rfl c8 (by decide) ?_
    refine fz_iconst ⟨by decide, by decide⟩ kX11_count rfl ?_
    exact fz_iret kX11_count rfl rfl (fun _ => ⟨rfl, _, rfl, (by omega), (by first | exact Or.inl ⟨by omega, rfl⟩ | exact Or.inr (Or.inl ⟨by omega, rfl⟩) | exact Or.inr (Or.inr (Or.inl ⟨by omega, rfl⟩)) | exact Or.inr (Or.inr (Or.inr (Or.inl ⟨by omega, rfl⟩))) | exact Or.inr (Or.inr (Or.inr (Or.inr (Or.inl ⟨by omega, rfl⟩)))) | exact Or.inr (Or.inr (Or.inr (Or.inr (Or.inr (Or.inl ⟨by omega, rfl⟩))))) | exact Or.inr (Or.inr (Or.inr (Or.inr (Or.inr (Or.inr (Or.inl ⟨by omega, rfl⟩)))))) | exact Or.inr (Or.inr (Or.inr (Or.inr (Or.inr (Or.inr (Or.inr (⟨by omega, rfl⟩))))))) | omega)⟩)

abbrev qX11_deeds (h : fz_H) (s i n : Int) : fz_H → Option fz_V → Prop := fun h' r0 => fz_Iv h' ∧ fz_fr [(53, 10), (60, 99999), (61, 99999), (62, 99999), (63, 99999), (64, 99999)] h h' ∧ ∃ r : Int, r0 = some (fz_i r) ∧ ((-12) ≤ r ∧ r ≤ 10) ∧ (h' 53 10 ≤ 10) ∧ (fz_qM h h' s i n r) ∧ (fz_apM h h' (h' 53 10 - h 53 10) (fun k => fz_row5 (h 85) (60 * s + (i + 5 * k))))
set_option maxHeartbeats 1000000 in
set_option maxRecDepth 100000 in
theorem sX11_deeds (h : fz_H) (hI : fz_Iv h) (s i n : Int) (hp0 : h 53 10 ≤ 10) : fz_R 2 mX11_deeds 0 [(0, fz_r 53), (1, fz_i s), (2, fz_i i), (3, fz_i n)] [] h (qX11_deeds h s i n) := by
  refine fz_knowl (fun hk => ?_)
  have hr_s : -2147483648 ≤ s ∧ s < 2147483648 := hk _ (List.Mem.tail _ (List.Mem.head _))
  have hr_i : -2147483648 ≤ i ∧ i < 2147483648 := hk _ (List.Mem.tail _ (List.Mem.tail _ (List.Mem.head _)))
  have hr_n : -2147483648 ≤ n ∧ n < 2147483648 := hk _ (List.Mem.tail _ (List.Mem.tail _ (List.Mem.tail _ (List.Mem.head _))))
  clear hk
  have hf : fz_fr [(53, 10), (60, 99999), (61, 99999), (62, 99999), (63, 99999), (64, 99999)] h h := fz_fr_rf
  have b1 : 0 ≤ h 53 10 ∧ h 53 10 ≤ 11 := hI.1 53 _
  refine fz_iload_n kX11_deeds rfl rfl ?_
  refine fz_callS (d' := 1) (M' := mX11_isShelf) (As := [fz_i s]) (st := []) kX11_deeds rfl rfl vX11_isShelf rfl rfl (Nat.le_of_ble_eq_true rfl) (Nat.le_of_ble_eq_true rfl) (by decide) (sX11_isShelf h hI s ) (fun H2 r3 q4 o5 => ?_)
  obtain ⟨e6, y7, rfl, p8⟩ := q4
  subst H2
  clear o5
  rcases p8 with ⟨rfl, c9⟩ | ⟨rfl, c9⟩
  · refine fz_if_eq (tgt := 17) kX11_deeds rfl (by decide) (fun c10 => ?_) (fun c10 => ?_)
    · exfalso; omega
    · refine fz_iload_n kX11_deeds rfl rfl ?_
      refine fz_iconst ⟨by decide, by decide⟩ kX11_deeds rfl ?_
      refine fz_bipush ⟨by decide, by decide⟩ kX11_deeds rfl ?_
      refine fz_callS (d' := 0) (M' := mX11_within) (As := [fz_i n, fz_i 1, fz_i 10]) (st := []) kX11_deeds rfl rfl vX11_within rfl rfl (Nat.le_of_ble_eq_true rfl) (Nat.le_of_ble_eq_true rfl) (by decide) (sX11_within h hI n 1 10 ) (fun H11 r12 q13 o14 => ?_)
      obtain ⟨e15, y16, rfl, p17⟩ := q13
      subst H11
      clear o14
      rcases p17 with ⟨rfl, c18⟩ | ⟨rfl, c18⟩
      · refine fz_if_ne (tgt := 19) kX11_deeds rfl (by decide) (fun c19 => ?_) (fun c19 => ?_)
        · refine fz_aload_n kX11_deeds rfl rfl ?_
          refine fz_getR (t := 83) kX11_deeds rfl rfl ?_
          refine fz_iload_n kX11_deeds rfl rfl ?_
          refine fz_ialdV (n := 6) (v := h 83 (s.toNat)) kX11_deeds rfl rfl (by omega) (by omega) rfl ?_
          have b20 : (-1) ≤ h 83 (s.toNat) ∧ h 83 (s.toNat) ≤ 59 := hI.1 83 _
          refine fz_iconst ⟨by decide, by decide⟩ kX11_deeds rfl ?_
          refine fz_icmp_ne (tgt := 31) kX11_deeds rfl (by decide) (fun c21 => ?_) (fun c21 => ?_)
          · refine fz_aload_n kX11_deeds rfl rfl ?_
            refine fz_getR (t := 83) kX11_deeds rfl rfl ?_
            refine fz_iload_n kX11_deeds rfl rfl ?_
            refine fz_ialdV (n := 6) (v := h 83 (s.toNat)) kX11_deeds rfl rfl (by omega) (by omega) rfl ?_
            refine fz_iconst ⟨by decide, by decide⟩ kX11_deeds rfl ?_
            refine fz_icmp_eq (tgt := 44) kX11_deeds rfl (by decide) (fun c22 => ?_) (fun c22 => ?_)
            · refine fz_iconst ⟨by decide, by decide⟩ kX11_deeds rfl ?_
              refine fz_istore (ls' := [(4, fz_i 0), (0, fz_r 53), (1, fz_i s), (2, fz_i i), (3, fz_i n)]) kX11_deeds rfl (by decide) rfl ?_
              refine fz_iconst ⟨by decide, by decide⟩ kX11_deeds rfl ?_
              refine fz_istore (ls' := [(5, fz_i 0), (4, fz_i 0), (0, fz_r 53), (1, fz_i s), (2, fz_i i), (3, fz_i n)]) kX11_deeds rfl (by decide) rfl ?_
              have lp29 : ∀ (n28 : Nat) (x23 : Int) (x24 : Int) (H25 : fz_H), fz_Iv H25 → fz_fr [(53, 10), (60, 99999), (61, 99999), (62, 99999), (63, 99999), (64, 99999)] h H25 → (0 ≤ x23 ∧ x23 ≤ 10) → (0 ≤ x24 ∧ x24 ≤ 10) → (x24 = x23) → (x23 ≤ n) → (H25 53 10 = h 53 10 + x23) → (H25 53 10 ≤ 10) → (∀ k : Int, 0 ≤ k → k < x23 → fz_k5 (h 85) (h 53 0) (h 84 s.toNat) (60 * s) (i + 5 * k) (h 53 10 + k)) → (fz_apM h H25 x23 (fun k => fz_row5 (h 85) (60 * s + (i + 5 * k)))) → (n - x23).toNat < n28 → fz_R 2 mX11_deeds 50 [(5, fz_i x23), (4, fz_i x24), (0, fz_r 53), (1, fz_i s), (2, fz_i i), (3, fz_i n)] [] H25 (qX11_deeds h s i n) := by
                intro n28
                induction n28 with
                | zero => intro x23 x24 H25 hI26 hf27 hv32 hv33 hv34 hv35 hv36 hv37 hv38 hv39 hm31; exact absurd hm31 (by omega)
                | succ n28 ih30 =>
                  intro x23 x24 H25 hI26 hf27 hv32 hv33 hv34 hv35 hv36 hv37 hv38 hv39 hm31
                  refine fz_iload kX11_deeds rfl rfl ?_
                  refine fz_iload_n kX11_deeds rfl rfl ?_
                  refine fz_icmp_ge (tgt := 261) kX11_deeds rfl (by decide) (fun c40 => ?_) (fun c40 => ?_)
                  · refine fz_iload kX11_deeds rfl rfl ?_
                    exact fz_iret kX11_deeds rfl rfl (fun _ => ⟨hI26, hf27, _, rfl, (by omega), (by omega), (by first | exact Or.inr (Or.inl ⟨by omega, by omega, by omega⟩) | exact Or.inr (Or.inr (Or.inl ⟨by omega, by omega, by omega, by omega⟩)) | exact Or.inr (Or.inr (Or.inr ⟨by omega, by omega, by omega, by omega, by omega⟩)) | exact Or.inl ⟨by omega, ⟨by omega, by omega, fun k a b => hv38 k a (by omega), Or.inr (by rw [lost]; unfold fz_k5 fz_five; omega)⟩, by omega⟩ | exact Or.inl ⟨by omega, ⟨by omega, by omega, fun k a b => hv38 k a (by omega), Or.inl (by omega)⟩, by omega⟩), (by first | exact fz_apM_r hv39 (by omega) | exact fz_apM_z (by omega))⟩)
                  · have k43 : x24 = x23 := by omega
                    refine fz_iload_n kX11_deeds rfl rfl ?_
                    refine fz_i2l kX11_deeds rfl ?_
                    refine fz_ldc2 (x := 5) kX11_deeds rfl rfl rfl ?_
                    refine fz_iload kX11_deeds rfl rfl ?_
                    refine fz_i2l kX11_deeds rfl ?_
                    refine fz_lmulN kX11_deeds rfl (by omega) ?_
                    refine fz_laddN kX11_deeds rfl (by omega) ?_
                    refine fz_lstore (ls' := [(6, fz_l (i + (5 * x23))), (5, fz_i x23), (4, fz_i x24), (0, fz_r 53), (1, fz_i s), (2, fz_i i), (3, fz_i n)]) kX11_deeds rfl (by decide) rfl ?_
                    refine fz_lload kX11_deeds rfl rfl ?_
                    refine fz_lconst (x := 0) ⟨by decide, by decide⟩ rfl kX11_deeds rfl ?_
                    refine fz_lcmp kX11_deeds rfl ?_
                    have b45 := fz_cmp_c (i + (5 * x23)) 0
                    refine fz_if_lt (tgt := 101) kX11_deeds rfl (by decide) (fun c46 => ?_) (fun c46 => ?_)
                    · refine fz_iload kX11_deeds rfl rfl ?_
                      exact fz_iret kX11_deeds rfl rfl (fun _ => ⟨hI26, hf27, _, rfl, (by omega), (by omega), (by first | exact Or.inr (Or.inl ⟨by omega, by omega, by omega⟩) | exact Or.inr (Or.inr (Or.inl ⟨by omega, by omega, by omega, by omega⟩)) | exact Or.inr (Or.inr (Or.inr ⟨by omega, by omega, by omega, by omega, by omega⟩)) | exact Or.inl ⟨by omega, ⟨by omega, by omega, fun k a b => hv38 k a (by omega), Or.inr (by rw [k43]; unfold fz_k5 fz_five; omega)⟩, by omega⟩ | exact Or.inl ⟨by omega, ⟨by omega, by omega, fun k a b => hv38 k a (by omega), Or.inl (by omega)⟩, by omega⟩), (by first | exact fz_apM_r hv39 (by omega) | exact fz_apM_z (by omega))⟩)
                    · refine fz_lload kX11_deeds rfl rfl ?_
                      refine fz_ldc2 (x := 5) kX11_deeds rfl rfl rfl ?_
                      refine fz_laddN kX11_deeds rfl (by omega) ?_
                      refine fz_aload_n kX11_deeds rfl rfl ?_
                      refine fz_getR (t := 84) kX11_deeds rfl rfl ?_
                      refine fz_iload_n kX11_deeds rfl rfl ?_
                      refine fz_ialdV (n := 6) (v := h 84 (s.toNat)) kX11_deeds rfl rfl (by omega) (by omega) (hf27 84 _ rfl) ?_
                      have b49 : 0 ≤ h 84 (s.toNat) ∧ h 84 (s.toNat) ≤ 60 := hI.1 84 _
                      refine fz_i2l kX11_deeds rfl ?_
                      refine fz_lcmp kX11_deeds rfl ?_
                      have b50 := fz_cmp_c ((i + (5 * x23)) + 5) (h 84 (s.toNat))
                      refine fz_if_gt (tgt := 101) kX11_deeds rfl (by decide) (fun c51 => ?_) (fun c51 => ?_)
                      · refine fz_iload kX11_deeds rfl rfl ?_
                        exact fz_iret kX11_deeds rfl rfl (fun _ => ⟨hI26, hf27, _, rfl, (by omega), (by omega), (by first | exact Or.inr (Or.inl ⟨by omega, by omega, by omega⟩) | exact Or.inr (Or.inr (Or.inl ⟨by omega, by omega, by omega, by omega⟩)) | exact Or.inr (Or.inr (Or.inr ⟨by omega, by omega, by omega, by omega, by omega⟩)) | exact Or.inl ⟨by omega, ⟨by omega, by omega, fun k a b => hv38 k a (by omega), Or.inr (by rw [k43]; unfold fz_k5 fz_five; omega)⟩, by omega⟩ | exact Or.inl ⟨by omega, ⟨by omega, by omega, fun k a b => hv38 k a (by omega), Or.inl (by omega)⟩, by omega⟩), (by first | exact fz_apM_r hv39 (by omega) | exact fz_apM_z (by omega))⟩)
                      · refine fz_aload_n kX11_deeds rfl rfl ?_
                        obtain ⟨v54, e55⟩ : ∃ z, H25 53 (10) = z := ⟨_, rfl⟩
                        refine fz_getV (v := v54) kX11_deeds rfl rfl e55 ?_
                        have b56 : 0 ≤ v54 ∧ v54 ≤ 11 := by rw [← e55]; exact hI26.1 53 _
                        refine fz_bipush ⟨by decide, by decide⟩ kX11_deeds rfl ?_
                        refine fz_icmp_ne (tgt := 104) kX11_deeds rfl (by decide) (fun c57 => ?_) (fun c57 => ?_)
                        · refine fz_bipush ⟨by decide, by decide⟩ kX11_deeds rfl ?_
                          refine fz_iload_n kX11_deeds rfl rfl ?_
                          refine fz_imulN kX11_deeds rfl (by omega) ?_
                          refine fz_lload kX11_deeds rfl rfl ?_
                          refine fz_l2i kX11_deeds rfl ?_
                          refine fz_eqi (fz_w_id (by omega) (by omega)) ?_
                          refine fz_iaddN kX11_deeds rfl (by omega) ?_
                          refine fz_istore (ls' := [(8, fz_i ((60 * s) + (i + (5 * x23)))), (6, fz_l (i + (5 * x23))), (5, fz_i x23), (4, fz_i x24), (0, fz_r 53), (1, fz_i s), (2, fz_i i), (3, fz_i n)]) kX11_deeds rfl (by decide) rfl ?_
                          refine fz_aload_n kX11_deeds rfl rfl ?_
                          refine fz_getR (t := 85) kX11_deeds rfl rfl ?_
                          refine fz_iload kX11_deeds rfl rfl ?_
                          refine fz_laldV (n := 360) (v := h 85 (((60 * s) + (i + (5 * x23))).toNat)) kX11_deeds rfl rfl (by omega) (by omega) (hf27 85 _ rfl) ?_
                          have b58 : (-9223372036854775808) ≤ h 85 (((60 * s) + (i + (5 * x23))).toNat) ∧ h 85 (((60 * s) + (i + (5 * x23))).toNat) ≤ 9223372036854775807 := hI.1 85 _
                          refine fz_l2i kX11_deeds rfl ?_
                          have b59 : -2147483648 ≤ (fz_w (h 85 (((60 * s) + (i + (5 * x23))).toNat))) ∧ (fz_w (h 85 (((60 * s) + (i + (5 * x23))).toNat))) < 2147483648 := fz_w_b _
                          refine fz_callS (d' := 1) (M' := mX11_isPerson) (As := [fz_i (fz_w (h 85 (((60 * s) + (i + (5 * x23))).toNat)))]) (st := []) kX11_deeds rfl rfl vX11_isPerson rfl rfl (Nat.le_of_ble_eq_true rfl) (Nat.le_of_ble_eq_true rfl) (by decide) (sX11_isPerson H25 hI26 (fz_w (h 85 (((60 * s) + (i + (5 * x23))).toNat))) ) (fun H60 r61 q62 o63 => ?_)
                          obtain ⟨e64, y65, rfl, p66⟩ := q62
                          subst H60
                          clear o63
                          rcases p66 with ⟨rfl, c67⟩ | ⟨rfl, c67⟩
                          · refine fz_if_eq (tgt := 196) kX11_deeds rfl (by decide) (fun c68 => ?_) (fun c68 => ?_)
                            · exfalso; omega
                            · refine fz_aload_n kX11_deeds rfl rfl ?_
                              refine fz_aload_n kX11_deeds rfl rfl ?_
                              refine fz_getR (t := 85) kX11_deeds rfl rfl ?_
                              refine fz_iload kX11_deeds rfl rfl ?_
                              refine fz_iconst ⟨by decide, by decide⟩ kX11_deeds rfl ?_
                              refine fz_iaddN kX11_deeds rfl (by omega) ?_
                              refine fz_laldV (n := 360) (v := h 85 ((((60 * s) + (i + (5 * x23))) + 1).toNat)) kX11_deeds rfl rfl (by omega) (by omega) (hf27 85 _ rfl) ?_
                              have b69 : (-9223372036854775808) ≤ h 85 ((((60 * s) + (i + (5 * x23))) + 1).toNat) ∧ h 85 ((((60 * s) + (i + (5 * x23))) + 1).toNat) ≤ 9223372036854775807 := hI.1 85 _
                              refine fz_l2i kX11_deeds rfl ?_
                              have b70 : -2147483648 ≤ (fz_w (h 85 ((((60 * s) + (i + (5 * x23))) + 1).toNat))) ∧ (fz_w (h 85 ((((60 * s) + (i + (5 * x23))) + 1).toNat))) < 2147483648 := fz_w_b _
                              have b71 : 0 ≤ h 53 0 ∧ h 53 0 ≤ 8 := hI.1 53 _
                              have e72 : H25 53 0 = h 53 0 := hf27 53 0 rfl
                              refine fz_callV (d' := 1) (M' := mX11_isTown) (As := [fz_i (fz_w (h 85 ((((60 * s) + (i + (5 * x23))) + 1).toNat)))]) (st := []) kX11_deeds rfl rfl vX11_isTown rfl rfl rfl rfl (Nat.le_of_ble_eq_true rfl) (Nat.le_of_ble_eq_true rfl) (by decide) (sX11_isTown H25 hI26 (fz_w (h 85 ((((60 * s) + (i + (5 * x23))) + 1).toNat))) ) (fun H73 r74 q75 o76 => ?_)
                              obtain ⟨e77, y78, rfl, p79⟩ := q75
                              subst H73
                              clear o76
                              rcases p79 with ⟨rfl, c80⟩ | ⟨rfl, c80⟩
                              · refine fz_if_eq (tgt := 196) kX11_deeds rfl (by decide) (fun c81 => ?_) (fun c81 => ?_)
                                · exfalso; omega
                                · refine fz_aload_n kX11_deeds rfl rfl ?_
                                  refine fz_getR (t := 85) kX11_deeds rfl rfl ?_
                                  refine fz_iload kX11_deeds rfl rfl ?_
                                  refine fz_iconst ⟨by decide, by decide⟩ kX11_deeds rfl ?_
                                  refine fz_iaddN kX11_deeds rfl (by omega) ?_
                                  refine fz_laldV (n := 360) (v := h 85 ((((60 * s) + (i + (5 * x23))) + 2).toNat)) kX11_deeds rfl rfl (by omega) (by omega) (hf27 85 _ rfl) ?_
                                  have b82 : (-9223372036854775808) ≤ h 85 ((((60 * s) + (i + (5 * x23))) + 2).toNat) ∧ h 85 ((((60 * s) + (i + (5 * x23))) + 2).toNat) ≤ 9223372036854775807 := hI.1 85 _
                                  refine fz_l2i kX11_deeds rfl ?_
                                  have b83 : -2147483648 ≤ (fz_w (h 85 ((((60 * s) + (i + (5 * x23))) + 2).toNat))) ∧ (fz_w (h 85 ((((60 * s) + (i + (5 * x23))) + 2).toNat))) < 2147483648 := fz_w_b _
                                  refine fz_callS (d' := 1) (M' := mX11_isHour) (As := [fz_i (fz_w (h 85 ((((60 * s) + (i + (5 * x23))) + 2).toNat)))]) (st := []) kX11_deeds rfl rfl vX11_isHour rfl rfl (Nat.le_of_ble_eq_true rfl) (Nat.le_of_ble_eq_true rfl) (by decide) (sX11_isHour H25 hI26 (fz_w (h 85 ((((60 * s) + (i + (5 * x23))) + 2).toNat))) ) (fun H84 r85 q86 o87 => ?_)
                                  obtain ⟨e88, y89, rfl, p90⟩ := q86
                                  subst H84
                                  clear o87
                                  rcases p90 with ⟨rfl, c91⟩ | ⟨rfl, c91⟩
                                  · refine fz_if_eq (tgt := 196) kX11_deeds rfl (by decide) (fun c92 => ?_) (fun c92 => ?_)
                                    · exfalso; omega
                                    · refine fz_aload_n kX11_deeds rfl rfl ?_
                                      refine fz_getR (t := 85) kX11_deeds rfl rfl ?_
                                      refine fz_iload kX11_deeds rfl rfl ?_
                                      refine fz_iconst ⟨by decide, by decide⟩ kX11_deeds rfl ?_
                                      refine fz_iaddN kX11_deeds rfl (by omega) ?_
                                      refine fz_laldV (n := 360) (v := h 85 ((((60 * s) + (i + (5 * x23))) + 3).toNat)) kX11_deeds rfl rfl (by omega) (by omega) (hf27 85 _ rfl) ?_
                                      have b93 : (-9223372036854775808) ≤ h 85 ((((60 * s) + (i + (5 * x23))) + 3).toNat) ∧ h 85 ((((60 * s) + (i + (5 * x23))) + 3).toNat) ≤ 9223372036854775807 := hI.1 85 _
                                      refine fz_l2i kX11_deeds rfl ?_
                                      have b94 : -2147483648 ≤ (fz_w (h 85 ((((60 * s) + (i + (5 * x23))) + 3).toNat))) ∧ (fz_w (h 85 ((((60 * s) + (i + (5 * x23))) + 3).toNat))) < 2147483648 := fz_w_b _
                                      refine fz_callS (d' := 1) (M' := mX11_isMark) (As := [fz_i (fz_w (h 85 ((((60 * s) + (i + (5 * x23))) + 3).toNat)))]) (st := []) kX11_deeds rfl rfl vX11_isMark rfl rfl (Nat.le_of_ble_eq_true rfl) (Nat.le_of_ble_eq_true rfl) (by decide) (sX11_isMark H25 hI26 (fz_w (h 85 ((((60 * s) + (i + (5 * x23))) + 3).toNat))) ) (fun H95 r96 q97 o98 => ?_)
                                      obtain ⟨e99, y100, rfl, p101⟩ := q97
                                      subst H95
                                      clear o98
                                      rcases p101 with ⟨rfl, c102⟩ | ⟨rfl, c102⟩
                                      · refine fz_if_eq (tgt := 196) kX11_deeds rfl (by decide) (fun c103 => ?_) (fun c103 => ?_)
                                        · exfalso; omega
                                        · refine fz_aload_n kX11_deeds rfl rfl ?_
                                          refine fz_getR (t := 85) kX11_deeds rfl rfl ?_
                                          refine fz_iload kX11_deeds rfl rfl ?_
                                          refine fz_iconst ⟨by decide, by decide⟩ kX11_deeds rfl ?_
                                          refine fz_iaddN kX11_deeds rfl (by omega) ?_
                                          refine fz_laldV (n := 360) (v := h 85 ((((60 * s) + (i + (5 * x23))) + 4).toNat)) kX11_deeds rfl rfl (by omega) (by omega) (hf27 85 _ rfl) ?_
                                          have b104 : (-9223372036854775808) ≤ h 85 ((((60 * s) + (i + (5 * x23))) + 4).toNat) ∧ h 85 ((((60 * s) + (i + (5 * x23))) + 4).toNat) ≤ 9223372036854775807 := hI.1 85 _
                                          refine fz_l2i kX11_deeds rfl ?_
                                          have b105 : -2147483648 ≤ (fz_w (h 85 ((((60 * s) + (i + (5 * x23))) + 4).toNat))) ∧ (fz_w (h 85 ((((60 * s) + (i + (5 * x23))) + 4).toNat))) < 2147483648 := fz_w_b _
                                          refine fz_iconst ⟨by decide, by decide⟩ kX11_deeds rfl ?_
                                          refine fz_bipush ⟨by decide, by decide⟩ kX11_deeds rfl ?_
                                          refine fz_callS (d' := 0) (M' := mX11_within) (As := [fz_i (fz_w (h 85 ((((60 * s) + (i + (5 * x23))) + 4).toNat))), fz_i 1, fz_i 9]) (st := []) kX11_deeds rfl rfl vX11_within rfl rfl (Nat.le_of_ble_eq_true rfl) (Nat.le_of_ble_eq_true rfl) (by decide) (sX11_within H25 hI26 (fz_w (h 85 ((((60 * s) + (i + (5 * x23))) + 4).toNat))) 1 9 ) (fun H106 r107 q108 o109 => ?_)
                                          obtain ⟨e110, y111, rfl, p112⟩ := q108
                                          subst H106
                                          clear o109
                                          rcases p112 with ⟨rfl, c113⟩ | ⟨rfl, c113⟩
                                          · refine fz_if_ne (tgt := 199) kX11_deeds rfl (by decide) (fun c114 => ?_) (fun c114 => ?_)
                                            · have k115 : fz_k5 (h 85) (h 53 0) (h 84 s.toNat) (60 * s) (i + 5 * x23) (h 53 10 + x23) := by unfold fz_k5 fz_five; omega
                                              refine fz_aload_n kX11_deeds rfl rfl ?_
                                              refine fz_aload_n kX11_deeds rfl rfl ?_
                                              refine fz_getR (t := 85) kX11_deeds rfl rfl ?_
                                              refine fz_iload kX11_deeds rfl rfl ?_
                                              refine fz_laldV (n := 360) (v := h 85 (((60 * s) + (i + (5 * x23))).toNat)) kX11_deeds rfl rfl (by omega) (by omega) (hf27 85 _ rfl) ?_
                                              refine fz_l2i kX11_deeds rfl ?_
                                              refine fz_aload_n kX11_deeds rfl rfl ?_
                                              refine fz_getR (t := 85) kX11_deeds rfl rfl ?_
                                              refine fz_iload kX11_deeds rfl rfl ?_
                                              refine fz_iconst ⟨by decide, by decide⟩ kX11_deeds rfl ?_
                                              refine fz_iaddN kX11_deeds rfl (by omega) ?_
                                              refine fz_laldV (n := 360) (v := h 85 ((((60 * s) + (i + (5 * x23))) + 1).toNat)) kX11_deeds rfl rfl (by omega) (by omega) (hf27 85 _ rfl) ?_
                                              refine fz_l2i kX11_deeds rfl ?_
                                              refine fz_aload_n kX11_deeds rfl rfl ?_
                                              refine fz_getR (t := 85) kX11_deeds rfl rfl ?_
                                              refine fz_iload kX11_deeds rfl rfl ?_
                                              refine fz_iconst ⟨by decide, by decide⟩ kX11_deeds rfl ?_
                                              refine fz_iaddN kX11_deeds rfl (by omega) ?_
                                              refine fz_laldV (n := 360) (v := h 85 ((((60 * s) + (i + (5 * x23))) + 2).toNat)) kX11_deeds rfl rfl (by omega) (by omega) (hf27 85 _ rfl) ?_
                                              refine fz_l2i kX11_deeds rfl ?_
                                              refine fz_aload_n kX11_deeds rfl rfl ?_
                                              refine fz_getR (t := 85) kX11_deeds rfl rfl ?_
                                              refine fz_iload kX11_deeds rfl rfl ?_
                                              refine fz_iconst ⟨by decide, by decide⟩ kX11_deeds rfl ?_
                                              refine fz_iaddN kX11_deeds rfl (by omega) ?_
                                              refine fz_laldV (n := 360) (v := h 85 ((((60 * s) + (i + (5 * x23))) + 3).toNat)) kX11_deeds rfl rfl (by omega) (by omega) (hf27 85 _ rfl) ?_
                                              refine fz_l2i kX11_deeds rfl ?_
                                              refine fz_aload_n kX11_deeds rfl rfl ?_
                                              refine fz_getR (t := 85) kX11_deeds rfl rfl ?_
                                              refine fz_iload kX11_deeds rfl rfl ?_
                                              refine fz_iconst ⟨by decide, by decide⟩ kX11_deeds rfl ?_
                                              refine fz_iaddN kX11_deeds rfl (by omega) ?_
                                              refine fz_laldV (n := 360) (v := h 85 ((((60 * s) + (i + (5 * x23))) + 4).toNat)) kX11_deeds rfl rfl (by omega) (by omega) (hf27 85 _ rfl) ?_
                                              refine fz_l2i kX11_deeds rfl ?_
                                              have k117 : (fz_w (h 85 (((60 * s) + (i + (5 * x23))).toNat))) = fz_w (h 85 (60 * s + (i + 5 * x23)).toNat) := congrArg (fun z : Int => fz_w (h 85 z.toNat)) (by omega)
                                              have k119 : (fz_w (h 85 ((((60 * s) + (i + (5 * x23))) + 1).toNat))) = fz_w (h 85 (60 * s + (i + 5 * x23) + 1).toNat) := congrArg (fun z : Int => fz_w (h 85 z.toNat)) (by omega)
                                              have k121 : (fz_w (h 85 ((((60 * s) + (i + (5 * x23))) + 2).toNat))) = fz_w (h 85 (60 * s + (i + 5 * x23) + 2).toNat) := congrArg (fun z : Int => fz_w (h 85 z.toNat)) (by omega)
                                              have k123 : (fz_w (h 85 ((((60 * s) + (i + (5 * x23))) + 3).toNat))) = fz_w (h 85 (60 * s + (i + 5 * x23) + 3).toNat) := congrArg (fun z : Int => fz_w (h 85 z.toNat)) (by omega)
                                              have k125 : (fz_w (h 85 ((((60 * s) + (i + (5 * x23))) + 4).toNat))) = fz_w (h 85 (60 * s + (i + 5 * x23) + 4).toNat) := congrArg (fun z : Int => fz_w (h 85 z.toNat)) (by omega)
                                              have b127 : 0 ≤ H25 53 10 ∧ H25 53 10 ≤ 11 := hI26.1 53 _
                                              refine fz_callV (d' := 0) (M' := mX11_newDeed) (As := [fz_i (fz_w (h 85 (((60 * s) + (i + (5 * x23))).toNat))), fz_i (fz_w (h 85 ((((60 * s) + (i + (5 * x23))) + 1).toNat))), fz_i (fz_w (h 85 ((((60 * s) + (i + (5 * x23))) + 2).toNat))), fz_i (fz_w (h 85 ((((60 * s) + (i + (5 * x23))) + 3).toNat))), fz_i (fz_w (h 85 ((((60 * s) + (i + (5 * x23))) + 4).toNat)))]) (st := []) kX11_deeds rfl rfl vX11_newDeed rfl rfl rfl rfl (Nat.le_of_ble_eq_true rfl) (Nat.le_of_ble_eq_true rfl) (by decide) (sX11_newDeed H25 hI26 (fz_w (h 85 (((60 * s) + (i + (5 * x23))).toNat))) (fz_w (h 85 ((((60 * s) + (i + (5 * x23))) + 1).toNat))) (fz_w (h 85 ((((60 * s) + (i + (5 * x23))) + 2).toNat))) (fz_w (h 85 ((((60 * s) + (i + (5 * x23))) + 3).toNat))) (fz_w (h 85 ((((60 * s) + (i + (5 * x23))) + 4).toNat))) (by omega) (by omega) (by omega) (by omega) (by omega)) (fun H128 r129 q130 o131 => ?_)
                                              obtain ⟨hI132, hf133, y138, rfl, f134, f135, f136, f137⟩ := q130
                                              clear o131
                                              have hf139 := fz_fr_tr hf27 hf133 (show fz_su [(53, 10), (60, 99999), (61, 99999), (62, 99999), (63, 99999), (64, 99999)] [(53, 10), (60, 99999), (61, 99999), (62, 99999), (63, 99999), (64, 99999)] = true from rfl)
                                              refine fz_pop rfl kX11_deeds rfl ?_
                                              refine fz_iincN (ls' := [(4, fz_i (x24 + 1)), (8, fz_i ((60 * s) + (i + (5 * x23)))), (6, fz_l (i + (5 * x23))), (5, fz_i x23), (0, fz_r 53), (1, fz_i s), (2, fz_i i), (3, fz_i n)]) kX11_deeds rfl (by decide) rfl (by omega) rfl ?_
                                              refine fz_iincN (ls' := [(5, fz_i (x23 + 1)), (4, fz_i (x24 + 1)), (8, fz_i ((60 * s) + (i + (5 * x23)))), (6, fz_l (i + (5 * x23))), (0, fz_r 53), (1, fz_i s), (2, fz_i i), (3, fz_i n)]) kX11_deeds rfl (by decide) rfl (by omega) rfl ?_
                                              refine fz_goto (tgt := 50) kX11_deeds rfl (by decide) ?_
                                              refine fz_sub (fz_pk_sub (ls' := [(5, fz_i (x23 + 1)), (4, fz_i (x24 + 1)), (0, fz_r 53), (1, fz_i s), (2, fz_i i), (3, fz_i n)]) [0, 1, 4, 5, 6, 7] rfl) ?_
                                              exact ih30 (x23 + 1) (x24 + 1) H128 hI132 hf139 (by omega) (by omega) (by omega) (by omega) (by omega) (by omega) (fz_k5_st hv38 k115) (fz_apM_s hv39 (fz_apM_row f137 (by omega) k117 k119 k121 k123 k125 rfl) rfl (by omega) (by omega) (by omega) rfl) (by omega)
                                            · exfalso; omega
                                          · refine fz_if_ne (tgt := 199) kX11_deeds rfl (by decide) (fun c142 => ?_) (fun c142 => ?_)
                                            · exfalso; omega
                                            · refine fz_iload kX11_deeds rfl rfl ?_
                                              exact fz_iret kX11_deeds rfl rfl (fun _ => ⟨hI26, hf27, _, rfl, (by omega), (by omega), (by first | exact Or.inr (Or.inl ⟨by omega, by omega, by omega⟩) | exact Or.inr (Or.inr (Or.inl ⟨by omega, by omega, by omega, by omega⟩)) | exact Or.inr (Or.inr (Or.inr ⟨by omega, by omega, by omega, by omega, by omega⟩)) | exact Or.inl ⟨by omega, ⟨by omega, by omega, fun k a b => hv38 k a (by omega), Or.inr (by rw [k43]; unfold fz_k5 fz_five; omega)⟩, by omega⟩ | exact Or.inl ⟨by omega, ⟨by omega, by omega, fun k a b => hv38 k a (by omega), Or.inl (by omega)⟩, by omega⟩), (by first | exact fz_apM_r hv39 (by omega) | exact fz_apM_z (by omega))⟩)
                                      · refine fz_if_eq (tgt := 196) kX11_deeds rfl (by decide) (fun c145 => ?_) (fun c145 => ?_)
                                        · refine fz_iload kX11_deeds rfl rfl ?_
                                          exact fz_iret kX11_deeds rfl rfl (fun _ => ⟨hI26, hf27, _, rfl, (by omega), (by omega), (by first | exact Or.inr (Or.inl ⟨by omega, by omega, by omega⟩) | exact Or.inr (Or.inr (Or.inl ⟨by omega, by omega, by omega, by omega⟩)) | exact Or.inr (Or.inr (Or.inr ⟨by omega, by omega, by omega, by omega, by omega⟩)) | exact Or.inl ⟨by omega, ⟨by omega, by omega, fun k a b => hv38 k a (by omega), Or.inr (by rw [k43]; unfold fz_k5 fz_five; omega)⟩, by omega⟩ | exact Or.inl ⟨by omega, ⟨by omega, by omega, fun k a b => hv38 k a (by omega), Or.inl (by omega)⟩, by omega⟩), (by first | exact fz_apM_r hv39 (by omega) | exact fz_apM_z (by omega))⟩)
                                        · exfalso; omega
                                  · refine fz_if_eq (tgt := 196) kX11_deeds rfl (by decide) (fun c148 => ?_) (fun c148 => ?_)
                                    · refine fz_iload kX11_deeds rfl rfl ?_
                                      exact fz_iret kX11_deeds rfl rfl (fun _ => ⟨hI26, hf27, _, rfl, (by omega), (by omega), (by first | exact Or.inr (Or.inl ⟨by omega, by omega, by omega⟩) | exact Or.inr (Or.inr (Or.inl ⟨by omega, by omega, by omega, by omega⟩)) | exact Or.inr (Or.inr (Or.inr ⟨by omega, by omega, by omega, by omega, by omega⟩)) | exact Or.inl ⟨by omega, ⟨by omega, by omega, fun k a b => hv38 k a (by omega), Or.inr (by rw [k43]; unfold fz_k5 fz_five; omega)⟩, by omega⟩ | exact Or.inl ⟨by omega, ⟨by omega, by omega, fun k a b => hv38 k a (by omega), Or.inl (by omega)⟩, by omega⟩), (by first | exact fz_apM_r hv39 (by omega) | exact fz_apM_z (by omega))⟩)
                                    · exfalso; omega
                              · refine fz_if_eq (tgt := 196) kX11_deeds rfl (by decide) (fun c151 => ?_) (fun c151 => ?_)
                                · refine fz_iload kX11_deeds rfl rfl ?_
                                  exact fz_iret kX11_deeds rfl rfl (fun _ => ⟨hI26, hf27, _, rfl, (by omega), (by omega), (by first | exact Or.inr (Or.inl ⟨by omega, by omega, by omega⟩) | exact Or.inr (Or.inr (Or.inl ⟨by omega, by omega, by omega, by omega⟩)) | exact Or.inr (Or.inr (Or.inr ⟨by omega, by omega, by omega, by omega, by omega⟩)) | exact Or.inl ⟨by omega, ⟨by omega, by omega, fun k a b => hv38 k a (by omega), Or.inr (by rw [k43]; unfold fz_k5 fz_five; omega)⟩, by omega⟩ | exact Or.inl ⟨by omega, ⟨by omega, by omega, fun k a b => hv38 k a (by omega), Or.inl (by omega)⟩, by omega⟩), (by first | exact fz_apM_r hv39 (by omega) | exact fz_apM_z (by omega))⟩)
                                · exfalso; omega
                          · refine fz_if_eq (tgt := 196) kX11_deeds rfl (by decide) (fun c154 => ?_) (fun c154 => ?_)
                            · refine fz_iload kX11_deeds rfl rfl ?_
                              exact fz_iret kX11_deeds rfl rfl (fun _ => ⟨hI26, hf27, _, rfl, (by omega), (by omega), (by first | exact Or.inr (Or.inl ⟨by omega, by omega, by omega⟩) | exact Or.inr (Or.inr (Or.inl ⟨by omega, by omega, by omega, by omega⟩)) | exact Or.inr (Or.inr (Or.inr ⟨by omega, by omega, by omega, by omega, by omega⟩)) | exact Or.inl ⟨by omega, ⟨by omega, by omega, fun k a b => hv38 k a (by omega), Or.inr (by rw [k43]; unfold fz_k5 fz_five; omega)⟩, by omega⟩ | exact Or.inl ⟨by omega, ⟨by omega, by omega, fun k a b => hv38 k a (by omega), Or.inl (by omega)⟩, by omega⟩), (by first | exact fz_apM_r hv39 (by omega) | exact fz_apM_z (by omega))⟩)
                            · exfalso; omega
                        · refine fz_iload kX11_deeds rfl rfl ?_
                          exact fz_iret kX11_deeds rfl rfl (fun _ => ⟨hI26, hf27, _, rfl, (by omega), (by omega), (by first | exact Or.inr (Or.inl ⟨by omega, by omega, by omega⟩) | exact Or.inr (Or.inr (Or.inl ⟨by omega, by omega, by omega, by omega⟩)) | exact Or.inr (Or.inr (Or.inr ⟨by omega, by omega, by omega, by omega, by omega⟩)) | exact Or.inl ⟨by omega, ⟨by omega, by omega, fun k a b => hv38 k a (by omega), Or.inr (by rw [k43]; unfold fz_k5 fz_five; omega)⟩, by omega⟩ | exact Or.inl ⟨by omega, ⟨by omega, by omega, fun k a b => hv38 k a (by omega), Or.inl (by omega)⟩, by omega⟩), (by first | exact fz_apM_r hv39 (by omega) | exact fz_apM_z (by omega))⟩)
              exact lp29 _ 0 0 h hI hf (by omega) (by omega) (by omega) (by omega) (by omega) (by omega) (fun k a b => absurd b (by omega)) (fz_apM_z (by omega)) (Nat.lt_succ_self _)
            · refine fz_bipush ⟨by decide, by decide⟩ kX11_deeds rfl ?_
              exact fz_iret kX11_deeds rfl rfl (fun _ => ⟨hI, hf, _, rfl, (by omega), (by omega), (by first | exact Or.inr (Or.inl ⟨by omega, by omega, by omega⟩) | exact Or.inr (Or.inr (Or.inl ⟨by omega, by omega, by omega, by omega⟩)) | exact Or.inr (Or.inr (Or.inr ⟨by omega, by omega, by omega, by omega, by omega⟩)) | exact Or.inl ⟨by omega, ⟨by omega, by omega, fun k a b => lost k a (by omega), Or.inr (by rw [lost]; unfold fz_k5 fz_five; omega)⟩, by omega⟩ | exact Or.inl ⟨by omega, ⟨by omega, by omega, fun k a b => lost k a (by omega), Or.inl (by omega)⟩, by omega⟩), (by first | exact fz_apM_r lost (by omega) | exact fz_apM_z (by omega))⟩)
          · refine fz_iconst ⟨by decide, by decide⟩ kX11_deeds rfl ?_
            exact fz_iret kX11_deeds rfl rfl (fun _ => ⟨hI, hf, _, rfl, (by omega), (by omega), (by first | exact Or.inr (Or.inl ⟨by omega, by omega, by omega⟩) | exact Or.inr (Or.inr (Or.inl ⟨by omega, by omega, by omega, by omega⟩)) | exact Or.inr (Or.inr (Or.inr ⟨by omega, by omega, by omega, by omega, by omega⟩)) | exact Or.inl ⟨by omega, ⟨by omega, by omega, fun k a b => lost k a (by omega), Or.inr (by rw [lost]; unfold fz_k5 fz_five; omega)⟩, by omega⟩ | exact Or.inl ⟨by omega, ⟨by omega, by omega, fun k a b => lost k a (by omega), Or.inl (by omega)⟩, by omega⟩), (by first | exact fz_apM_r lost (by omega) | exact fz_apM_z (by omega))⟩)
        · exfalso; omega
      · refine fz_if_ne (tgt := 19) kX11_deeds rfl (by decide) (fun c165 => ?_) (fun c165 => ?_)
        · exfalso; omega
        · refine fz_iconst ⟨by decide, by decide⟩ kX11_deeds rfl ?_
          exact fz_iret kX11_deeds rfl rfl (fun _ => ⟨hI, hf, _, rfl, (by omega), (by omega), (by first | exact Or.inr (Or.inl ⟨by omega, by omega, by omega⟩) | exact Or.inr (Or.inr (Or.inl ⟨by omega, by omega, by omega, by omega⟩)) | exact Or.inr (Or.inr (Or.inr ⟨by omega, by omega, by omega, by omega, by omega⟩)) | exact Or.inl ⟨by omega, ⟨by omega, by omega, fun k a b => lost k a (by omega), Or.inr (by rw [lost]; unfold fz_k5 fz_five; omega)⟩, by omega⟩ | exact Or.inl ⟨by omega, ⟨by omega, by omega, fun k a b => lost k a (by omega), Or.inl (by omega)⟩, by omega⟩), (by first | exact fz_apM_r lost (by omega) | exact fz_apM_z (by omega))⟩)
  · refine fz_if_eq (tgt := 17) kX11_deeds rfl (by decide) (fun c168 => ?_) (fun c168 => ?_)
    · refine fz_iconst ⟨by decide, by decide⟩ kX11_deeds rfl ?_
      exact fz_iret kX11_deeds rfl rfl (fun _ => ⟨hI, hf, _, rfl, (by omega), (by omega), (by first | exact Or.inr (Or.inl ⟨by omega, by omega, by omega⟩) | exact Or.inr (Or.inr (Or.inl ⟨by omega, by omega, by omega, by omega⟩)) | exact Or.inr (Or.inr (Or.inr ⟨by omega, by omega, by omega, by omega, by omega⟩)) | exact Or.inl ⟨by omega, ⟨by omega, by omega, fun k a b => lost k a (by omega), Or.inr (by rw [lost]; unfold fz_k5 fz_five; omega)⟩, by omega⟩ | exact Or.inl ⟨by omega, ⟨by omega, by omega, fun k a b => lost k a (by omega), Or.inl (by omega)⟩, by omega⟩), (by first | exact fz_apM_r lost (by omega) | exact fz_apM_z (by omega))⟩)
    · exfalso; omega
