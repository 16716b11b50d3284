/-! ===== what the methods keep ===== -/
abbrev qX10_walk (h : fz_H) (on rd : Int) : fz_H → Option fz_V → Prop := fun h' r0 => fz_Iv h' ∧ fz_fr [(18, 99999), (19, 99999), (29, 99999), (40, 1), (40, 2), (40, 3), (40, 4), (41, 99999)] h h' ∧ fz_RT h' ∧ fz_RE h' ∧ ∃ r : Int, r0 = some (fz_i r) ∧ ((-5) ≤ r ∧ r ≤ 7) ∧ (fz_wkC h h' on rd r) ∧ (0 ≤ r → r < h 1 7) ∧ (fl_wdC h h' on rd r)
set_option maxHeartbeats 1000000 in
set_option maxRecDepth 100000 in
theorem sX10_walk (h : fz_H) (hI : fz_Iv h) (on rd : Int) (hRT : fz_RT h) (hRE : fz_RE h) : fz_R 5 mX10_walk 0 [(0, fz_r 0), (1, fz_i on), (2, fz_i rd)] [] h (qX10_walk h on rd) := by
  refine fz_knowl (fun hk => ?_)
  have hr_on : -2147483648 ≤ on ∧ on < 2147483648 := hk _ (List.Mem.tail _ (List.Mem.head _))
  have hr_rd : -2147483648 ≤ rd ∧ rd < 2147483648 := hk _ (List.Mem.tail _ (List.Mem.tail _ (List.Mem.head _)))
  clear hk
  have hf : fz_fr [(18, 99999), (19, 99999), (29, 99999), (40, 1), (40, 2), (40, 3), (40, 4), (41, 99999)] h h := fz_fr_rf
  have b1 : 0 ≤ h 1 7 ∧ h 1 7 ≤ 8 := hI.1 1 _
  refine fz_aload_n kX10_walk rfl rfl ?_
  refine fz_iload_n kX10_walk rfl rfl ?_
  refine fz_callV (d' := 0) (M' := mX10_isOne) (As := [fz_i on]) (st := []) kX10_walk rfl rfl vX10_isOne rfl rfl rfl rfl (Nat.le_of_ble_eq_true rfl) (Nat.le_of_ble_eq_true rfl) (by decide) (sX10_isOne h hI on ) (fun H2 r3 q4 o5 => ?_)
  obtain ⟨e6, y7, rfl, p8⟩ := q4
  subst H2
  clear o5
  rcases p8 with ⟨rfl, c9⟩ | ⟨rfl, c9⟩
  · refine fz_if_eq (tgt := 19) kX10_walk rfl (by decide) (fun c10 => ?_) (fun c10 => ?_)
    · exfalso; omega
    · refine fz_aload_n kX10_walk rfl rfl ?_
      refine fz_getR (t := 1) kX10_walk rfl rfl ?_
      refine fz_iload_n kX10_walk rfl rfl ?_
      have b11 : 0 ≤ h 1 8 ∧ h 1 8 ≤ 12 := hI.1 1 _
      refine fz_callV (d' := 0) (M' := mX2_isRoad) (As := [fz_i rd]) (st := []) kX10_walk rfl rfl vX2_isRoad rfl rfl rfl rfl (Nat.le_of_ble_eq_true rfl) (Nat.le_of_ble_eq_true rfl) (by decide) (sX2_isRoad h hI rd ) (fun H12 r13 q14 o15 => ?_)
      obtain ⟨e16, y17, rfl, p18⟩ := q14
      subst H12
      clear o15
      rcases p18 with ⟨rfl, c19⟩ | ⟨rfl, c19⟩
      · refine fz_if_ne (tgt := 21) kX10_walk rfl (by decide) (fun c20 => ?_) (fun c20 => ?_)
        · refine fz_aload_n kX10_walk rfl rfl ?_
          refine fz_getR (t := 1) kX10_walk rfl rfl ?_
          refine fz_iload_n kX10_walk rfl rfl ?_
          refine fz_aload_n kX10_walk rfl rfl ?_
          refine fz_getR (t := 40) kX10_walk rfl rfl ?_
          refine fz_getR (t := 41) kX10_walk rfl rfl ?_
          refine fz_iload_n kX10_walk rfl rfl ?_
          refine fz_ialdV (n := 4) (v := h 41 (on.toNat)) kX10_walk rfl rfl (by omega) (by omega) rfl ?_
          have b21 : 0 ≤ h 41 (on.toNat) ∧ h 41 (on.toNat) ≤ 7 := hI.1 41 _
          refine fz_callV (d' := 0) (M' := mX2_acrossFrom) (As := [fz_i rd, fz_i (h 41 (on.toNat))]) (st := []) kX10_walk rfl rfl vX2_acrossFrom rfl rfl rfl rfl (Nat.le_of_ble_eq_true rfl) (Nat.le_of_ble_eq_true rfl) (by decide) (sX2_acrossFrom h hI rd (h 41 (on.toNat)) (by omega)) (fun H22 r23 q24 o25 => ?_)
          obtain ⟨e26, y30, rfl, f27, f28, f29⟩ := q24
          subst H22
          clear o25
          refine fz_istore_n (ls' := [(3, fz_i y30), (0, fz_r 0), (1, fz_i on), (2, fz_i rd)]) kX10_walk rfl (by decide) rfl ?_
          refine fz_iload_n kX10_walk rfl rfl ?_
          refine fz_if_ge (tgt := 46) kX10_walk rfl (by decide) (fun c31 => ?_) (fun c31 => ?_)
          · have k32 := fz_RE_i hRE (x := rd) (by omega)
            refine fz_aload_n kX10_walk rfl rfl ?_
            refine fz_getR (t := 1) kX10_walk rfl rfl ?_
            refine fz_getR (t := 3) kX10_walk rfl rfl ?_
            refine fz_iload_n kX10_walk rfl rfl ?_
            refine fz_ialdV (n := 12) (v := h 3 (rd.toNat)) kX10_walk rfl rfl (by omega) (by omega) rfl ?_
            have b33 : 0 ≤ h 3 (rd.toNat) ∧ h 3 (rd.toNat) ≤ 24 := hI.1 3 _
            refine fz_istore (ls' := [(4, fz_i (h 3 (rd.toNat))), (3, fz_i y30), (0, fz_r 0), (1, fz_i on), (2, fz_i rd)]) kX10_walk rfl (by decide) rfl ?_
            refine fz_aload_n kX10_walk rfl rfl ?_
            refine fz_getR (t := 40) kX10_walk rfl rfl ?_
            refine fz_getV (v := h 40 1) kX10_walk rfl rfl rfl ?_
            have b34 : 0 ≤ h 40 1 ∧ h 40 1 ≤ 999 := hI.1 40 _
            refine fz_iload kX10_walk rfl rfl ?_
            refine fz_iaddN kX10_walk rfl (by omega) ?_
            refine fz_sipush ⟨by decide, by decide⟩ kX10_walk rfl ?_
            refine fz_icmp_le (tgt := 76) kX10_walk rfl (by decide) (fun c35 => ?_) (fun c35 => ?_)
            · refine fz_aload_n kX10_walk rfl rfl ?_
              refine fz_getR (t := 40) kX10_walk rfl rfl ?_
              refine fz_iload_n kX10_walk rfl rfl ?_
              refine fz_iload_n kX10_walk rfl rfl ?_
              refine fz_iload kX10_walk rfl rfl ?_
              have b36 : (-2147483648) ≤ h 40 2 ∧ h 40 2 ≤ 2147483647 := hI.1 40 _
              have b37 : (-2147483648) ≤ h 40 3 ∧ h 40 3 ≤ 2147483647 := hI.1 40 _
              refine fz_callV (d' := 0) (M' := mX1_go) (As := [fz_i on, fz_i y30, fz_i (h 3 (rd.toNat))]) (st := []) kX10_walk rfl rfl vX1_go rfl rfl rfl rfl (Nat.le_of_ble_eq_true rfl) (Nat.le_of_ble_eq_true rfl) (by decide) (sX1_go h hI on y30 (h 3 (rd.toNat)) hRT (by omega) (by omega) (by omega) (by omega) (by omega)) (fun H38 r39 q40 o41 => ?_)
              obtain ⟨hI42, hf43, hRT44, rfl, f45, f46, f47, f48⟩ := q40
              clear o41
              have hf49 := fz_fr_tr hf hf43 (show fz_su [(40, 1), (40, 2), (40, 3), (41, 99999)] [(18, 99999), (19, 99999), (29, 99999), (40, 1), (40, 2), (40, 3), (40, 4), (41, 99999)] = true from rfl)
              have hRE50 : fz_RE H38 := fz_RE_eq (funext fun s => hf43 5 s rfl) (funext fun s => hf43 6 s rfl) (hf43 1 8 rfl) (hf43 1 7 rfl) hRE
              have t51 : H38 40 4 = h 40 4 := hf43 40 4 rfl
              refine fz_aload_n kX10_walk rfl rfl ?_
              refine fz_getR (t := 27) kX10_walk rfl rfl ?_
              refine fz_iload_n kX10_walk rfl rfl ?_
              refine fz_iload_n kX10_walk rfl rfl ?_
              refine fz_iload_n kX10_walk rfl rfl ?_
              refine fz_aload_n kX10_walk rfl rfl ?_
              refine fz_getR (t := 40) kX10_walk rfl rfl ?_
              obtain ⟨v52, e53⟩ : ∃ z, H38 40 (1) = z := ⟨_, rfl⟩
              refine fz_getV (v := v52) kX10_walk rfl rfl e53 ?_
              have b54 : 0 ≤ v52 ∧ v52 ≤ 999 := by rw [← e53]; exact hI42.1 40 _
              refine fz_callV (d' := 4) (M' := mX8_listen) (As := [fz_i on, fz_i on, fz_i y30, fz_i v52]) (st := []) kX10_walk rfl rfl vX8_listen rfl rfl rfl rfl (Nat.le_of_ble_eq_true rfl) (Nat.le_of_ble_eq_true rfl) (by decide) (sX8_listen H38 hI42 on on y30 v52 (by omega)) (fun H55 r56 q57 o58 => ?_)
              obtain ⟨hI59, hf60, rfl, f61⟩ := q57
              clear o58
              have hf62 := fz_fr_tr hf49 hf60 (show fz_su [(18, 99999), (19, 99999), (29, 99999)] [(18, 99999), (19, 99999), (29, 99999), (40, 1), (40, 2), (40, 3), (40, 4), (41, 99999)] = true from rfl)
              have k63 : H55 40 1 = v52 := (hf60 40 1 rfl).trans e53
              have hRT64 : fz_RT H55 := fz_RT_eq (funext fun s => hf60 41 s rfl) (funext fun s => hf60 42 s rfl) (hf60 1 7 rfl) hRT44
              have hRE65 : fz_RE H55 := fz_RE_eq (funext fun s => hf60 5 s rfl) (funext fun s => hf60 6 s rfl) (hf60 1 8 rfl) (hf60 1 7 rfl) hRE50
              have t66 : H55 40 1 = H38 40 1 := hf60 40 1 rfl
              have t67 : H55 40 2 = H38 40 2 := hf60 40 2 rfl
              have t68 : H55 40 3 = H38 40 3 := hf60 40 3 rfl
              have t69 : H55 40 4 = H38 40 4 := hf60 40 4 rfl
              refine fz_aload_n kX10_walk rfl rfl ?_
              refine fz_getR (t := 40) kX10_walk rfl rfl ?_
              refine fz_dup rfl kX10_walk rfl ?_
              obtain ⟨v70, e71⟩ : ∃ z, H55 40 (4) = z := ⟨_, rfl⟩
              refine fz_getV (v := v70) kX10_walk rfl rfl e71 ?_
              have b72 : (-2147483648) ≤ v70 ∧ v70 ≤ 2147483647 := by rw [← e71]; exact hI59.1 40 _
              refine fz_aload_n kX10_walk rfl rfl ?_
              refine fz_getR (t := 27) kX10_walk rfl rfl ?_
              have b73 : (-2147483648) ≤ H55 29 1 ∧ H55 29 1 ≤ 2147483647 := hI59.1 29 _
              have b74 : 0 ≤ h 27 8 ∧ h 27 8 ≤ 99 := hI.1 27 _
              have e75 : H55 27 8 = h 27 8 := hf62 27 8 rfl
              refine fz_callV (d' := 1) (M' := mX8_isArrested) (As := []) (st := [fz_i v70, fz_r 40]) kX10_walk rfl rfl vX8_isArrested rfl rfl rfl rfl (Nat.le_of_ble_eq_true rfl) (Nat.le_of_ble_eq_true rfl) (by decide) (sX8_isArrested H55 hI59  ) (fun H76 r77 q78 o79 => ?_)
              obtain ⟨e80, y82, rfl, p83, f81⟩ := q78
              subst H76
              clear o79
              refine fz_if_eq (tgt := 126) kX10_walk rfl (by decide) (fun c84 => ?_) (fun c84 => ?_)
              · refine fz_iconst ⟨by decide, by decide⟩ kX10_walk rfl ?_
                refine fz_iaddN kX10_walk rfl (by omega) ?_
                refine fz_putI kX10_walk rfl rfl rfl ?_
                refine fz_nmu (S := [(18, 99999), (19, 99999), (29, 99999), (40, 1), (40, 2), (40, 3), (40, 4), (41, 99999)]) (h0 := h) (fz_Iv_up hI59 (by decide) (show ((-2147483648) : Int) ≤ (v70 + 0) by omega) (show ((v70 + 0) : Int) ≤ 2147483647 by omega)) (fz_fr_up hf62 rfl) (fun H85 hI86 hf87 e88 => ?_)
                have k89 : H85 40 1 = v52 := by rw [e88]; exact (fz_up_s (by decide)).trans k63
                have k90 : H85 40 4 = (v70 + 0) := by rw [e88]; exact fz_up_e
                have t91 : H85 40 1 = H55 40 1 := by rw [e88]; exact fz_up_s (by decide)
                have t92 : H85 40 2 = H55 40 2 := by rw [e88]; exact fz_up_s (by decide)
                have t93 : H85 40 3 = H55 40 3 := by rw [e88]; exact fz_up_s (by decide)
                have hRT94 : fz_RT H85 := fz_RT_eq (by rw [e88]; exact fz_up_ne (by decide)) (by rw [e88]; exact fz_up_ne (by decide)) (by rw [e88]; exact fz_up_o (by decide)) hRT64
                have hRE95 : fz_RE H85 := fz_RE_eq (by rw [e88]; exact fz_up_ne (by decide)) (by rw [e88]; exact fz_up_ne (by decide)) (by rw [e88]; exact fz_up_o (by decide)) (by rw [e88]; exact fz_up_o (by decide)) hRE65
                refine fz_iload_n kX10_walk rfl rfl ?_
                exact fz_iret kX10_walk rfl rfl (fun _ => ⟨hI86, hf87, hRT94, hRE95, _, rfl, (by omega), (by first | exact Or.inl ⟨(by unfold fz_wkO; omega), rfl, rfl, rfl⟩ | exact Or.inr (Or.inl ⟨(by unfold fz_wkO; omega), by omega, rfl, rfl, rfl⟩) | exact Or.inr (Or.inr (Or.inl ⟨(by unfold fz_wkO; omega), by omega, by omega, rfl, rfl, rfl⟩)) | exact Or.inr (Or.inr (Or.inr ⟨(by unfold fz_wkO; omega), by omega, by omega, f29, by omega, (by rw [e88, fz_up_ne (by decide), show H55 41 = H38 41 from funext fun s => hf60 41 s rfl, f46, f29])⟩))), (by omega), (by first | exact Or.inl ⟨by omega, rfl, rfl, rfl⟩ | exact fl_wdC_in (by omega) (by omega) (by omega) rfl ((congrFun (congrFun e88 40) 4).trans fz_up_e) (by omega) f61 (fl_SC_fr hf49 rfl) (by omega) ((hf60 27 8 rfl).trans (hf43 27 8 rfl)) f81 (by omega) | exact fl_wdC_in (by omega) (by omega) (by omega) rfl (fl_w0 ((congrFun (congrFun e88 40) 4).trans fz_up_e) (by omega)) (by omega) f61 (fl_SC_fr hf49 rfl) (by omega) ((hf60 27 8 rfl).trans (hf43 27 8 rfl)) f81 (by omega))⟩)
              · refine fz_iconst ⟨by decide, by decide⟩ kX10_walk rfl ?_
                refine fz_goto (tgt := 127) kX10_walk rfl (by decide) ?_
                refine fz_iadd kX10_walk rfl ?_
                have b99 := fz_w_b (v70 + 1)
                refine fz_putI kX10_walk rfl rfl rfl ?_
                refine fz_nmu (S := [(18, 99999), (19, 99999), (29, 99999), (40, 1), (40, 2), (40, 3), (40, 4), (41, 99999)]) (h0 := h) (fz_Iv_up hI59 (by decide) (show ((-2147483648) : Int) ≤ (fz_w (v70 + 1)) by omega) (show ((fz_w (v70 + 1)) : Int) ≤ 2147483647 by omega)) (fz_fr_up hf62 rfl) (fun H100 hI101 hf102 e103 => ?_)
                have k104 : H100 40 1 = v52 := by rw [e103]; exact (fz_up_s (by decide)).trans k63
                have k105 : H100 40 4 = (fz_w (v70 + 1)) := by rw [e103]; exact fz_up_e
                have t106 : H100 40 1 = H55 40 1 := by rw [e103]; exact fz_up_s (by decide)
                have t107 : H100 40 2 = H55 40 2 := by rw [e103]; exact fz_up_s (by decide)
                have t108 : H100 40 3 = H55 40 3 := by rw [e103]; exact fz_up_s (by decide)
                have hRT109 : fz_RT H100 := fz_RT_eq (by rw [e103]; exact fz_up_ne (by decide)) (by rw [e103]; exact fz_up_ne (by decide)) (by rw [e103]; exact fz_up_o (by decide)) hRT64
                have hRE110 : fz_RE H100 := fz_RE_eq (by rw [e103]; exact fz_up_ne (by decide)) (by rw [e103]; exact fz_up_ne (by decide)) (by rw [e103]; exact fz_up_o (by decide)) (by rw [e103]; exact fz_up_o (by decide)) hRE65
                refine fz_iload_n kX10_walk rfl rfl ?_
                exact fz_iret kX10_walk rfl rfl (fun _ => ⟨hI101, hf102, hRT109, hRE110, _, rfl, (by omega), (by first | exact Or.inl ⟨(by unfold fz_wkO; omega), rfl, rfl, rfl⟩ | exact Or.inr (Or.inl ⟨(by unfold fz_wkO; omega), by omega, rfl, rfl, rfl⟩) | exact Or.inr (Or.inr (Or.inl ⟨(by unfold fz_wkO; omega), by omega, by omega, rfl, rfl, rfl⟩)) | exact Or.inr (Or.inr (Or.inr ⟨(by unfold fz_wkO; omega), by omega, by omega, f29, by omega, (by rw [e103, fz_up_ne (by decide), show H55 41 = H38 41 from funext fun s => hf60 41 s rfl, f46, f29])⟩))), (by omega), (by first | exact Or.inl ⟨by omega, rfl, rfl, rfl⟩ | exact fl_wdC_in (by omega) (by omega) (by omega) rfl ((congrFun (congrFun e103 40) 4).trans fz_up_e) (by omega) f61 (fl_SC_fr hf49 rfl) (by omega) ((hf60 27 8 rfl).trans (hf43 27 8 rfl)) f81 (by omega) | exact fl_wdC_in (by omega) (by omega) (by omega) rfl (fl_w0 ((congrFun (congrFun e103 40) 4).trans fz_up_e) (by omega)) (by omega) f61 (fl_SC_fr hf49 rfl) (by omega) ((hf60 27 8 rfl).trans (hf43 27 8 rfl)) f81 (by omega))⟩)
            · refine fz_bipush ⟨by decide, by decide⟩ kX10_walk rfl ?_
              exact fz_iret kX10_walk rfl rfl (fun _ => ⟨hI, hf, hRT, hRE, _, rfl, (by omega), (by first | exact Or.inl ⟨(by unfold fz_wkO; omega), rfl, rfl, rfl⟩ | exact Or.inr (Or.inl ⟨(by unfold fz_wkO; omega), by omega, rfl, rfl, rfl⟩) | exact Or.inr (Or.inr (Or.inl ⟨(by unfold fz_wkO; omega), by omega, by omega, rfl, rfl, rfl⟩)) | exact Or.inr (Or.inr (Or.inr ⟨(by unfold fz_wkO; omega), by omega, by omega, f29, by omega, (by rw [lost, fz_up_ne (by decide), show lost 41 = lost 41 from funext fun s => lost 41 s rfl, lost, f29])⟩))), (by omega), (by first | exact Or.inl ⟨by omega, rfl, rfl, rfl⟩ | exact fl_wdC_in (by omega) (by omega) (by omega) rfl ((congrFun (congrFun lost 40) 4).trans fz_up_e) (by omega) lost (fl_SC_fr lost rfl) (by omega) ((lost 27 8 rfl).trans (lost 27 8 rfl)) lost (by omega) | exact fl_wdC_in (by omega) (by omega) (by omega) rfl (fl_w0 ((congrFun (congrFun lost 40) 4).trans fz_up_e) (by omega)) (by omega) lost (fl_SC_fr lost rfl) (by omega) ((lost 27 8 rfl).trans (lost 27 8 rfl)) lost (by omega))⟩)
          · refine fz_bipush ⟨by decide, by decide⟩ kX10_walk rfl ?_
            exact fz_iret kX10_walk rfl rfl (fun _ => ⟨hI, hf, hRT, hRE, _, rfl, (by omega), (by first | exact Or.inl ⟨(by unfold fz_wkO; omega), rfl, rfl, rfl⟩ | exact Or.inr (Or.inl ⟨(by unfold fz_wkO; omega), by omega, rfl, rfl, rfl⟩) | exact Or.inr (Or.inr (Or.inl ⟨(by unfold fz_wkO; omega), by omega, by omega, rfl, rfl, rfl⟩)) | exact Or.inr (Or.inr (Or.inr ⟨(by unfold fz_wkO; omega), by omega, by omega, f29, by omega, (by rw [lost, fz_up_ne (by decide), show lost 41 = lost 41 from funext fun s => lost 41 s rfl, lost, f29])⟩))), (by omega), (by first | exact Or.inl ⟨by omega, rfl, rfl, rfl⟩ | exact fl_wdC_in (by omega) (by omega) (by omega) rfl ((congrFun (congrFun lost 40) 4).trans fz_up_e) (by omega) lost (fl_SC_fr lost rfl) (by omega) ((lost 27 8 rfl).trans (lost 27 8 rfl)) lost (by omega) | exact fl_wdC_in (by omega) (by omega) (by omega) rfl (fl_w0 ((congrFun (congrFun lost 40) 4).trans fz_up_e) (by omega)) (by omega) lost (fl_SC_fr lost rfl) (by omega) ((lost 27 8 rfl).trans (lost 27 8 rfl)) lost (by omega))⟩)
        · exfalso; omega
      · refine fz_if_ne (tgt := 21) kX10_walk rfl (by decide) (fun c120 => ?_) (fun c120 => ?_)
        · exfalso; omega
        · refine fz_iconst ⟨by decide, by decide⟩ kX10_walk rfl ?_
          exact fz_iret kX10_walk rfl rfl (fun _ => ⟨hI, hf, hRT, hRE, _, rfl, (by omega), (by first | exact Or.inl ⟨(by unfold fz_wkO; omega), rfl, rfl, rfl⟩ | exact Or.inr (Or.inl ⟨(by unfold fz_wkO; omega), by omega, rfl, rfl, rfl⟩) | exact Or.inr (Or.inr (Or.inl ⟨(by unfold fz_wkO; omega), by omega, by omega, rfl, rfl, rfl⟩)) | exact Or.inr (Or.inr (Or.inr ⟨(by unfold fz_wkO; omega), by omega, by omega, lost, by omega, (by rw [lost, fz_up_ne (by decide), show lost 41 = lost 41 from funext fun s => lost 41 s rfl, lost, lost])⟩))), (by omega), (by first | exact Or.inl ⟨by omega, rfl, rfl, rfl⟩ | exact fl_wdC_in (by omega) (by omega) (by omega) rfl ((congrFun (congrFun lost 40) 4).trans fz_up_e) (by omega) lost (fl_SC_fr lost rfl) (by omega) ((lost 27 8 rfl).trans (lost 27 8 rfl)) lost (by omega) | exact fl_wdC_in (by omega) (by omega) (by omega) rfl (fl_w0 ((congrFun (congrFun lost 40) 4).trans fz_up_e) (by omega)) (by omega) lost (fl_SC_fr lost rfl) (by omega) ((lost 27 8 rfl).trans (lost 27 8 rfl)) lost (by omega))⟩)
  · refine fz_if_eq (tgt := 19) kX10_walk rfl (by decide) (fun c124 => ?_) (fun c124 => ?_)
    · refine fz_iconst ⟨by decide, by decide⟩ kX10_walk rfl ?_
      exact fz_iret kX10_walk rfl rfl (fun _ => ⟨hI, hf, hRT, hRE, _, rfl, (by omega), (by first | exact Or.inl ⟨(by unfold fz_wkO; omega), rfl, rfl, rfl⟩ | exact Or.inr (Or.inl ⟨(by unfold fz_wkO; omega), by omega, rfl, rfl, rfl⟩) | exact Or.inr (Or.inr (Or.inl ⟨(by unfold fz_wkO; omega), by omega, by omega, rfl, rfl, rfl⟩)) | exact Or.inr (Or.inr (Or.inr ⟨(by unfold fz_wkO; omega), by omega, by omega, lost, by omega, (by rw [lost, fz_up_ne (by decide), show lost 41 = lost 41 from funext fun s => lost 41 s rfl, lost, lost])⟩))), (by omega), (by first | exact Or.inl ⟨by omega, rfl, rfl, rfl⟩ | exact fl_wdC_in (by omega) (by omega) (by omega) rfl ((congrFun (congrFun lost 40) 4).trans fz_up_e) (by omega) lost (fl_SC_fr lost rfl) (by omega) ((lost 27 8 rfl).trans (lost 27 8 rfl)) lost (by omega) | exact fl_wdC_in (by omega) (by omega) (by omega) rfl (fl_w0 ((congrFun (congrFun lost 40) 4).trans fz_up_e) (by omega)) (by omega) lost (fl_SC_fr lost rfl) (by omega) ((lost 27 8 rfl).trans (lost 27 8 rfl)) lost (by omega))⟩)
    · exfalso; omega

abbrev qX10_does (h : fz_H) (pm wt : Int) : fz_H → Option fz_V → Prop := fun h' r0 => fz_Iv h' ∧ fz_fr [(9, 5), (10, 99999), (11, 99999), (12, 99999), (13, 99999), (14, 99999), (40, 5)] h h' ∧ ∃ r : Int, r0 = some (fz_i r) ∧ ((-3) ≤ r ∧ r ≤ 9) ∧ (((0 ≤ pm ∧ pm ≤ 39 ∧ pm % 10 < 5 ∧ 1 ≤ wt ∧ wt ≤ 9 ∧ h 41 (pm / 10).toNat < h 1 7) ∧ h 9 5 < 10 ∧ r = h 9 5 ∧ h' 9 5 = h 9 5 + 1) ∨ ((0 ≤ pm ∧ pm ≤ 39 ∧ pm % 10 < 5 ∧ 1 ≤ wt ∧ wt ≤ 9 ∧ h 41 (pm / 10).toNat < h 1 7) ∧ 10 ≤ h 9 5 ∧ r = -3 ∧ h' 9 5 = h 9 5) ∨ (¬ (0 ≤ pm ∧ pm ≤ 39 ∧ pm % 10 < 5 ∧ 1 ≤ wt ∧ wt ≤ 9 ∧ h 41 (pm / 10).toNat < h 1 7) ∧ r = -1 ∧ h' 9 5 = h 9 5)) ∧ (fz_apC h h' (h' 9 5 - h 9 5) (fun _ => (pm / 10, h 41 (pm / 10).toNat, h 40 1, pm % 10, wt))) ∧ (fl_dd (h 40 5) (h' 40 5) r)
set_option maxHeartbeats 1000000 in
set_option maxRecDepth 100000 in
theorem sX10_does (h : fz_H) (hI : fz_Iv h) (pm wt : Int) : fz_R 2 mX10_does 0 [(0, fz_r 0), (1, fz_i pm), (2, fz_i wt)] [] h (qX10_does h pm wt) := by
  refine fz_knowl (fun hk => ?_)
  have hr_pm : -2147483648 ≤ pm ∧ pm < 2147483648 := hk _ (List.Mem.tail _ (List.Mem.head _))
  have hr_wt : -2147483648 ≤ wt ∧ wt < 2147483648 := hk _ (List.Mem.tail _ (List.Mem.tail _ (List.Mem.head _)))
  clear hk
  have hf : fz_fr [(9, 5), (10, 99999), (11, 99999), (12, 99999), (13, 99999), (14, 99999), (40, 5)] h h := fz_fr_rf
  have b1 : 0 ≤ h 1 7 ∧ h 1 7 ≤ 8 := hI.1 1 _
  have b2 : 0 ≤ h 9 5 ∧ h 9 5 ≤ 10 := hI.1 9 _
  have b3 : 0 ≤ h 40 1 ∧ h 40 1 ≤ 999 := hI.1 40 _
  have b4 : (-2147483648) ≤ h 40 5 ∧ h 40 5 ≤ 2147483647 := hI.1 40 _
  refine fz_aload_n kX10_does rfl rfl ?_
  refine fz_iload_n kX10_does rfl rfl ?_
  refine fz_callV (d' := 1) (M' := mX10_isMarkOfOne) (As := [fz_i pm]) (st := []) kX10_does rfl rfl vX10_isMarkOfOne rfl rfl rfl rfl (Nat.le_of_ble_eq_true rfl) (Nat.le_of_ble_eq_true rfl) (by decide) (sX10_isMarkOfOne h hI pm ) (fun H5 r6 q7 o8 => ?_)
  obtain ⟨e9, y10, rfl, p11⟩ := q7
  subst H5
  clear o8
  rcases p11 with ⟨rfl, c12⟩ | ⟨rfl, c12⟩
  · refine fz_if_eq (tgt := 38) kX10_does rfl (by decide) (fun c13 => ?_) (fun c13 => ?_)
    · exfalso; omega
    · refine fz_aload_n kX10_does rfl rfl ?_
      refine fz_iload_n kX10_does rfl rfl ?_
      refine fz_callV (d' := 0) (M' := mX10_isWeight) (As := [fz_i wt]) (st := []) kX10_does rfl rfl vX10_isWeight rfl rfl rfl rfl (Nat.le_of_ble_eq_true rfl) (Nat.le_of_ble_eq_true rfl) (by decide) (sX10_isWeight h hI wt ) (fun H14 r15 q16 o17 => ?_)
      obtain ⟨e18, y19, rfl, p20⟩ := q16
      subst H14
      clear o17
      rcases p20 with ⟨rfl, c21⟩ | ⟨rfl, c21⟩
      · refine fz_if_eq (tgt := 38) kX10_does rfl (by decide) (fun c22 => ?_) (fun c22 => ?_)
        · exfalso; omega
        · refine fz_aload_n kX10_does rfl rfl ?_
          refine fz_getR (t := 1) kX10_does rfl rfl ?_
          refine fz_aload_n kX10_does rfl rfl ?_
          refine fz_getR (t := 40) kX10_does rfl rfl ?_
          refine fz_getR (t := 41) kX10_does rfl rfl ?_
          refine fz_iload_n kX10_does rfl rfl ?_
          refine fz_bipush ⟨by decide, by decide⟩ kX10_does rfl ?_
          refine fz_idivN kX10_does rfl (by omega) (by omega) (by omega) ?_
          refine fz_ialdV (n := 4) (v := h 41 ((pm / 10).toNat)) kX10_does rfl rfl (by omega) (by omega) rfl ?_
          have b23 : 0 ≤ h 41 ((pm / 10).toNat) ∧ h 41 ((pm / 10).toNat) ≤ 7 := hI.1 41 _
          refine fz_callV (d' := 0) (M' := mX2_isTown) (As := [fz_i (h 41 ((pm / 10).toNat))]) (st := []) kX10_does rfl rfl vX2_isTown rfl rfl rfl rfl (Nat.le_of_ble_eq_true rfl) (Nat.le_of_ble_eq_true rfl) (by decide) (sX2_isTown h hI (h 41 ((pm / 10).toNat)) ) (fun H24 r25 q26 o27 => ?_)
          obtain ⟨e28, y29, rfl, p30⟩ := q26
          subst H24
          clear o27
          rcases p30 with ⟨rfl, c31⟩ | ⟨rfl, c31⟩
          · refine fz_if_ne (tgt := 40) kX10_does rfl (by decide) (fun c32 => ?_) (fun c32 => ?_)
            · refine fz_aload_n kX10_does rfl rfl ?_
              refine fz_getR (t := 9) kX10_does rfl rfl ?_
              refine fz_iload_n kX10_does rfl rfl ?_
              refine fz_bipush ⟨by decide, by decide⟩ kX10_does rfl ?_
              refine fz_idivN kX10_does rfl (by omega) (by omega) (by omega) ?_
              refine fz_aload_n kX10_does rfl rfl ?_
              refine fz_getR (t := 40) kX10_does rfl rfl ?_
              refine fz_getR (t := 41) kX10_does rfl rfl ?_
              refine fz_iload_n kX10_does rfl rfl ?_
              refine fz_bipush ⟨by decide, by decide⟩ kX10_does rfl ?_
              refine fz_idivN kX10_does rfl (by omega) (by omega) (by omega) ?_
              refine fz_ialdV (n := 4) (v := h 41 ((pm / 10).toNat)) kX10_does rfl rfl (by omega) (by omega) rfl ?_
              refine fz_aload_n kX10_does rfl rfl ?_
              refine fz_getR (t := 40) kX10_does rfl rfl ?_
              refine fz_getV (v := h 40 1) kX10_does rfl rfl rfl ?_
              have b33 : 0 ≤ h 40 1 ∧ h 40 1 ≤ 999 := hI.1 40 _
              refine fz_iload_n kX10_does rfl rfl ?_
              refine fz_bipush ⟨by decide, by decide⟩ kX10_does rfl ?_
              refine fz_iremN kX10_does rfl (by omega) (by omega) (by omega) ?_
              refine fz_iload_n kX10_does rfl rfl ?_
              refine fz_callV (d' := 1) (M' := mX4_enter) (As := [fz_i (pm / 10), fz_i (h 41 ((pm / 10).toNat)), fz_i (h 40 1), fz_i (pm % 10), fz_i wt]) (st := []) kX10_does rfl rfl vX4_enter rfl rfl rfl rfl (Nat.le_of_ble_eq_true rfl) (Nat.le_of_ble_eq_true rfl) (by decide) (sX4_enter h hI (pm / 10) (h 41 ((pm / 10).toNat)) (h 40 1) (pm % 10) wt (by omega) (by omega) (by omega) (by omega) (by omega)) (fun H34 r35 q36 o37 => ?_)
              obtain ⟨hI38, hf39, y43, rfl, f40, f41, f42⟩ := q36
              clear o37
              have hf44 := fz_fr_tr hf hf39 (show fz_su [(9, 5), (10, 99999), (11, 99999), (12, 99999), (13, 99999), (14, 99999)] [(9, 5), (10, 99999), (11, 99999), (12, 99999), (13, 99999), (14, 99999), (40, 5)] = true from rfl)
              have k45 : H34 40 5 = (h 40 5) := (hf39 40 5 rfl).trans rfl
              refine fz_istore_n (ls' := [(3, fz_i y43), (0, fz_r 0), (1, fz_i pm), (2, fz_i wt)]) kX10_does rfl (by decide) rfl ?_
              refine fz_aload_n kX10_does rfl rfl ?_
              refine fz_getR (t := 40) kX10_does rfl rfl ?_
              refine fz_dup rfl kX10_does rfl ?_
              refine fz_getV (v := (h 40 5)) kX10_does rfl rfl k45 ?_
              refine fz_iload_n kX10_does rfl rfl ?_
              refine fz_if_lt (tgt := 92) kX10_does rfl (by decide) (fun c46 => ?_) (fun c46 => ?_)
              · refine fz_iconst ⟨by decide, by decide⟩ kX10_does rfl ?_
                refine fz_iaddN kX10_does rfl (by omega) ?_
                refine fz_putI kX10_does rfl rfl rfl ?_
                refine fz_nmu (S := [(9, 5), (10, 99999), (11, 99999), (12, 99999), (13, 99999), (14, 99999), (40, 5)]) (h0 := h) (fz_Iv_up hI38 (by decide) (show ((-2147483648) : Int) ≤ ((h 40 5) + 0) by omega) (show (((h 40 5) + 0) : Int) ≤ 2147483647 by omega)) (fz_fr_up hf44 rfl) (fun H47 hI48 hf49 e50 => ?_)
                have k51 : H47 40 5 = ((h 40 5) + 0) := by rw [e50]; exact fz_up_e
                have t52 : H47 9 5 = H34 9 5 := by rw [e50]; exact fz_up_o (by decide)
                refine fz_iload_n kX10_does rfl rfl ?_
                exact fz_iret kX10_does rfl rfl (fun _ => ⟨hI48, hf49, _, rfl, (by omega), (by omega), (by first | exact fz_apC_r (fz_apC_up f42 e50 (by decide)) (by omega) | exact fz_apC_z (by omega)), (by first | exact Or.inr ⟨by omega, rfl⟩ | exact fl_dd_1 ((congrFun (congrFun e50 40) 5).trans fz_up_e) (by omega) (by omega) | exact fl_dd_0 (fl_w0 ((congrFun (congrFun e50 40) 5).trans fz_up_e) (by omega)) (by omega) (hI.1 40 5) (by omega))⟩)
              · refine fz_iconst ⟨by decide, by decide⟩ kX10_does rfl ?_
                refine fz_goto (tgt := 93) kX10_does rfl (by decide) ?_
                refine fz_iadd kX10_does rfl ?_
                have b55 := fz_w_b ((h 40 5) + 1)
                refine fz_putI kX10_does rfl rfl rfl ?_
                refine fz_nmu (S := [(9, 5), (10, 99999), (11, 99999), (12, 99999), (13, 99999), (14, 99999), (40, 5)]) (h0 := h) (fz_Iv_up hI38 (by decide) (show ((-2147483648) : Int) ≤ (fz_w ((h 40 5) + 1)) by omega) (show ((fz_w ((h 40 5) + 1)) : Int) ≤ 2147483647 by omega)) (fz_fr_up hf44 rfl) (fun H56 hI57 hf58 e59 => ?_)
                have k60 : H56 40 5 = (fz_w ((h 40 5) + 1)) := by rw [e59]; exact fz_up_e
                have t61 : H56 9 5 = H34 9 5 := by rw [e59]; exact fz_up_o (by decide)
                refine fz_iload_n kX10_does rfl rfl ?_
                exact fz_iret kX10_does rfl rfl (fun _ => ⟨hI57, hf58, _, rfl, (by omega), (by omega), (by first | exact fz_apC_r (fz_apC_up f42 e59 (by decide)) (by omega) | exact fz_apC_z (by omega)), (by first | exact Or.inr ⟨by omega, rfl⟩ | exact fl_dd_1 ((congrFun (congrFun e59 40) 5).trans fz_up_e) (by omega) (by omega) | exact fl_dd_0 (fl_w0 ((congrFun (congrFun e59 40) 5).trans fz_up_e) (by omega)) (by omega) (hI.1 40 5) (by omega))⟩)
            · exfalso; omega
          · refine fz_if_ne (tgt := 40) kX10_does rfl (by decide) (fun c64 => ?_) (fun c64 => ?_)
            · exfalso; omega
            · refine fz_iconst ⟨by decide, by decide⟩ kX10_does rfl ?_
              exact fz_iret kX10_does rfl rfl (fun _ => ⟨hI, hf, _, rfl, (by omega), (by omega), (by first | exact fz_apC_r (fz_apC_up lost lost (by decide)) (by omega) | exact fz_apC_z (by omega)), (by first | exact Or.inr ⟨by omega, rfl⟩ | exact fl_dd_1 ((congrFun (congrFun lost 40) 5).trans fz_up_e) (by omega) (by omega) | exact fl_dd_0 (fl_w0 ((congrFun (congrFun lost 40) 5).trans fz_up_e) (by omega)) (by omega) (hI.1 40 5) (by omega))⟩)
      · refine fz_if_eq (tgt := 38) kX10_does rfl (by decide) (fun c67 => ?_) (fun c67 => ?_)
        · refine fz_iconst ⟨by decide, by decide⟩ kX10_does rfl ?_
          exact fz_iret kX10_does rfl rfl (fun _ => ⟨hI, hf, _, rfl, (by omega), (by omega), (by first | exact fz_apC_r (fz_apC_up lost lost (by decide)) (by omega) | exact fz_apC_z (by omega)), (by first | exact Or.inr ⟨by omega, rfl⟩ | exact fl_dd_1 ((congrFun (congrFun lost 40) 5).trans fz_up_e) (by omega) (by omega) | exact fl_dd_0 (fl_w0 ((congrFun (congrFun lost 40) 5).trans fz_up_e) (by omega)) (by omega) (hI.1 40 5) (by omega))⟩)
        · exfalso; omega
  · refine fz_if_eq (tgt := 38) kX10_does rfl (by decide) (fun c70 => ?_) (fun c70 => ?_)
    · refine fz_iconst ⟨by decide, by decide⟩ kX10_does rfl ?_
      exact fz_iret kX10_does rfl rfl (fun _ => ⟨hI, hf, _, rfl, (by omega), (by omega), (by first | exact fz_apC_r (fz_apC_up lost lost (by decide)) (by omega) | exact fz_apC_z (by omega)), (by first | exact Or.inr ⟨by omega, rfl⟩ | exact fl_dd_1 ((congrFun (congrFun lost 40) 5).trans fz_up_e) (by omega) (by omega) | exact fl_dd_0 (fl_w0 ((congrFun (congrFun lost 40) 5).trans fz_up_e) (by omega)) (by omega) (hI.1 40 5) (by omega))⟩)
    · exfalso; omega

abbrev qX10_led (h : fz_H) (wh : Int) : fz_H → Option fz_V → Prop := fun h' r0 => h' = h ∧ ∃ r : Int, r0 = some (fz_i r) ∧ ((-2147483648) ≤ r ∧ r ≤ 2147483647) ∧ (fl_leC h wh r)
set_option maxHeartbeats 1000000 in
set_option maxRecDepth 100000 in
theorem sX10_led (h : fz_H) (hI : fz_Iv h) (wh : Int) : fz_R 0 mX10_led 0 [(0, fz_r 0), (1, fz_i wh)] [] h (qX10_led h wh) := by
  refine fz_knowl (fun hk => ?_)
  have hr_wh : -2147483648 ≤ wh ∧ wh < 2147483648 := hk _ (List.Mem.tail _ (List.Mem.head _))
  clear hk
  refine fz_iload_n kX10_led rfl rfl ?_
  rcases (show wh = 0 ∨ wh = 1 ∨ wh = 2 ∨ wh = 3 ∨ wh = 4 ∨ (wh < 0 ∨ 4 < wh) by omega) with c1 | c1 | c1 | c1 | c1 | c1
  · refine fz_tswC (j := 0) (tgt := 36) kX10_led rfl c1 (by decide) (by decide) rfl (by decide) ?_
    refine fz_aload_n kX10_led rfl rfl ?_
    refine fz_getR (t := 40) kX10_led rfl rfl ?_
    refine fz_getV (v := h 40 2) kX10_led rfl rfl rfl ?_
    have b2 : (-2147483648) ≤ h 40 2 ∧ h 40 2 ≤ 2147483647 := hI.1 40 _
    exact fz_iret kX10_led rfl rfl (fun _ => ⟨rfl, _, rfl, (by omega), (by first | exact Or.inl ⟨by omega, rfl⟩ | exact Or.inr (Or.inl ⟨by omega, rfl⟩) | exact Or.inr (Or.inr (Or.inl ⟨by omega, rfl⟩)) | exact Or.inr (Or.inr (Or.inr (Or.inl ⟨by omega, rfl⟩))) | exact Or.inr (Or.inr (Or.inr (Or.inr (Or.inl ⟨by omega, rfl⟩)))) | exact Or.inr (Or.inr (Or.inr (Or.inr (Or.inr (⟨by omega, rfl⟩))))))⟩)
  · refine fz_tswC (j := 1) (tgt := 44) kX10_led rfl c1 (by decide) (by decide) rfl (by decide) ?_
    refine fz_aload_n kX10_led rfl rfl ?_
    refine fz_getR (t := 40) kX10_led rfl rfl ?_
    refine fz_getV (v := h 40 3) kX10_led rfl rfl rfl ?_
    have b4 : (-2147483648) ≤ h 40 3 ∧ h 40 3 ≤ 2147483647 := hI.1 40 _
    exact fz_iret kX10_led rfl rfl (fun _ => ⟨rfl, _, rfl, (by omega), (by first | exact Or.inl ⟨by omega, rfl⟩ | exact Or.inr (Or.inl ⟨by omega, rfl⟩) | exact Or.inr (Or.inr (Or.inl ⟨by omega, rfl⟩)) | exact Or.inr (Or.inr (Or.inr (Or.inl ⟨by omega, rfl⟩))) | exact Or.inr (Or.inr (Or.inr (Or.inr (Or.inl ⟨by omega, rfl⟩)))) | exact Or.inr (Or.inr (Or.inr (Or.inr (Or.inr (⟨by omega, rfl⟩))))))⟩)
  · refine fz_tswC (j := 2) (tgt := 52) kX10_led rfl c1 (by decide) (by decide) rfl (by decide) ?_
    refine fz_aload_n kX10_led rfl rfl ?_
    refine fz_getR (t := 40) kX10_led rfl rfl ?_
    refine fz_getV (v := h 40 4) kX10_led rfl rfl rfl ?_
    have b6 : (-2147483648) ≤ h 40 4 ∧ h 40 4 ≤ 2147483647 := hI.1 40 _
    exact fz_iret kX10_led rfl rfl (fun _ => ⟨rfl, _, rfl, (by omega), (by first | exact Or.inl ⟨by omega, rfl⟩ | exact Or.inr (Or.inl ⟨by omega, rfl⟩) | exact Or.inr (Or.inr (Or.inl ⟨by omega, rfl⟩)) | exact Or.inr (Or.inr (Or.inr (Or.inl ⟨by omega, rfl⟩))) | exact Or.inr (Or.inr (Or.inr (Or.inr (Or.inl ⟨by omega, rfl⟩)))) | exact Or.inr (Or.inr (Or.inr (Or.inr (Or.inr (⟨by omega, rfl⟩))))))⟩)
  · refine fz_tswC (j := 3) (tgt := 60) kX10_led rfl c1 (by decide) (by decide) rfl (by decide) ?_
    refine fz_aload_n kX10_led rfl rfl ?_
    refine fz_getR (t := 40) kX10_led rfl rfl ?_
    refine fz_getV (v := h 40 5) kX10_led rfl rfl rfl ?_
    have b8 : (-2147483648) ≤ h 40 5 ∧ h 40 5 ≤ 2147483647 := hI.1 40 _
    exact fz_iret kX10_led rfl rfl (fun _ => ⟨rfl, _, rfl, (by omega), (by first | exact Or.inl ⟨by omega, rfl⟩ | exact Or.inr (Or.inl ⟨by omega, rfl⟩) | exact Or.inr (Or.inr (Or.inl ⟨by omega, rfl⟩)) | exact Or.inr (Or.inr (Or.inr (Or.inl ⟨by omega, rfl⟩))) | exact Or.inr (Or.inr (Or.inr (Or.inr (Or.inl ⟨by omega, rfl⟩)))) | exact Or.inr (Or.inr (Or.inr (Or.inr (Or.inr (⟨by omega, rfl⟩))))))⟩)
  · refine fz_tswC (j := 4) (tgt := 68) kX10_led rfl c1 (by decide) (by decide) rfl (by decide) ?_
    refine fz_aload_n kX10_led rfl rfl ?_
    refine fz_getR (t := 40) kX10_led rfl rfl ?_
    refine fz_getV (v := h 40 1) kX10_led rfl rfl rfl ?_
    have b10 : 0 ≤ h 40 1 ∧ h 40 1 ≤ 999 := hI.1 40 _
    exact fz_iret kX10_led rfl rfl (fun _ => ⟨rfl, _, rfl, (by omega), (by first | exact Or.inl ⟨by omega, rfl⟩ | exact Or.inr (Or.inl ⟨by omega, rfl⟩) | exact Or.inr (Or.inr (Or.inl ⟨by omega, rfl⟩)) | exact Or.inr (Or.inr (Or.inr (Or.inl ⟨by omega, rfl⟩))) | exact Or.inr (Or.inr (Or.inr (Or.inr (Or.inl ⟨by omega, rfl⟩)))) | exact Or.inr (Or.inr (Or.inr (Or.inr (Or.inr (⟨by omega, rfl⟩))))))⟩)
  · refine fz_tswO (tgt := 76) kX10_led rfl c1 (by decide) ?_
    refine fz_iconst ⟨by decide, by decide⟩ kX10_led rfl ?_
    exact fz_iret kX10_led rfl rfl (fun _ => ⟨rfl, _, rfl, (by omega), (by first | exact Or.inl ⟨by omega, rfl⟩ | exact Or.inr (Or.inl ⟨by omega, rfl⟩) | exact Or.inr (Or.inr (Or.inl ⟨by omega, rfl⟩)) | exact Or.inr (Or.inr (Or.inr (Or.inl ⟨by omega, rfl⟩))) | exact Or.inr (Or.inr (Or.inr (Or.inr (Or.inl ⟨by omega, rfl⟩)))) | exact Or.inr (Or.inr (Or.inr (Or.inr (Or.inr (⟨by omega, rfl⟩))))))⟩)

abbrev qX10_image (h : fz_H) : fz_H → Option fz_V → Prop := fun h' r0 => fz_Iv h' ∧ fz_fr [(40, 6), (42, 99999), (43, 99999)] h h' ∧ fz_RT h' ∧ ∃ r : Int, r0 = some (fz_i r) ∧ (0 ≤ r ∧ r ≤ 999) ∧ (r = h 40 1) ∧ (fz_imC h h') ∧ (fl_kiC h h')
set_option maxHeartbeats 1000000 in
set_option maxRecDepth 100000 in
theorem sX10_image (h : fz_H) (hI : fz_Iv h) (hRT : fz_RT h) : fz_R 2 mX10_image 0 [(0, fz_r 0)] [] h (qX10_image h) := by
  have hf : fz_fr [(40, 6), (42, 99999), (43, 99999)] h h := fz_fr_rf
  have b1 : 0 ≤ h 40 1 ∧ h 40 1 ≤ 999 := hI.1 40 _
  refine fz_aload_n kX10_image rfl rfl ?_
  refine fz_getR (t := 40) kX10_image rfl rfl ?_
  refine fz_callV (d' := 1) (M' := mX1_keepImage) (As := []) (st := []) kX10_image rfl rfl vX1_keepImage rfl rfl rfl rfl (Nat.le_of_ble_eq_true rfl) (Nat.le_of_ble_eq_true rfl) (by decide) (sX1_keepImage h hI  hRT) (fun H2 r3 q4 o5 => ?_)
  obtain ⟨hI6, hf7, hRT8, rfl, f9, f10⟩ := q4
  clear o5
  have hf11 := fz_fr_tr hf hf7 (show fz_su [(40, 6), (42, 99999), (43, 99999)] [(40, 6), (42, 99999), (43, 99999)] = true from rfl)
  refine fz_aload_n kX10_image rfl rfl ?_
  refine fz_getR (t := 40) kX10_image rfl rfl ?_
  refine fz_getV (v := h 40 1) kX10_image rfl rfl (hf11 40 1 rfl) ?_
  have b12 : 0 ≤ h 40 1 ∧ h 40 1 ≤ 999 := hI.1 40 _
  exact fz_iret kX10_image rfl rfl (fun _ => ⟨hI6, hf11, hRT8, _, rfl, (by omega), (by omega), (by exact f9), (by exact f10)⟩)

abbrev qX10_back (h : fz_H) : fz_H → Option fz_V → Prop := fun h' r0 => fz_Iv h' ∧ fz_fr [(40, 1), (40, 2), (40, 3), (40, 4), (40, 5), (41, 99999)] h h' ∧ fz_RT h' ∧ ∃ r : Int, r0 = some (fz_i r) ∧ ((-5) ≤ r ∧ r ≤ 999) ∧ (fz_bkC h h' r) ∧ (fl_bdC h h' r)
set_option maxHeartbeats 1000000 in
set_option maxRecDepth 100000 in
theorem sX10_back (h : fz_H) (hI : fz_Iv h) (hRT : fz_RT h) : fz_R 2 mX10_back 0 [(0, fz_r 0)] [] h (qX10_back h) := by
  have hf : fz_fr [(40, 1), (40, 2), (40, 3), (40, 4), (40, 5), (41, 99999)] h h := fz_fr_rf
  refine fz_aload_n kX10_back rfl rfl ?_
  refine fz_getR (t := 40) kX10_back rfl rfl ?_
  refine fz_getV (v := h 40 6) kX10_back rfl rfl rfl ?_
  have b1 : 0 ≤ h 40 6 ∧ h 40 6 ≤ 1 := hI.1 40 _
  refine fz_if_ne (tgt := 13) kX10_back rfl (by decide) (fun c2 => ?_) (fun c2 => ?_)
  · refine fz_aload_n kX10_back rfl rfl ?_
    refine fz_getR (t := 40) kX10_back rfl rfl ?_
    refine fz_callV (d' := 1) (M' := mX1_layBack) (As := []) (st := []) kX10_back rfl rfl vX1_layBack rfl rfl rfl rfl (Nat.le_of_ble_eq_true rfl) (Nat.le_of_ble_eq_true rfl) (by decide) (sX1_layBack h hI  hRT) (fun H3 r4 q5 o6 => ?_)
    obtain ⟨hI7, hf8, hRT9, rfl, f10, f11⟩ := q5
    clear o6
    have hf12 := fz_fr_tr hf hf8 (show fz_su [(40, 1), (40, 2), (40, 3), (40, 4), (40, 5), (41, 99999)] [(40, 1), (40, 2), (40, 3), (40, 4), (40, 5), (41, 99999)] = true from rfl)
    refine fz_aload_n kX10_back rfl rfl ?_
    refine fz_getR (t := 40) kX10_back rfl rfl ?_
    obtain ⟨v13, e14⟩ : ∃ z, H3 40 (1) = z := ⟨_, rfl⟩
    refine fz_getV (v := v13) kX10_back rfl rfl e14 ?_
    have b15 : 0 ≤ v13 ∧ v13 ≤ 999 := by rw [← e14]; exact hI7.1 40 _
    have k16 := f10.2.1
    exact fz_iret kX10_back rfl rfl (fun _ => ⟨hI7, hf12, hRT9, _, rfl, (by omega), (by first | exact Or.inl ⟨by omega, by omega, rfl⟩ | exact Or.inr ⟨by omega, by omega, f10⟩), (by first | exact Or.inl ⟨by omega, rfl⟩ | exact Or.inr ⟨by omega, f11⟩)⟩)
  · refine fz_bipush ⟨by decide, by decide⟩ kX10_back rfl ?_
    exact fz_iret kX10_back rfl rfl (fun _ => ⟨hI, hf, hRT, _, rfl, (by omega), (by first | exact Or.inl ⟨by omega, by omega, rfl⟩ | exact Or.inr ⟨by omega, by omega, lost⟩), (by first | exact Or.inl ⟨by omega, rfl⟩ | exact Or.inr ⟨by omega, lost⟩)⟩)

abbrev qX10_body (h : fz_H) (k : Int) : fz_H → Option fz_V → Prop := fun h' r0 => fz_Iv h' ∧ fz_fr [(44, 2), (45, 99999)] h h' ∧ ∃ r : Int, r0 = some (fz_i r) ∧ ((-3) ≤ r ∧ r ≤ 49) ∧ (((0 ≤ k ∧ k ≤ 7) ∧ h 44 2 < 50 ∧ r = h 44 2 ∧ h' 44 2 = h 44 2 + 1) ∨ ((0 ≤ k ∧ k ≤ 7) ∧ 50 ≤ h 44 2 ∧ r = -3 ∧ h' 44 2 = h 44 2) ∨ (¬ (0 ≤ k ∧ k ≤ 7) ∧ r = -1 ∧ h' 44 2 = h 44 2)) ∧ (fz_bC h h' k)
set_option maxHeartbeats 1000000 in
set_option maxRecDepth 100000 in
theorem sX10_body (h : fz_H) (hI : fz_Iv h) (k : Int) : fz_R 1 mX10_body 0 [(0, fz_r 0), (1, fz_i k)] [] h (qX10_body h k) := by
  refine fz_knowl (fun hk => ?_)
  have hr_k : -2147483648 ≤ k ∧ k < 2147483648 := hk _ (List.Mem.tail _ (List.Mem.head _))
  clear hk
  have hf : fz_fr [(44, 2), (45, 99999)] h h := fz_fr_rf
  have b1 : 0 ≤ h 44 2 ∧ h 44 2 ≤ 50 := hI.1 44 _
  refine fz_aload_n kX10_body rfl rfl ?_
  refine fz_getR (t := 44) kX10_body rfl rfl ?_
  refine fz_iload_n kX10_body rfl rfl ?_
  refine fz_callV (d' := 0) (M' := mX9_isKind) (As := [fz_i k]) (st := []) kX10_body rfl rfl vX9_isKind rfl rfl rfl rfl (Nat.le_of_ble_eq_true rfl) (Nat.le_of_ble_eq_true rfl) (by decide) (sX9_isKind h hI k ) (fun H2 r3 q4 o5 => ?_)
  obtain ⟨e6, y7, rfl, p8⟩ := q4
  subst H2
  clear o5
  rcases p8 with ⟨rfl, c9⟩ | ⟨rfl, c9⟩
  · refine fz_if_ne (tgt := 13) kX10_body rfl (by decide) (fun c10 => ?_) (fun c10 => ?_)
    · refine fz_aload_n kX10_body rfl rfl ?_
      refine fz_getR (t := 44) kX10_body rfl rfl ?_
      refine fz_iload_n kX10_body rfl rfl ?_
      refine fz_callV (d' := 0) (M' := mX9_add) (As := [fz_i k]) (st := []) kX10_body rfl rfl vX9_add rfl rfl rfl rfl (Nat.le_of_ble_eq_true rfl) (Nat.le_of_ble_eq_true rfl) (by decide) (sX9_add h hI k (by omega)) (fun H11 r12 q13 o14 => ?_)
      obtain ⟨hI15, hf16, y20, rfl, f17, f18, f19⟩ := q13
      clear o14
      have hf21 := fz_fr_tr hf hf16 (show fz_su [(44, 2), (45, 99999)] [(44, 2), (45, 99999)] = true from rfl)
      exact fz_iret kX10_body rfl rfl (fun _ => ⟨hI15, hf21, _, rfl, (by omega), (by omega), (by first | exact f19 | exact Or.inr ⟨by omega, rfl⟩)⟩)
    · exfalso; omega
  · refine fz_if_ne (tgt := 13) kX10_body rfl (by decide) (fun c23 => ?_) (fun c23 => ?_)
    · exfalso; omega
    · refine fz_iconst ⟨by decide, by decide⟩ kX10_body rfl ?_
      exact fz_iret kX10_body rfl rfl (fun _ => ⟨hI, hf, _, rfl, (by omega), (by omega), (by first | exact lost | exact Or.inr ⟨by omega, rfl⟩)⟩)

abbrev qX10_act (h : fz_H) (b ac x : Int) : fz_H → Option fz_V → Prop := fun h' r0 => fz_Iv h' ∧ fz_fr [(44, 3), (44, 4), (44, 5), (46, 99999)] h h' ∧ ∃ r : Int, r0 = some (fz_i r) ∧ (r = fz_act (h 44 2) (h 45 b.toNat) b ac x) ∧ (fz_aT h h' 46 44 3 (fz_atr (h 44 2) (h 45 b.toNat) b ac))
set_option maxHeartbeats 1000000 in
set_option maxRecDepth 100000 in
theorem sX10_act (h : fz_H) (hI : fz_Iv h) (b ac x : Int) : fz_R 8 mX10_act 0 [(0, fz_r 0), (1, fz_i b), (2, fz_i ac), (3, fz_i x)] [] h (qX10_act h b ac x) := by
  refine fz_knowl (fun hk => ?_)
  have hr_b : -2147483648 ≤ b ∧ b < 2147483648 := hk _ (List.Mem.tail _ (List.Mem.head _))
  have hr_ac : -2147483648 ≤ ac ∧ ac < 2147483648 := hk _ (List.Mem.tail _ (List.Mem.tail _ (List.Mem.head _)))
  have hr_x : -2147483648 ≤ x ∧ x < 2147483648 := hk _ (List.Mem.tail _ (List.Mem.tail _ (List.Mem.tail _ (List.Mem.head _))))
  clear hk
  have hf : fz_fr [(44, 3), (44, 4), (44, 5), (46, 99999)] h h := fz_fr_rf
  have b1 : 0 ≤ h 44 2 ∧ h 44 2 ≤ 50 := hI.1 44 _
  refine fz_aload_n kX10_act rfl rfl ?_
  refine fz_getR (t := 44) kX10_act rfl rfl ?_
  refine fz_iload_n kX10_act rfl rfl ?_
  refine fz_iload_n kX10_act rfl rfl ?_
  refine fz_iload_n kX10_act rfl rfl ?_
  refine fz_callV (d' := 7) (M' := mX9_start) (As := [fz_i b, fz_i ac, fz_i x]) (st := []) kX10_act rfl rfl vX9_start rfl rfl rfl rfl (Nat.le_of_ble_eq_true rfl) (Nat.le_of_ble_eq_true rfl) (by decide) (sX9_start h hI b ac x ) (fun H2 r3 q4 o5 => ?_)
  obtain ⟨hI6, hf7, y10, rfl, f8, f9⟩ := q4
  clear o5
  have hf11 := fz_fr_tr hf hf7 (show fz_su [(44, 3), (44, 4), (44, 5), (46, 99999)] [(44, 3), (44, 4), (44, 5), (46, 99999)] = true from rfl)
  exact fz_iret kX10_act rfl rfl (fun _ => ⟨hI6, hf11, _, rfl, (by exact f8), (by exact f9)⟩)

abbrev qX10_trace (h : fz_H) (i : Int) : fz_H → Option fz_V → Prop := fun h' r0 => h' = h ∧ ∃ r : Int, r0 = some (fz_i r) ∧ ((-2147483648) ≤ r ∧ r ≤ 2147483647) ∧ ((0 ≤ i ∧ i < 24 ∧ i < h 44 3 ∧ r = h 46 i.toNat) ∨ (¬ (0 ≤ i ∧ i < 24 ∧ i < h 44 3) ∧ r = -1))
set_option maxHeartbeats 1000000 in
set_option maxRecDepth 100000 in
theorem sX10_trace (h : fz_H) (hI : fz_Iv h) (i : Int) : fz_R 1 mX10_trace 0 [(0, fz_r 0), (1, fz_i i)] [] h (qX10_trace h i) := by
  refine fz_knowl (fun hk => ?_)
  have hr_i : -2147483648 ≤ i ∧ i < 2147483648 := hk _ (List.Mem.tail _ (List.Mem.head _))
  clear hk
  have b1 : (-2147483648) ≤ h 44 3 ∧ h 44 3 ≤ 2147483647 := hI.1 44 _
  refine fz_iload_n kX10_trace rfl rfl ?_
  refine fz_if_lt (tgt := 20) kX10_trace rfl (by decide) (fun c2 => ?_) (fun c2 => ?_)
  · refine fz_iconst ⟨by decide, by decide⟩ kX10_trace rfl ?_
    exact fz_iret kX10_trace rfl rfl (fun _ => ⟨rfl, _, rfl, (by omega), (by omega)⟩)
  · refine fz_iload_n kX10_trace rfl rfl ?_
    refine fz_aload_n kX10_trace rfl rfl ?_
    refine fz_getR (t := 44) kX10_trace rfl rfl ?_
    refine fz_getV (v := h 44 3) kX10_trace rfl rfl rfl ?_
    have b3 : (-2147483648) ≤ h 44 3 ∧ h 44 3 ≤ 2147483647 := hI.1 44 _
    refine fz_bipush ⟨by decide, by decide⟩ kX10_trace rfl ?_
    refine fz_min kX10_trace rfl rfl fz_sMn fz_iMm fz_cMn (by decide) (Nat.le_of_ble_eq_true rfl) ?_
    refine fz_icmp_lt (tgt := 22) kX10_trace rfl (by decide) (fun c4 => ?_) (fun c4 => ?_)
    · refine fz_aload_n kX10_trace rfl rfl ?_
      refine fz_getR (t := 44) kX10_trace rfl rfl ?_
      refine fz_getR (t := 46) kX10_trace rfl rfl ?_
      refine fz_iload_n kX10_trace rfl rfl ?_
      refine fz_ialdV (n := 24) (v := h 46 (i.toNat)) kX10_trace rfl rfl (by omega) (by omega) rfl ?_
      have b5 : (-2147483648) ≤ h 46 (i.toNat) ∧ h 46 (i.toNat) ≤ 2147483647 := hI.1 46 _
      exact fz_iret kX10_trace rfl rfl (fun _ => ⟨rfl, _, rfl, (by omega), (by omega)⟩)
    · refine fz_iconst ⟨by decide, by decide⟩ kX10_trace rfl ?_
      exact fz_iret kX10_trace rfl rfl (fun _ => ⟨rfl, _, rfl, (by omega), (by omega)⟩)

abbrev qX10_keep (h : fz_H) (s b : Int) : fz_H → Option fz_V → Prop := fun h' r0 => fz_Iv h' ∧ fz_fr [(48, 99999), (49, 99999)] h h' ∧ ∃ r : Int, r0 = some (fz_i r) ∧ ((-1) ≤ r ∧ r ≤ 1) ∧ ((0 ≤ s ∧ s ≤ 5 ∧ -1 ≤ b ∧ b < h 44 2 ∧ r = 1) ∨ (¬ (0 ≤ s ∧ s ≤ 5 ∧ -1 ≤ b ∧ b < h 44 2) ∧ r = -1)) ∧ (fz_kC h h' s b)
set_option maxHeartbeats 1000000 in
set_option maxRecDepth 100000 in
theorem sX10_keep (h : fz_H) (hI : fz_Iv h) (s b : Int) : fz_R 1 mX10_keep 0 [(0, fz_r 0), (1, fz_i s), (2, fz_i b)] [] h (qX10_keep h s b) := by
  refine fz_knowl (fun hk => ?_)
  have hr_s : -2147483648 ≤ s ∧ s < 2147483648 := hk _ (List.Mem.tail _ (List.Mem.head _))
  have hr_b : -2147483648 ≤ b ∧ b < 2147483648 := hk _ (List.Mem.tail _ (List.Mem.tail _ (List.Mem.head _)))
  clear hk
  have hf : fz_fr [(48, 99999), (49, 99999)] h h := fz_fr_rf
  have b1 : 0 ≤ h 44 2 ∧ h 44 2 ≤ 50 := hI.1 44 _
  refine fz_aload_n kX10_keep rfl rfl ?_
  refine fz_getR (t := 47) kX10_keep rfl rfl ?_
  refine fz_iload_n kX10_keep rfl rfl ?_
  refine fz_callV (d' := 0) (M' := mX7_isShelf) (As := [fz_i s]) (st := []) kX10_keep rfl rfl vX7_isShelf rfl rfl rfl rfl (Nat.le_of_ble_eq_true rfl) (Nat.le_of_ble_eq_true rfl) (by decide) (sX7_isShelf h hI s ) (fun H2 r3 q4 o5 => ?_)
  obtain ⟨e6, y7, rfl, p8⟩ := q4
  subst H2
  clear o5
  rcases p8 with ⟨rfl, c9⟩ | ⟨rfl, c9⟩
  · refine fz_if_eq (tgt := 27) kX10_keep rfl (by decide) (fun c10 => ?_) (fun c10 => ?_)
    · exfalso; omega
    · refine fz_iload_n kX10_keep rfl rfl ?_
      refine fz_iconst ⟨by decide, by decide⟩ kX10_keep rfl ?_
      refine fz_icmp_eq (tgt := 29) kX10_keep rfl (by decide) (fun c11 => ?_) (fun c11 => ?_)
      · refine fz_aload_n kX10_keep rfl rfl ?_
        refine fz_getR (t := 47) kX10_keep rfl rfl ?_
        refine fz_iload_n kX10_keep rfl rfl ?_
        refine fz_iload_n kX10_keep rfl rfl ?_
        refine fz_callV (d' := 0) (M' := mX7_setWord) (As := [fz_i s, fz_i b]) (st := []) kX10_keep rfl rfl vX7_setWord rfl rfl rfl rfl (Nat.le_of_ble_eq_true rfl) (Nat.le_of_ble_eq_true rfl) (by decide) (sX7_setWord h hI s b (by omega)) (fun H12 r13 q14 o15 => ?_)
        obtain ⟨hI16, hf17, rfl, f18⟩ := q14
        clear o15
        have hf19 := fz_fr_tr hf hf17 (show fz_su [(48, 99999), (49, 99999)] [(48, 99999), (49, 99999)] = true from rfl)
        refine fz_iconst ⟨by decide, by decide⟩ kX10_keep rfl ?_
        exact fz_iret kX10_keep rfl rfl (fun _ => ⟨hI16, hf19, _, rfl, (by omega), (by omega), (by first | exact Or.inl ⟨by omega, f18⟩ | exact Or.inr ⟨by omega, rfl⟩)⟩)
      · refine fz_aload_n kX10_keep rfl rfl ?_
        refine fz_getR (t := 44) kX10_keep rfl rfl ?_
        refine fz_iload_n kX10_keep rfl rfl ?_
        refine fz_callV (d' := 0) (M' := mX9_isBody) (As := [fz_i b]) (st := []) kX10_keep rfl rfl vX9_isBody rfl rfl rfl rfl (Nat.le_of_ble_eq_true rfl) (Nat.le_of_ble_eq_true rfl) (by decide) (sX9_isBody h hI b ) (fun H21 r22 q23 o24 => ?_)
        obtain ⟨e25, y26, rfl, p27⟩ := q23
        subst H21
        clear o24
        rcases p27 with ⟨rfl, c28⟩ | ⟨rfl, c28⟩
        · refine fz_if_ne (tgt := 29) kX10_keep rfl (by decide) (fun c29 => ?_) (fun c29 => ?_)
          · refine fz_aload_n kX10_keep rfl rfl ?_
            refine fz_getR (t := 47) kX10_keep rfl rfl ?_
            refine fz_iload_n kX10_keep rfl rfl ?_
            refine fz_iload_n kX10_keep rfl rfl ?_
            refine fz_callV (d' := 0) (M' := mX7_setWord) (As := [fz_i s, fz_i b]) (st := []) kX10_keep rfl rfl vX7_setWord rfl rfl rfl rfl (Nat.le_of_ble_eq_true rfl) (Nat.le_of_ble_eq_true rfl) (by decide) (sX7_setWord h hI s b (by omega)) (fun H30 r31 q32 o33 => ?_)
            obtain ⟨hI34, hf35, rfl, f36⟩ := q32
            clear o33
            have hf37 := fz_fr_tr hf hf35 (show fz_su [(48, 99999), (49, 99999)] [(48, 99999), (49, 99999)] = true from rfl)
            refine fz_iconst ⟨by decide, by decide⟩ kX10_keep rfl ?_
            exact fz_iret kX10_keep rfl rfl (fun _ => ⟨hI34, hf37, _, rfl, (by omega), (by omega), (by first | exact Or.inl ⟨by omega, f36⟩ | exact Or.inr ⟨by omega, rfl⟩)⟩)
          · exfalso; omega
        · refine fz_if_ne (tgt := 29) kX10_keep rfl (by decide) (fun c39 => ?_) (fun c39 => ?_)
          · exfalso; omega
          · refine fz_iconst ⟨by decide, by decide⟩ kX10_keep rfl ?_
            exact fz_iret kX10_keep rfl rfl (fun _ => ⟨hI, hf, _, rfl, (by omega), (by omega), (by first | exact Or.inl ⟨by omega, lost⟩ | exact Or.inr ⟨by omega, rfl⟩)⟩)
  · refine fz_if_eq (tgt := 27) kX10_keep rfl (by decide) (fun c41 => ?_) (fun c41 => ?_)
    · refine fz_iconst ⟨by decide, by decide⟩ kX10_keep rfl ?_
      exact fz_iret kX10_keep rfl rfl (fun _ => ⟨hI, hf, _, rfl, (by omega), (by omega), (by first | exact Or.inl ⟨by omega, lost⟩ | exact Or.inr ⟨by omega, rfl⟩)⟩)
    · exfalso; omega

abbrev qX10_row (h : fz_H) (s so n : Int) : fz_H → Option fz_V → Prop := fun h' r0 => fz_Iv h' ∧ fz_fr [(48, 99999), (50, 99999), (51, 99999), (52, 99999)] h h' ∧ ∃ r : Int, r0 = some (fz_i r) ∧ ((-14) ≤ r ∧ r ≤ 1) ∧ ((0 ≤ s ∧ s ≤ 5 ∧ 0 ≤ so ∧ so ≤ 4 ∧ n ≤ 60 ∧ n < 0 ∧ r = -14) ∨ (0 ≤ s ∧ s ≤ 5 ∧ 0 ≤ so ∧ so ≤ 4 ∧ n ≤ 60 ∧ 0 ≤ n ∧ r = 1) ∨ (¬ (0 ≤ s ∧ s ≤ 5 ∧ 0 ≤ so ∧ so ≤ 4 ∧ n ≤ 60) ∧ r = -1)) ∧ (fz_rC h h' s so n)
set_option maxHeartbeats 1000000 in
set_option maxRecDepth 100000 in
theorem sX10_row (h : fz_H) (hI : fz_Iv h) (s so n : Int) : fz_R 3 mX10_row 0 [(0, fz_r 0), (1, fz_i s), (2, fz_i so), (3, fz_i n)] [] h (qX10_row h s so n) := by
  refine fz_knowl (fun hk => ?_)
  have hr_s : -2147483648 ≤ s ∧ s < 2147483648 := hk _ (List.Mem.tail _ (List.Mem.head _))
  have hr_so : -2147483648 ≤ so ∧ so < 2147483648 := hk _ (List.Mem.tail _ (List.Mem.tail _ (List.Mem.head _)))
  have hr_n : -2147483648 ≤ n ∧ n < 2147483648 := hk _ (List.Mem.tail _ (List.Mem.tail _ (List.Mem.tail _ (List.Mem.head _))))
  clear hk
  have hf : fz_fr [(48, 99999), (50, 99999), (51, 99999), (52, 99999)] h h := fz_fr_rf
  refine fz_aload_n kX10_row rfl rfl ?_
  refine fz_getR (t := 47) kX10_row rfl rfl ?_
  refine fz_iload_n kX10_row rfl rfl ?_
  refine fz_callV (d' := 0) (M' := mX7_isShelf) (As := [fz_i s]) (st := []) kX10_row rfl rfl vX7_isShelf rfl rfl rfl rfl (Nat.le_of_ble_eq_true rfl) (Nat.le_of_ble_eq_true rfl) (by decide) (sX7_isShelf h hI s ) (fun H1 r2 q3 o4 => ?_)
  obtain ⟨e5, y6, rfl, p7⟩ := q3
  subst H1
  clear o4
  rcases p7 with ⟨rfl, c8⟩ | ⟨rfl, c8⟩
  · refine fz_if_eq (tgt := 26) kX10_row rfl (by decide) (fun c9 => ?_) (fun c9 => ?_)
    · exfalso; omega
    · refine fz_iload_n kX10_row rfl rfl ?_
      refine fz_if_lt (tgt := 26) kX10_row rfl (by decide) (fun c10 => ?_) (fun c10 => ?_)
      · refine fz_iconst ⟨by decide, by decide⟩ kX10_row rfl ?_
        exact fz_iret kX10_row rfl rfl (fun _ => ⟨hI, hf, _, rfl, (by omega), (by omega), (by first | exact Or.inl ⟨by omega, lost⟩ | exact Or.inr ⟨by omega, rfl⟩)⟩)
      · refine fz_iload_n kX10_row rfl rfl ?_
        refine fz_iconst ⟨by decide, by decide⟩ kX10_row rfl ?_
        refine fz_icmp_gt (tgt := 26) kX10_row rfl (by decide) (fun c12 => ?_) (fun c12 => ?_)
        · refine fz_iconst ⟨by decide, by decide⟩ kX10_row rfl ?_
          exact fz_iret kX10_row rfl rfl (fun _ => ⟨hI, hf, _, rfl, (by omega), (by omega), (by first | exact Or.inl ⟨by omega, lost⟩ | exact Or.inr ⟨by omega, rfl⟩)⟩)
        · refine fz_iload_n kX10_row rfl rfl ?_
          refine fz_bipush ⟨by decide, by decide⟩ kX10_row rfl ?_
          refine fz_icmp_le (tgt := 28) kX10_row rfl (by decide) (fun c14 => ?_) (fun c14 => ?_)
          · refine fz_iload_n kX10_row rfl rfl ?_
            refine fz_if_ge (tgt := 35) kX10_row rfl (by decide) (fun c15 => ?_) (fun c15 => ?_)
            · refine fz_aload_n kX10_row rfl rfl ?_
              refine fz_getR (t := 47) kX10_row rfl rfl ?_
              refine fz_iload_n kX10_row rfl rfl ?_
              refine fz_iload_n kX10_row rfl rfl ?_
              refine fz_iload_n kX10_row rfl rfl ?_
              refine fz_callV (d' := 2) (M' := mX7_setRow) (As := [fz_i s, fz_i so, fz_i n]) (st := []) kX10_row rfl rfl vX7_setRow rfl rfl rfl rfl (Nat.le_of_ble_eq_true rfl) (Nat.le_of_ble_eq_true rfl) (by decide) (sX7_setRow h hI s so n (by omega) (by omega) (by omega)) (fun H16 r17 q18 o19 => ?_)
              obtain ⟨hI20, hf21, rfl, f22⟩ := q18
              clear o19
              have hf23 := fz_fr_tr hf hf21 (show fz_su [(48, 99999), (50, 99999), (51, 99999), (52, 99999)] [(48, 99999), (50, 99999), (51, 99999), (52, 99999)] = true from rfl)
              refine fz_iconst ⟨by decide, by decide⟩ kX10_row rfl ?_
              exact fz_iret kX10_row rfl rfl (fun _ => ⟨hI20, hf23, _, rfl, (by omega), (by omega), (by first | exact Or.inl ⟨by omega, f22⟩ | exact Or.inr ⟨by omega, rfl⟩)⟩)
            · refine fz_bipush ⟨by decide, by decide⟩ kX10_row rfl ?_
              exact fz_iret kX10_row rfl rfl (fun _ => ⟨hI, hf, _, rfl, (by omega), (by omega), (by first | exact Or.inl ⟨by omega, lost⟩ | exact Or.inr ⟨by omega, rfl⟩)⟩)
          · refine fz_iconst ⟨by decide, by decide⟩ kX10_row rfl ?_
            exact fz_iret kX10_row rfl rfl (fun _ => ⟨hI, hf, _, rfl, (by omega), (by omega), (by first | exact Or.inl ⟨by omega, lost⟩ | exact Or.inr ⟨by omega, rfl⟩)⟩)
  · refine fz_if_eq (tgt := 26) kX10_row rfl (by decide) (fun c27 => ?_) (fun c27 => ?_)
    · refine fz_iconst ⟨by decide, by decide⟩ kX10_row rfl ?_
      exact fz_iret kX10_row rfl rfl (fun _ => ⟨hI, hf, _, rfl, (by omega), (by omega), (by first | exact Or.inl ⟨by omega, lost⟩ | exact Or.inr ⟨by omega, rfl⟩)⟩)
    · exfalso; omega

abbrev qX10_refusalOfPlace (h : fz_H) (s i : Int) : fz_H → Option fz_V → Prop := fun h' r0 => h' = h ∧ ∃ r : Int, r0 = some (fz_i r) ∧ ((-13) ≤ r ∧ r ≤ 0) ∧ (0 ≤ r → (0 ≤ s ∧ s ≤ 5 ∧ 0 ≤ i ∧ i ≤ 59)) ∧ ((¬ (0 ≤ s ∧ s ≤ 5) ∧ r = -1) ∨ (0 ≤ s ∧ s ≤ 5 ∧ h 48 s.toNat = 0 ∧ r = -11) ∨ (0 ≤ s ∧ s ≤ 5 ∧ h 48 s.toNat = 1 ∧ r = -12) ∨ (0 ≤ s ∧ s ≤ 5 ∧ h 48 s.toNat = 2 ∧ ¬ (0 ≤ i ∧ i < h 51 s.toNat) ∧ r = -13) ∨ (0 ≤ s ∧ s ≤ 5 ∧ h 48 s.toNat = 2 ∧ 0 ≤ i ∧ i < h 51 s.toNat ∧ r = 0))
set_option maxHeartbeats 1000000 in
set_option maxRecDepth 100000 in
theorem sX10_refusalOfPlace (h : fz_H) (hI : fz_Iv h) (s i : Int) : fz_R 2 mX10_refusalOfPlace 0 [(0, fz_r 0), (1, fz_i s), (2, fz_i i)] [] h (qX10_refusalOfPlace h s i) := by
  refine fz_knowl (fun hk => ?_)
  have hr_s : -2147483648 ≤ s ∧ s < 2147483648 := hk _ (List.Mem.tail _ (List.Mem.head _))
  have hr_i : -2147483648 ≤ i ∧ i < 2147483648 := hk _ (List.Mem.tail _ (List.Mem.tail _ (List.Mem.head _)))
  clear hk
  have hs48_s : 0 ≤ h 48 (s.toNat) ∧ h 48 (s.toNat) ≤ 2 := hI.1 48 _
  have hs51_s : 0 ≤ h 51 (s.toNat) ∧ h 51 (s.toNat) ≤ 60 := hI.1 51 _
  refine fz_aload_n kX10_refusalOfPlace rfl rfl ?_
  refine fz_getR (t := 47) kX10_refusalOfPlace rfl rfl ?_
  refine fz_iload_n kX10_refusalOfPlace rfl rfl ?_
  refine fz_callV (d' := 0) (M' := mX7_isShelf) (As := [fz_i s]) (st := []) kX10_refusalOfPlace rfl rfl vX7_isShelf rfl rfl rfl rfl (Nat.le_of_ble_eq_true rfl) (Nat.le_of_ble_eq_true rfl) (by decide) (sX7_isShelf h hI s ) (fun H3 r4 q5 o6 => ?_)
  obtain ⟨e7, y8, rfl, p9⟩ := q5
  subst H3
  clear o6
  rcases p9 with ⟨rfl, c10⟩ | ⟨rfl, c10⟩
  · refine fz_if_ne (tgt := 13) kX10_refusalOfPlace rfl (by decide) (fun c11 => ?_) (fun c11 => ?_)
    · refine fz_aload_n kX10_refusalOfPlace rfl rfl ?_
      refine fz_getR (t := 47) kX10_refusalOfPlace rfl rfl ?_
      refine fz_iload_n kX10_refusalOfPlace rfl rfl ?_
      refine fz_callV (d' := 0) (M' := mX7_isEmpty) (As := [fz_i s]) (st := []) kX10_refusalOfPlace rfl rfl vX7_isEmpty rfl rfl rfl rfl (Nat.le_of_ble_eq_true rfl) (Nat.le_of_ble_eq_true rfl) (by decide) (sX7_isEmpty h hI s (by omega)) (fun H12 r13 q14 o15 => ?_)
      obtain ⟨e16, y17, rfl, p18⟩ := q14
      subst H12
      clear o15
      rcases p18 with ⟨rfl, c19⟩ | ⟨rfl, c19⟩
      · refine fz_if_eq (tgt := 27) kX10_refusalOfPlace rfl (by decide) (fun c20 => ?_) (fun c20 => ?_)
        · exfalso; omega
        · refine fz_bipush ⟨by decide, by decide⟩ kX10_refusalOfPlace rfl ?_
          exact fz_iret kX10_refusalOfPlace rfl rfl (fun _ => ⟨rfl, _, rfl, (by omega), (by omega), (by first | exact Or.inl ⟨by omega, rfl⟩ | exact Or.inr (Or.inl ⟨by omega, by omega, by omega, rfl⟩) | exact Or.inr (Or.inr (Or.inl ⟨by omega, by omega, by omega, rfl⟩)) | exact Or.inr (Or.inr (Or.inr (Or.inl ⟨by omega, by omega, by omega, by omega, rfl⟩))) | exact Or.inr (Or.inr (Or.inr (Or.inr ⟨by omega, by omega, by omega, by omega, by omega, rfl⟩))) | omega)⟩)
      · refine fz_if_eq (tgt := 27) kX10_refusalOfPlace rfl (by decide) (fun c22 => ?_) (fun c22 => ?_)
        · refine fz_aload_n kX10_refusalOfPlace rfl rfl ?_
          refine fz_getR (t := 47) kX10_refusalOfPlace rfl rfl ?_
          refine fz_iload_n kX10_refusalOfPlace rfl rfl ?_
          refine fz_callV (d' := 0) (M' := mX7_isRow) (As := [fz_i s]) (st := []) kX10_refusalOfPlace rfl rfl vX7_isRow rfl rfl rfl rfl (Nat.le_of_ble_eq_true rfl) (Nat.le_of_ble_eq_true rfl) (by decide) (sX7_isRow h hI s (by omega)) (fun H23 r24 q25 o26 => ?_)
          obtain ⟨e27, y28, rfl, p29⟩ := q25
          subst H23
          clear o26
          rcases p29 with ⟨rfl, c30⟩ | ⟨rfl, c30⟩
          · refine fz_if_ne (tgt := 41) kX10_refusalOfPlace rfl (by decide) (fun c31 => ?_) (fun c31 => ?_)
            · refine fz_aload_n kX10_refusalOfPlace rfl rfl ?_
              refine fz_getR (t := 47) kX10_refusalOfPlace rfl rfl ?_
              refine fz_iload_n kX10_refusalOfPlace rfl rfl ?_
              refine fz_iload_n kX10_refusalOfPlace rfl rfl ?_
              refine fz_iconst ⟨by decide, by decide⟩ kX10_refusalOfPlace rfl ?_
              refine fz_callV (d' := 1) (M' := mX7_hasPlaces) (As := [fz_i s, fz_i i, fz_i 1]) (st := []) kX10_refusalOfPlace rfl rfl vX7_hasPlaces rfl rfl rfl rfl (Nat.le_of_ble_eq_true rfl) (Nat.le_of_ble_eq_true rfl) (by decide) (sX7_hasPlaces h hI s i 1 (by omega)) (fun H32 r33 q34 o35 => ?_)
              obtain ⟨e36, y37, rfl, p38⟩ := q34
              subst H32
              clear o35
              rcases p38 with ⟨rfl, c39⟩ | ⟨rfl, c39⟩
              · refine fz_if_eq (tgt := 58) kX10_refusalOfPlace rfl (by decide) (fun c40 => ?_) (fun c40 => ?_)
                · exfalso; omega
                · refine fz_iconst ⟨by decide, by decide⟩ kX10_refusalOfPlace rfl ?_
                  refine fz_goto (tgt := 60) kX10_refusalOfPlace rfl (by decide) ?_
                  exact fz_iret kX10_refusalOfPlace rfl rfl (fun _ => ⟨rfl, _, rfl, (by omega), (by omega), (by first | exact Or.inl ⟨by omega, rfl⟩ | exact Or.inr (Or.inl ⟨by omega, by omega, by omega, rfl⟩) | exact Or.inr (Or.inr (Or.inl ⟨by omega, by omega, by omega, rfl⟩)) | exact Or.inr (Or.inr (Or.inr (Or.inl ⟨by omega, by omega, by omega, by omega, rfl⟩))) | exact Or.inr (Or.inr (Or.inr (Or.inr ⟨by omega, by omega, by omega, by omega, by omega, rfl⟩))) | omega)⟩)
              · refine fz_if_eq (tgt := 58) kX10_refusalOfPlace rfl (by decide) (fun c42 => ?_) (fun c42 => ?_)
                · refine fz_bipush ⟨by decide, by decide⟩ kX10_refusalOfPlace rfl ?_
                  exact fz_iret kX10_refusalOfPlace rfl rfl (fun _ => ⟨rfl, _, rfl, (by omega), (by omega), (by first | exact Or.inl ⟨by omega, rfl⟩ | exact Or.inr (Or.inl ⟨by omega, by omega, by omega, rfl⟩) | exact Or.inr (Or.inr (Or.inl ⟨by omega, by omega, by omega, rfl⟩)) | exact Or.inr (Or.inr (Or.inr (Or.inl ⟨by omega, by omega, by omega, by omega, rfl⟩))) | exact Or.inr (Or.inr (Or.inr (Or.inr ⟨by omega, by omega, by omega, by omega, by omega, rfl⟩))) | omega)⟩)
                · exfalso; omega
            · exfalso; omega
          · refine fz_if_ne (tgt := 41) kX10_refusalOfPlace rfl (by decide) (fun c44 => ?_) (fun c44 => ?_)
            · exfalso; omega
            · refine fz_bipush ⟨by decide, by decide⟩ kX10_refusalOfPlace rfl ?_
              exact fz_iret kX10_refusalOfPlace rfl rfl (fun _ => ⟨rfl, _, rfl, (by omega), (by omega), (by first | exact Or.inl ⟨by omega, rfl⟩ | exact Or.inr (Or.inl ⟨by omega, by omega, by omega, rfl⟩) | exact Or.inr (Or.inr (Or.inl ⟨by omega, by omega, by omega, rfl⟩)) | exact Or.inr (Or.inr (Or.inr (Or.inl ⟨by omega, by omega, by omega, by omega, rfl⟩))) | exact Or.inr (Or.inr (Or.inr (Or.inr ⟨by omega, by omega, by omega, by omega, by omega, rfl⟩))) | omega)⟩)
        · exfalso; omega
    · exfalso; omega
  · refine fz_if_ne (tgt := 13) kX10_refusalOfPlace rfl (by decide) (fun c46 => ?_) (fun c46 => ?_)
    · exfalso; omega
    · refine fz_iconst ⟨by decide, by decide⟩ kX10_refusalOfPlace rfl ?_
      exact fz_iret kX10_refusalOfPlace rfl rfl (fun _ => ⟨rfl, _, rfl, (by omega), (by omega), (by first | exact Or.inl ⟨by omega, rfl⟩ | exact Or.inr (Or.inl ⟨by omega, by omega, by omega, rfl⟩) | exact Or.inr (Or.inr (Or.inl ⟨by omega, by omega, by omega, rfl⟩)) | exact Or.inr (Or.inr (Or.inr (Or.inl ⟨by omega, by omega, by omega, by omega, rfl⟩))) | exact Or.inr (Or.inr (Or.inr (Or.inr ⟨by omega, by omega, by omega, by omega, by omega, rfl⟩))) | omega)⟩)

abbrev qX10_put (h : fz_H) (s i v : Int) : fz_H → Option fz_V → Prop := fun h' r0 => fz_Iv h' ∧ fz_fr [(52, 99999)] h h' ∧ ∃ r : Int, r0 = some (fz_i r) ∧ ((-13) ≤ r ∧ r ≤ 1) ∧ ((¬ (0 ≤ s ∧ s ≤ 5) ∧ r = -1) ∨ (0 ≤ s ∧ s ≤ 5 ∧ h 48 s.toNat = 0 ∧ r = -11) ∨ (0 ≤ s ∧ s ≤ 5 ∧ h 48 s.toNat = 1 ∧ r = -12) ∨ (0 ≤ s ∧ s ≤ 5 ∧ h 48 s.toNat = 2 ∧ ¬ (0 ≤ i ∧ i < h 51 s.toNat) ∧ r = -13) ∨ (0 ≤ s ∧ s ≤ 5 ∧ h 48 s.toNat = 2 ∧ 0 ≤ i ∧ i < h 51 s.toNat ∧ r = 1)) ∧ (fz_pC h h' s i v)
set_option maxHeartbeats 1000000 in
set_option maxRecDepth 100000 in
theorem sX10_put (h : fz_H) (hI : fz_Iv h) (s i v : Int) : fz_R 3 mX10_put 0 [(0, fz_r 0), (1, fz_i s), (2, fz_i i), (3, fz_l v)] [] h (qX10_put h s i v) := by
  refine fz_knowl (fun hk => ?_)
  have hr_s : -2147483648 ≤ s ∧ s < 2147483648 := hk _ (List.Mem.tail _ (List.Mem.head _))
  have hr_i : -2147483648 ≤ i ∧ i < 2147483648 := hk _ (List.Mem.tail _ (List.Mem.tail _ (List.Mem.head _)))
  have hr_v : -9223372036854775808 ≤ v ∧ v < 9223372036854775808 := hk _ (List.Mem.tail _ (List.Mem.tail _ (List.Mem.tail _ (List.Mem.head _))))
  clear hk
  have hf : fz_fr [(52, 99999)] h h := fz_fr_rf
  refine fz_aload_n kX10_put rfl rfl ?_
  refine fz_iload_n kX10_put rfl rfl ?_
  refine fz_iload_n kX10_put rfl rfl ?_
  refine fz_callV (d' := 2) (M' := mX10_refusalOfPlace) (As := [fz_i s, fz_i i]) (st := []) kX10_put rfl rfl vX10_refusalOfPlace rfl rfl rfl rfl (Nat.le_of_ble_eq_true rfl) (Nat.le_of_ble_eq_true rfl) (by decide) (sX10_refusalOfPlace h hI s i ) (fun H1 r2 q3 o4 => ?_)
  obtain ⟨e5, y9, rfl, f6, f7, f8⟩ := q3
  subst H1
  clear o4
  refine fz_istore (ls' := [(5, fz_i y9), (0, fz_r 0), (1, fz_i s), (2, fz_i i), (3, fz_l v)]) kX10_put rfl (by decide) rfl ?_
  refine fz_iload kX10_put rfl rfl ?_
  refine fz_if_ge (tgt := 16) kX10_put rfl (by decide) (fun c10 => ?_) (fun c10 => ?_)
  · refine fz_aload_n kX10_put rfl rfl ?_
    refine fz_getR (t := 47) kX10_put rfl rfl ?_
    refine fz_iload_n kX10_put rfl rfl ?_
    refine fz_iload_n kX10_put rfl rfl ?_
    refine fz_lload_n kX10_put rfl rfl ?_
    refine fz_callV (d' := 1) (M' := mX7_set) (As := [fz_i s, fz_i i, fz_l v]) (st := []) kX10_put rfl rfl vX7_set rfl rfl rfl rfl (Nat.le_of_ble_eq_true rfl) (Nat.le_of_ble_eq_true rfl) (by decide) (sX7_set h hI s i v (by omega) (by omega)) (fun H11 r12 q13 o14 => ?_)
    obtain ⟨hI15, hf16, rfl, f17⟩ := q13
    clear o14
    have hf18 := fz_fr_tr hf hf16 (show fz_su [(52, 99999)] [(52, 99999)] = true from rfl)
    refine fz_iconst ⟨by decide, by decide⟩ kX10_put rfl ?_
    exact fz_iret kX10_put rfl rfl (fun _ => ⟨hI15, hf18, _, rfl, (by omega), (by first | exact fz_or5 f8 (fun z => by omega) | exact Or.inl ⟨by omega, rfl⟩ | exact Or.inr (Or.inl ⟨by omega, by omega, by omega, rfl⟩) | exact Or.inr (Or.inr (Or.inl ⟨by omega, by omega, by omega, rfl⟩)) | exact Or.inr (Or.inr (Or.inr (Or.inl ⟨by omega, by omega, by omega, by omega, rfl⟩))) | exact Or.inr (Or.inr (Or.inr (Or.inr ⟨by omega, by omega, by omega, by omega, by omega, rfl⟩))) | omega), (by first | exact Or.inl ⟨by omega, f17⟩ | exact Or.inr ⟨by omega, rfl⟩)⟩)
  · refine fz_iload kX10_put rfl rfl ?_
    exact fz_iret kX10_put rfl rfl (fun _ => ⟨hI, hf, _, rfl, (by omega), (by first | exact fz_or5 f8 (fun z => by omega) | exact Or.inl ⟨by omega, rfl⟩ | exact Or.inr (Or.inl ⟨by omega, by omega, by omega, rfl⟩) | exact Or.inr (Or.inr (Or.inl ⟨by omega, by omega, by omega, rfl⟩)) | exact Or.inr (Or.inr (Or.inr (Or.inl ⟨by omega, by omega, by omega, by omega, rfl⟩))) | exact Or.inr (Or.inr (Or.inr (Or.inr ⟨by omega, by omega, by omega, by omega, by omega, rfl⟩))) | omega), (by first | exact Or.inl ⟨by omega, lost⟩ | exact Or.inr ⟨by omega, rfl⟩)⟩)

abbrev qX10_element (h : fz_H) (s i : Int) : fz_H → Option fz_V → Prop := fun h' r0 => h' = h ∧ ∃ r : Int, r0 = some (fz_l r) ∧ ((-9223372036854775808) ≤ r ∧ r ≤ 9223372036854775807) ∧ (((0 ≤ s ∧ s ≤ 5 ∧ h 48 s.toNat = 2 ∧ 0 ≤ i ∧ i < h 51 s.toNat) ∧ r = h 52 (60 * s + i).toNat) ∨ (¬ (0 ≤ s ∧ s ≤ 5 ∧ h 48 s.toNat = 2 ∧ 0 ≤ i ∧ i < h 51 s.toNat) ∧ r = -9223372036854775808))
set_option maxHeartbeats 1000000 in
set_option maxRecDepth 100000 in
theorem sX10_element (h : fz_H) (hI : fz_Iv h) (s i : Int) : fz_R 3 mX10_element 0 [(0, fz_r 0), (1, fz_i s), (2, fz_i i)] [] h (qX10_element h s i) := by
  refine fz_knowl (fun hk => ?_)
  have hr_s : -2147483648 ≤ s ∧ s < 2147483648 := hk _ (List.Mem.tail _ (List.Mem.head _))
  have hr_i : -2147483648 ≤ i ∧ i < 2147483648 := hk _ (List.Mem.tail _ (List.Mem.tail _ (List.Mem.head _)))
  clear hk
  refine fz_aload_n kX10_element rfl rfl ?_
  refine fz_iload_n kX10_element rfl rfl ?_
  refine fz_iload_n kX10_element rfl rfl ?_
  refine fz_callV (d' := 2) (M' := mX10_refusalOfPlace) (As := [fz_i s, fz_i i]) (st := []) kX10_element rfl rfl vX10_refusalOfPlace rfl rfl rfl rfl (Nat.le_of_ble_eq_true rfl) (Nat.le_of_ble_eq_true rfl) (by decide) (sX10_refusalOfPlace h hI s i ) (fun H1 r2 q3 o4 => ?_)
  obtain ⟨e5, y9, rfl, f6, f7, f8⟩ := q3
  subst H1
  clear o4
  refine fz_if_ge (tgt := 15) kX10_element rfl (by decide) (fun c10 => ?_) (fun c10 => ?_)
  · refine fz_aload_n kX10_element rfl rfl ?_
    refine fz_getR (t := 47) kX10_element rfl rfl ?_
    refine fz_iload_n kX10_element rfl rfl ?_
    refine fz_iload_n kX10_element rfl rfl ?_
    refine fz_callV (d' := 0) (M' := mX7_get) (As := [fz_i s, fz_i i]) (st := []) kX10_element rfl rfl vX7_get rfl rfl rfl rfl (Nat.le_of_ble_eq_true rfl) (Nat.le_of_ble_eq_true rfl) (by decide) (sX7_get h hI s i (by omega) (by omega)) (fun H11 r12 q13 o14 => ?_)
    obtain ⟨e15, y18, rfl, f16, f17⟩ := q13
    subst H11
    clear o14
    exact fz_lret kX10_element rfl rfl (fun _ => ⟨rfl, _, rfl, (by omega), (by omega)⟩)
  · refine fz_ldc2 (x := (-9223372036854775808)) kX10_element rfl rfl rfl ?_
    refine fz_goto (tgt := 24) kX10_element rfl (by decide) ?_
    exact fz_lret kX10_element rfl rfl (fun _ => ⟨rfl, _, rfl, (by omega), (by omega)⟩)

abbrev qX10_shift (h : fz_H) (s i o j n : Int) : fz_H → Option fz_V → Prop := fun h' r0 => fz_Iv h' ∧ fz_fr [(52, 99999)] h h' ∧ ∃ r : Int, r0 = some (fz_i r) ∧ ((-13) ≤ r ∧ r ≤ 60) ∧ ((¬ (0 ≤ s ∧ s ≤ 5 ∧ 0 ≤ o ∧ o ≤ 5) ∧ r = -1) ∨ ((0 ≤ s ∧ s ≤ 5 ∧ 0 ≤ o ∧ o ≤ 5) ∧ (h 48 s.toNat = 0 ∨ h 48 o.toNat = 0) ∧ r = -11) ∨ ((0 ≤ s ∧ s ≤ 5 ∧ 0 ≤ o ∧ o ≤ 5) ∧ ¬ h 48 s.toNat = 0 ∧ ¬ h 48 o.toNat = 0 ∧ ¬ (h 48 s.toNat = 2 ∧ h 48 o.toNat = 2 ∧ h 50 o.toNat = h 50 s.toNat) ∧ r = -12) ∨ ((0 ≤ s ∧ s ≤ 5 ∧ 0 ≤ o ∧ o ≤ 5) ∧ (h 48 s.toNat = 2 ∧ h 48 o.toNat = 2 ∧ h 50 o.toNat = h 50 s.toNat) ∧ ¬ (0 ≤ n ∧ 0 ≤ i ∧ 0 ≤ j ∧ i + n ≤ h 51 s.toNat ∧ j + n ≤ h 51 o.toNat) ∧ r = -13) ∨ ((0 ≤ s ∧ s ≤ 5 ∧ 0 ≤ o ∧ o ≤ 5) ∧ (h 48 s.toNat = 2 ∧ h 48 o.toNat = 2 ∧ h 50 o.toNat = h 50 s.toNat) ∧ (0 ≤ n ∧ 0 ≤ i ∧ 0 ≤ j ∧ i + n ≤ h 51 s.toNat ∧ j + n ≤ h 51 o.toNat) ∧ r = n)) ∧ (fz_sC h h' s i o j n)
set_option maxHeartbeats 1000000 in
set_option maxRecDepth 100000 in
theorem sX10_shift (h : fz_H) (hI : fz_Iv h) (s i o j n : Int) : fz_R 2 mX10_shift 0 [(0, fz_r 0), (1, fz_i s), (2, fz_i i), (3, fz_i o), (4, fz_i j), (5, fz_i n)] [] h (qX10_shift h s i o j n) := by
  refine fz_knowl (fun hk => ?_)
  have hr_s : -2147483648 ≤ s ∧ s < 2147483648 := hk _ (List.Mem.tail _ (List.Mem.head _))
  have hr_i : -2147483648 ≤ i ∧ i < 2147483648 := hk _ (List.Mem.tail _ (List.Mem.tail _ (List.Mem.head _)))
  have hr_o : -2147483648 ≤ o ∧ o < 2147483648 := hk _ (List.Mem.tail _ (List.Mem.tail _ (List.Mem.tail _ (List.Mem.head _))))
  have hr_j : -2147483648 ≤ j ∧ j < 2147483648 := hk _ (List.Mem.tail _ (List.Mem.tail _ (List.Mem.tail _ (List.Mem.tail _ (List.Mem.head _)))))
  have hr_n : -2147483648 ≤ n ∧ n < 2147483648 := hk _ (List.Mem.tail _ (List.Mem.tail _ (List.Mem.tail _ (List.Mem.tail _ (List.Mem.tail _ (List.Mem.head _))))))
  clear hk
  have hf : fz_fr [(52, 99999)] h h := fz_fr_rf
  have hs48_s : 0 ≤ h 48 (s.toNat) ∧ h 48 (s.toNat) ≤ 2 := hI.1 48 _
  have hs51_s : 0 ≤ h 51 (s.toNat) ∧ h 51 (s.toNat) ≤ 60 := hI.1 51 _
  have hs48_o : 0 ≤ h 48 (o.toNat) ∧ h 48 (o.toNat) ≤ 2 := hI.1 48 _
  have hs51_o : 0 ≤ h 51 (o.toNat) ∧ h 51 (o.toNat) ≤ 60 := hI.1 51 _
  refine fz_aload_n kX10_shift rfl rfl ?_
  refine fz_getR (t := 47) kX10_shift rfl rfl ?_
  refine fz_iload_n kX10_shift rfl rfl ?_
  refine fz_callV (d' := 0) (M' := mX7_isShelf) (As := [fz_i s]) (st := []) kX10_shift rfl rfl vX7_isShelf rfl rfl rfl rfl (Nat.le_of_ble_eq_true rfl) (Nat.le_of_ble_eq_true rfl) (by decide) (sX7_isShelf h hI s ) (fun H5 r6 q7 o8 => ?_)
  obtain ⟨e9, y10, rfl, p11⟩ := q7
  subst H5
  clear o8
  rcases p11 with ⟨rfl, c12⟩ | ⟨rfl, c12⟩
  · refine fz_if_eq (tgt := 22) kX10_shift rfl (by decide) (fun c13 => ?_) (fun c13 => ?_)
    · exfalso; omega
    · refine fz_aload_n kX10_shift rfl rfl ?_
      refine fz_getR (t := 47) kX10_shift rfl rfl ?_
      refine fz_iload_n kX10_shift rfl rfl ?_
      refine fz_callV (d' := 0) (M' := mX7_isShelf) (As := [fz_i o]) (st := []) kX10_shift rfl rfl vX7_isShelf rfl rfl rfl rfl (Nat.le_of_ble_eq_true rfl) (Nat.le_of_ble_eq_true rfl) (by decide) (sX7_isShelf h hI o ) (fun H14 r15 q16 o17 => ?_)
      obtain ⟨e18, y19, rfl, p20⟩ := q16
      subst H14
      clear o17
      rcases p20 with ⟨rfl, c21⟩ | ⟨rfl, c21⟩
      · refine fz_if_ne (tgt := 24) kX10_shift rfl (by decide) (fun c22 => ?_) (fun c22 => ?_)
        · refine fz_aload_n kX10_shift rfl rfl ?_
          refine fz_getR (t := 47) kX10_shift rfl rfl ?_
          refine fz_iload_n kX10_shift rfl rfl ?_
          refine fz_callV (d' := 0) (M' := mX7_isEmpty) (As := [fz_i s]) (st := []) kX10_shift rfl rfl vX7_isEmpty rfl rfl rfl rfl (Nat.le_of_ble_eq_true rfl) (Nat.le_of_ble_eq_true rfl) (by decide) (sX7_isEmpty h hI s (by omega)) (fun H23 r24 q25 o26 => ?_)
          obtain ⟨e27, y28, rfl, p29⟩ := q25
          subst H23
          clear o26
          rcases p29 with ⟨rfl, c30⟩ | ⟨rfl, c30⟩
          · refine fz_if_ne (tgt := 46) kX10_shift rfl (by decide) (fun c31 => ?_) (fun c31 => ?_)
            · refine fz_bipush ⟨by decide, by decide⟩ kX10_shift rfl ?_
              exact fz_iret kX10_shift rfl rfl (fun _ => ⟨hI, hf, _, rfl, (by omega), (by first | exact Or.inl ⟨by omega, rfl⟩ | exact Or.inr (Or.inl ⟨by omega, by omega, rfl⟩) | exact Or.inr (Or.inr (Or.inl ⟨by omega, by omega, by omega, by omega, rfl⟩)) | exact Or.inr (Or.inr (Or.inr (Or.inl ⟨by omega, by omega, by omega, rfl⟩))) | exact Or.inr (Or.inr (Or.inr (Or.inr ⟨by omega, by omega, by omega, rfl⟩))) | omega), (by first | exact Or.inl ⟨(by unfold fz_sOK; omega), lost⟩ | exact Or.inr ⟨(by unfold fz_sOK; omega), rfl⟩)⟩)
            · exfalso; omega
          · refine fz_if_ne (tgt := 46) kX10_shift rfl (by decide) (fun c34 => ?_) (fun c34 => ?_)
            · exfalso; omega
            · refine fz_aload_n kX10_shift rfl rfl ?_
              refine fz_getR (t := 47) kX10_shift rfl rfl ?_
              refine fz_iload_n kX10_shift rfl rfl ?_
              refine fz_callV (d' := 0) (M' := mX7_isEmpty) (As := [fz_i o]) (st := []) kX10_shift rfl rfl vX7_isEmpty rfl rfl rfl rfl (Nat.le_of_ble_eq_true rfl) (Nat.le_of_ble_eq_true rfl) (by decide) (sX7_isEmpty h hI o (by omega)) (fun H35 r36 q37 o38 => ?_)
              obtain ⟨e39, y40, rfl, p41⟩ := q37
              subst H35
              clear o38
              rcases p41 with ⟨rfl, c42⟩ | ⟨rfl, c42⟩
              · refine fz_if_eq (tgt := 49) kX10_shift rfl (by decide) (fun c43 => ?_) (fun c43 => ?_)
                · exfalso; omega
                · refine fz_bipush ⟨by decide, by decide⟩ kX10_shift rfl ?_
                  exact fz_iret kX10_shift rfl rfl (fun _ => ⟨hI, hf, _, rfl, (by omega), (by first | exact Or.inl ⟨by omega, rfl⟩ | exact Or.inr (Or.inl ⟨by omega, by omega, rfl⟩) | exact Or.inr (Or.inr (Or.inl ⟨by omega, by omega, by omega, by omega, rfl⟩)) | exact Or.inr (Or.inr (Or.inr (Or.inl ⟨by omega, by omega, by omega, rfl⟩))) | exact Or.inr (Or.inr (Or.inr (Or.inr ⟨by omega, by omega, by omega, rfl⟩))) | omega), (by first | exact Or.inl ⟨(by unfold fz_sOK; omega), lost⟩ | exact Or.inr ⟨(by unfold fz_sOK; omega), rfl⟩)⟩)
              · refine fz_if_eq (tgt := 49) kX10_shift rfl (by decide) (fun c46 => ?_) (fun c46 => ?_)
                · refine fz_aload_n kX10_shift rfl rfl ?_
                  refine fz_getR (t := 47) kX10_shift rfl rfl ?_
                  refine fz_iload_n kX10_shift rfl rfl ?_
                  refine fz_callV (d' := 0) (M' := mX7_isRow) (As := [fz_i s]) (st := []) kX10_shift rfl rfl vX7_isRow rfl rfl rfl rfl (Nat.le_of_ble_eq_true rfl) (Nat.le_of_ble_eq_true rfl) (by decide) (sX7_isRow h hI s (by omega)) (fun H47 r48 q49 o50 => ?_)
                  obtain ⟨e51, y52, rfl, p53⟩ := q49
                  subst H47
                  clear o50
                  rcases p53 with ⟨rfl, c54⟩ | ⟨rfl, c54⟩
                  · refine fz_if_eq (tgt := 80) kX10_shift rfl (by decide) (fun c55 => ?_) (fun c55 => ?_)
                    · exfalso; omega
                    · refine fz_aload_n kX10_shift rfl rfl ?_
                      refine fz_getR (t := 47) kX10_shift rfl rfl ?_
                      refine fz_iload_n kX10_shift rfl rfl ?_
                      refine fz_aload_n kX10_shift rfl rfl ?_
                      refine fz_getR (t := 47) kX10_shift rfl rfl ?_
                      refine fz_getR (t := 50) kX10_shift rfl rfl ?_
                      refine fz_iload_n kX10_shift rfl rfl ?_
                      refine fz_ialdV (n := 6) (v := h 50 (s.toNat)) kX10_shift rfl rfl (by omega) (by omega) rfl ?_
                      have b56 : 0 ≤ h 50 (s.toNat) ∧ h 50 (s.toNat) ≤ 4 := hI.1 50 _
                      refine fz_callV (d' := 1) (M' := mX7_holdsRow) (As := [fz_i o, fz_i (h 50 (s.toNat))]) (st := []) kX10_shift rfl rfl vX7_holdsRow rfl rfl rfl rfl (Nat.le_of_ble_eq_true rfl) (Nat.le_of_ble_eq_true rfl) (by decide) (sX7_holdsRow h hI o (h 50 (s.toNat)) (by omega)) (fun H57 r58 q59 o60 => ?_)
                      obtain ⟨e61, y62, rfl, p63⟩ := q59
                      subst H57
                      clear o60
                      rcases p63 with ⟨rfl, c64⟩ | ⟨rfl, c64⟩
                      · refine fz_if_ne (tgt := 83) kX10_shift rfl (by decide) (fun c65 => ?_) (fun c65 => ?_)
                        · refine fz_aload_n kX10_shift rfl rfl ?_
                          refine fz_getR (t := 47) kX10_shift rfl rfl ?_
                          refine fz_iload_n kX10_shift rfl rfl ?_
                          refine fz_iload_n kX10_shift rfl rfl ?_
                          refine fz_iload kX10_shift rfl rfl ?_
                          refine fz_callV (d' := 1) (M' := mX7_hasPlaces) (As := [fz_i s, fz_i i, fz_i n]) (st := []) kX10_shift rfl rfl vX7_hasPlaces rfl rfl rfl rfl (Nat.le_of_ble_eq_true rfl) (Nat.le_of_ble_eq_true rfl) (by decide) (sX7_hasPlaces h hI s i n (by omega)) (fun H66 r67 q68 o69 => ?_)
                          obtain ⟨e70, y71, rfl, p72⟩ := q68
                          subst H66
                          clear o69
                          rcases p72 with ⟨rfl, c73⟩ | ⟨rfl, c73⟩
                          · refine fz_if_eq (tgt := 112) kX10_shift rfl (by decide) (fun c74 => ?_) (fun c74 => ?_)
                            · exfalso; omega
                            · refine fz_aload_n kX10_shift rfl rfl ?_
                              refine fz_getR (t := 47) kX10_shift rfl rfl ?_
                              refine fz_iload_n kX10_shift rfl rfl ?_
                              refine fz_iload kX10_shift rfl rfl ?_
                              refine fz_iload kX10_shift rfl rfl ?_
                              refine fz_callV (d' := 1) (M' := mX7_hasPlaces) (As := [fz_i o, fz_i j, fz_i n]) (st := []) kX10_shift rfl rfl vX7_hasPlaces rfl rfl rfl rfl (Nat.le_of_ble_eq_true rfl) (Nat.le_of_ble_eq_true rfl) (by decide) (sX7_hasPlaces h hI o j n (by omega)) (fun H75 r76 q77 o78 => ?_)
                              obtain ⟨e79, y80, rfl, p81⟩ := q77
                              subst H75
                              clear o78
                              rcases p81 with ⟨rfl, c82⟩ | ⟨rfl, c82⟩
                              · refine fz_if_ne (tgt := 115) kX10_shift rfl (by decide) (fun c83 => ?_) (fun c83 => ?_)
                                · refine fz_aload_n kX10_shift rfl rfl ?_
                                  refine fz_getR (t := 47) kX10_shift rfl rfl ?_
                                  refine fz_iload_n kX10_shift rfl rfl ?_
                                  refine fz_iload_n kX10_shift rfl rfl ?_
                                  refine fz_iload_n kX10_shift rfl rfl ?_
                                  refine fz_iload kX10_shift rfl rfl ?_
                                  refine fz_iload kX10_shift rfl rfl ?_
                                  refine fz_callV (d' := 1) (M' := mX7_copy) (As := [fz_i s, fz_i i, fz_i o, fz_i j, fz_i n]) (st := []) kX10_shift rfl rfl vX7_copy rfl rfl rfl rfl (Nat.le_of_ble_eq_true rfl) (Nat.le_of_ble_eq_true rfl) (by decide) (sX7_copy h hI s i o j n (by omega) (by omega) (by omega) (by omega) (by omega) (by omega) (by omega)) (fun H84 r85 q86 o87 => ?_)
                                  obtain ⟨hI88, hf89, rfl, f90⟩ := q86
                                  clear o87
                                  have hf91 := fz_fr_tr hf hf89 (show fz_su [(52, 99999)] [(52, 99999)] = true from rfl)
                                  refine fz_iload kX10_shift rfl rfl ?_
                                  exact fz_iret kX10_shift rfl rfl (fun _ => ⟨hI88, hf91, _, rfl, (by omega), (by first | exact Or.inl ⟨by omega, rfl⟩ | exact Or.inr (Or.inl ⟨by omega, by omega, rfl⟩) | exact Or.inr (Or.inr (Or.inl ⟨by omega, by omega, by omega, by omega, rfl⟩)) | exact Or.inr (Or.inr (Or.inr (Or.inl ⟨by omega, by omega, by omega, rfl⟩))) | exact Or.inr (Or.inr (Or.inr (Or.inr ⟨by omega, by omega, by omega, rfl⟩))) | omega), (by first | exact Or.inl ⟨(by unfold fz_sOK; omega), f90⟩ | exact Or.inr ⟨(by unfold fz_sOK; omega), rfl⟩)⟩)
                                · exfalso; omega
                              · refine fz_if_ne (tgt := 115) kX10_shift rfl (by decide) (fun c94 => ?_) (fun c94 => ?_)
                                · exfalso; omega
                                · refine fz_bipush ⟨by decide, by decide⟩ kX10_shift rfl ?_
                                  exact fz_iret kX10_shift rfl rfl (fun _ => ⟨hI, hf, _, rfl, (by omega), (by first | exact Or.inl ⟨by omega, rfl⟩ | exact Or.inr (Or.inl ⟨by omega, by omega, rfl⟩) | exact Or.inr (Or.inr (Or.inl ⟨by omega, by omega, by omega, by omega, rfl⟩)) | exact Or.inr (Or.inr (Or.inr (Or.inl ⟨by omega, by omega, by omega, rfl⟩))) | exact Or.inr (Or.inr (Or.inr (Or.inr ⟨by omega, by omega, by omega, rfl⟩))) | omega), (by first | exact Or.inl ⟨(by unfold fz_sOK; omega), lost⟩ | exact Or.inr ⟨(by unfold fz_sOK; omega), rfl⟩)⟩)
                          · refine fz_if_eq (tgt := 112) kX10_shift rfl (by decide) (fun c97 => ?_) (fun c97 => ?_)
                            · refine fz_bipush ⟨by decide, by decide⟩ kX10_shift rfl ?_
                              exact fz_iret kX10_shift rfl rfl (fun _ => ⟨hI, hf, _, rfl, (by omega), (by first | exact Or.inl ⟨by omega, rfl⟩ | exact Or.inr (Or.inl ⟨by omega, by omega, rfl⟩) | exact Or.inr (Or.inr (Or.inl ⟨by omega, by omega, by omega, by omega, rfl⟩)) | exact Or.inr (Or.inr (Or.inr (Or.inl ⟨by omega, by omega, by omega, rfl⟩))) | exact Or.inr (Or.inr (Or.inr (Or.inr ⟨by omega, by omega, by omega, rfl⟩))) | omega), (by first | exact Or.inl ⟨(by unfold fz_sOK; omega), lost⟩ | exact Or.inr ⟨(by unfold fz_sOK; omega), rfl⟩)⟩)
                            · exfalso; omega
                        · exfalso; omega
                      · refine fz_if_ne (tgt := 83) kX10_shift rfl (by decide) (fun c100 => ?_) (fun c100 => ?_)
                        · exfalso; omega
                        · refine fz_bipush ⟨by decide, by decide⟩ kX10_shift rfl ?_
                          exact fz_iret kX10_shift rfl rfl (fun _ => ⟨hI, hf, _, rfl, (by omega), (by first | exact Or.inl ⟨by omega, rfl⟩ | exact Or.inr (Or.inl ⟨by omega, by omega, rfl⟩) | exact Or.inr (Or.inr (Or.inl ⟨by omega, by omega, by omega, by omega, rfl⟩)) | exact Or.inr (Or.inr (Or.inr (Or.inl ⟨by omega, by omega, by omega, rfl⟩))) | exact Or.inr (Or.inr (Or.inr (Or.inr ⟨by omega, by omega, by omega, rfl⟩))) | omega), (by first | exact Or.inl ⟨(by unfold fz_sOK; omega), lost⟩ | exact Or.inr ⟨(by unfold fz_sOK; omega), rfl⟩)⟩)
                  · refine fz_if_eq (tgt := 80) kX10_shift rfl (by decide) (fun c103 => ?_) (fun c103 => ?_)
                    · refine fz_bipush ⟨by decide, by decide⟩ kX10_shift rfl ?_
                      exact fz_iret kX10_shift rfl rfl (fun _ => ⟨hI, hf, _, rfl, (by omega), (by first | exact Or.inl ⟨by omega, rfl⟩ | exact Or.inr (Or.inl ⟨by omega, by omega, rfl⟩) | exact Or.inr (Or.inr (Or.inl ⟨by omega, by omega, by omega, by omega, rfl⟩)) | exact Or.inr (Or.inr (Or.inr (Or.inl ⟨by omega, by omega, by omega, rfl⟩))) | exact Or.inr (Or.inr (Or.inr (Or.inr ⟨by omega, by omega, by omega, rfl⟩))) | omega), (by first | exact Or.inl ⟨(by unfold fz_sOK; omega), lost⟩ | exact Or.inr ⟨(by unfold fz_sOK; omega), rfl⟩)⟩)
                    · exfalso; omega
                · exfalso; omega
        · exfalso; omega
      · refine fz_if_ne (tgt := 24) kX10_shift rfl (by decide) (fun c106 => ?_) (fun c106 => ?_)
        · exfalso; omega
        · refine fz_iconst ⟨by decide, by decide⟩ kX10_shift rfl ?_
          exact fz_iret kX10_shift rfl rfl (fun _ => ⟨hI, hf, _, rfl, (by omega), (by first | exact Or.inl ⟨by omega, rfl⟩ | exact Or.inr (Or.inl ⟨by omega, by omega, rfl⟩) | exact Or.inr (Or.inr (Or.inl ⟨by omega, by omega, by omega, by omega, rfl⟩)) | exact Or.inr (Or.inr (Or.inr (Or.inl ⟨by omega, by omega, by omega, rfl⟩))) | exact Or.inr (Or.inr (Or.inr (Or.inr ⟨by omega, by omega, by omega, rfl⟩))) | omega), (by first | exact Or.inl ⟨(by unfold fz_sOK; omega), lost⟩ | exact Or.inr ⟨(by unfold fz_sOK; omega), rfl⟩)⟩)
  · refine fz_if_eq (tgt := 22) kX10_shift rfl (by decide) (fun c109 => ?_) (fun c109 => ?_)
    · refine fz_iconst ⟨by decide, by decide⟩ kX10_shift rfl ?_
      exact fz_iret kX10_shift rfl rfl (fun _ => ⟨hI, hf, _, rfl, (by omega), (by first | exact Or.inl ⟨by omega, rfl⟩ | exact Or.inr (Or.inl ⟨by omega, by omega, rfl⟩) | exact Or.inr (Or.inr (Or.inl ⟨by omega, by omega, by omega, by omega, rfl⟩)) | exact Or.inr (Or.inr (Or.inr (Or.inl ⟨by omega, by omega, by omega, rfl⟩))) | exact Or.inr (Or.inr (Or.inr (Or.inr ⟨by omega, by omega, by omega, rfl⟩))) | omega), (by first | exact Or.inl ⟨(by unfold fz_sOK; omega), lost⟩ | exact Or.inr ⟨(by unfold fz_sOK; omega), rfl⟩)⟩)
    · exfalso; omega

abbrev qX10_taken (h : fz_H) (s k : Int) : fz_H → Option fz_V → Prop := fun h' r0 => h' = h ∧ ∃ r : Int, r0 = some (fz_i r) ∧ ((-12) ≤ r ∧ r ≤ 7) ∧ ((¬ (0 ≤ s ∧ s ≤ 5 ∧ 0 ≤ k ∧ k ≤ 7) ∧ r = -1) ∨ ((0 ≤ s ∧ s ≤ 5 ∧ 0 ≤ k ∧ k ≤ 7) ∧ h 48 s.toNat = 0 ∧ r = -11) ∨ ((0 ≤ s ∧ s ≤ 5 ∧ 0 ≤ k ∧ k ≤ 7) ∧ h 48 s.toNat = 2 ∧ r = -12) ∨ ((0 ≤ s ∧ s ≤ 5 ∧ 0 ≤ k ∧ k ≤ 7) ∧ (h 48 s.toNat = 1 ∧ ¬ (0 ≤ h 49 s.toNat ∧ h 49 s.toNat < h 44 2))) ∨ ((0 ≤ s ∧ s ≤ 5 ∧ 0 ≤ k ∧ k ≤ 7) ∧ (h 48 s.toNat = 1 ∧ 0 ≤ h 49 s.toNat ∧ h 49 s.toNat < h 44 2) ∧ r = fz_tk (h 45 (h 49 s.toNat).toNat) k))
set_option maxHeartbeats 1000000 in
set_option maxRecDepth 100000 in
theorem sX10_taken (h : fz_H) (hI : fz_Iv h) (s k : Int) : fz_R 2 mX10_taken 0 [(0, fz_r 0), (1, fz_i s), (2, fz_i k)] [] h (qX10_taken h s k) := by
  refine fz_knowl (fun hk => ?_)
  have hr_s : -2147483648 ≤ s ∧ s < 2147483648 := hk _ (List.Mem.tail _ (List.Mem.head _))
  have hr_k : -2147483648 ≤ k ∧ k < 2147483648 := hk _ (List.Mem.tail _ (List.Mem.tail _ (List.Mem.head _)))
  clear hk
  have b1 : 0 ≤ h 44 2 ∧ h 44 2 ≤ 50 := hI.1 44 _
  have hs45 : 0 ≤ h 45 (h 49 s.toNat).toNat ∧ h 45 (h 49 s.toNat).toNat ≤ 7 := hI.1 45 _
  have hs49 : (-2147483648) ≤ h 49 (s.toNat) ∧ h 49 (s.toNat) ≤ 2147483647 := hI.1 49 _
  have hs48_s : 0 ≤ h 48 (s.toNat) ∧ h 48 (s.toNat) ≤ 2 := hI.1 48 _
  have hs51_s : 0 ≤ h 51 (s.toNat) ∧ h 51 (s.toNat) ≤ 60 := hI.1 51 _
  refine fz_aload_n kX10_taken rfl rfl ?_
  refine fz_getR (t := 47) kX10_taken rfl rfl ?_
  refine fz_iload_n kX10_taken rfl rfl ?_
  refine fz_callV (d' := 0) (M' := mX7_isShelf) (As := [fz_i s]) (st := []) kX10_taken rfl rfl vX7_isShelf rfl rfl rfl rfl (Nat.le_of_ble_eq_true rfl) (Nat.le_of_ble_eq_true rfl) (by decide) (sX7_isShelf h hI s ) (fun H6 r7 q8 o9 => ?_)
  obtain ⟨e10, y11, rfl, p12⟩ := q8
  subst H6
  clear o9
  rcases p12 with ⟨rfl, c13⟩ | ⟨rfl, c13⟩
  · refine fz_if_eq (tgt := 22) kX10_taken rfl (by decide) (fun c14 => ?_) (fun c14 => ?_)
    · exfalso; omega
    · refine fz_aload_n kX10_taken rfl rfl ?_
      refine fz_getR (t := 44) kX10_taken rfl rfl ?_
      refine fz_iload_n kX10_taken rfl rfl ?_
      refine fz_callV (d' := 0) (M' := mX9_isKind) (As := [fz_i k]) (st := []) kX10_taken rfl rfl vX9_isKind rfl rfl rfl rfl (Nat.le_of_ble_eq_true rfl) (Nat.le_of_ble_eq_true rfl) (by decide) (sX9_isKind h hI k ) (fun H15 r16 q17 o18 => ?_)
      obtain ⟨e19, y20, rfl, p21⟩ := q17
      subst H15
      clear o18
      rcases p21 with ⟨rfl, c22⟩ | ⟨rfl, c22⟩
      · refine fz_if_ne (tgt := 24) kX10_taken rfl (by decide) (fun c23 => ?_) (fun c23 => ?_)
        · refine fz_aload_n kX10_taken rfl rfl ?_
          refine fz_getR (t := 47) kX10_taken rfl rfl ?_
          refine fz_iload_n kX10_taken rfl rfl ?_
          refine fz_callV (d' := 0) (M' := mX7_isEmpty) (As := [fz_i s]) (st := []) kX10_taken rfl rfl vX7_isEmpty rfl rfl rfl rfl (Nat.le_of_ble_eq_true rfl) (Nat.le_of_ble_eq_true rfl) (by decide) (sX7_isEmpty h hI s (by omega)) (fun H24 r25 q26 o27 => ?_)
          obtain ⟨e28, y29, rfl, p30⟩ := q26
          subst H24
          clear o27
          rcases p30 with ⟨rfl, c31⟩ | ⟨rfl, c31⟩
          · refine fz_if_eq (tgt := 38) kX10_taken rfl (by decide) (fun c32 => ?_) (fun c32 => ?_)
            · exfalso; omega
            · refine fz_bipush ⟨by decide, by decide⟩ kX10_taken rfl ?_
              exact fz_iret kX10_taken rfl rfl (fun _ => ⟨rfl, _, rfl, (by omega), (by first | exact fz_tkp_m lost lost rfl hs45.1 | exact fz_tkp_m lost lost lost hs45.1 | exact fz_tkp_y lost lost lost (by decide) (fz_un_ylost c31) | exact fz_tkp_n lost lost lost (by decide) (fz_un_nlost c31) | exact absurd (c31.1.symm.trans c31.2) (by decide) | exact Or.inl ⟨by omega, rfl⟩ | exact Or.inr (Or.inl ⟨by omega, by omega, rfl⟩))⟩)
          · refine fz_if_eq (tgt := 38) kX10_taken rfl (by decide) (fun c34 => ?_) (fun c34 => ?_)
            · refine fz_aload_n kX10_taken rfl rfl ?_
              refine fz_getR (t := 47) kX10_taken rfl rfl ?_
              refine fz_iload_n kX10_taken rfl rfl ?_
              refine fz_callV (d' := 0) (M' := mX7_isRow) (As := [fz_i s]) (st := []) kX10_taken rfl rfl vX7_isRow rfl rfl rfl rfl (Nat.le_of_ble_eq_true rfl) (Nat.le_of_ble_eq_true rfl) (by decide) (sX7_isRow h hI s (by omega)) (fun H35 r36 q37 o38 => ?_)
              obtain ⟨e39, y40, rfl, p41⟩ := q37
              subst H35
              clear o38
              rcases p41 with ⟨rfl, c42⟩ | ⟨rfl, c42⟩
              · refine fz_if_eq (tgt := 54) kX10_taken rfl (by decide) (fun c43 => ?_) (fun c43 => ?_)
                · exfalso; omega
                · refine fz_bipush ⟨by decide, by decide⟩ kX10_taken rfl ?_
                  refine fz_goto (tgt := 70) kX10_taken rfl (by decide) ?_
                  refine fz_istore_n (ls' := [(3, fz_i (-2)), (0, fz_r 0), (1, fz_i s), (2, fz_i k)]) kX10_taken rfl (by decide) rfl ?_
                  refine fz_aload_n kX10_taken rfl rfl ?_
                  refine fz_getR (t := 44) kX10_taken rfl rfl ?_
                  have k44 : 0 ≤ s ∧ s ≤ 5 ∧ 0 ≤ k ∧ k ≤ 7 := by omega
                  have k46 : (h 48 s.toNat = 2 ∧ (-2) = -2) ∨ ((h 48 s.toNat = 1 ∧ 0 ≤ h 49 s.toNat ∧ h 49 s.toNat < h 44 2) ∧ (-2) = h 45 (h 49 s.toNat).toNat) ∨ ((h 48 s.toNat = 1 ∧ ¬ (0 ≤ h 49 s.toNat ∧ h 49 s.toNat < h 44 2)) ∧ (-2) = -2) := by omega
                  refine fz_iload_n kX10_taken rfl rfl ?_
                  refine fz_iload_n kX10_taken rfl rfl ?_
                  refine fz_callV (d' := 1) (M' := mX9_isUnder) (As := [fz_i (-2), fz_i k]) (st := []) kX10_taken rfl rfl vX9_isUnder rfl rfl rfl rfl (Nat.le_of_ble_eq_true rfl) (Nat.le_of_ble_eq_true rfl) (by decide) (sX9_isUnder_n h hI k ) (fun H48 r49 q50 o51 => ?_)
                  obtain ⟨e52, y53, rfl, p54⟩ := q50
                  subst H48
                  clear o51
                  rcases p54 with ⟨rfl, c55⟩ | ⟨rfl, c55⟩
                  · refine fz_if_eq (tgt := 87) kX10_taken rfl (by decide) (fun c56 => ?_) (fun c56 => ?_)
                    · exfalso; omega
                    · refine fz_iload_n kX10_taken rfl rfl ?_
                      refine fz_goto (tgt := 89) kX10_taken rfl (by decide) ?_
                      exact fz_iret kX10_taken rfl rfl (fun _ => ⟨rfl, _, rfl, (by omega), (by first | exact fz_tkp_m k44 k46 rfl hs45.1 | exact fz_tkp_m k44 k46 lost hs45.1 | exact fz_tkp_y k44 k46 lost (by decide) (fz_un_ylost c55) | exact fz_tkp_n k44 k46 lost (by decide) (fz_un_nlost c55) | exact absurd (c55.1.symm.trans c55.2) (by decide) | exact Or.inl ⟨by omega, rfl⟩ | exact Or.inr (Or.inl ⟨by omega, by omega, rfl⟩))⟩)
                  · refine fz_if_eq (tgt := 87) kX10_taken rfl (by decide) (fun c58 => ?_) (fun c58 => ?_)
                    · refine fz_bipush ⟨by decide, by decide⟩ kX10_taken rfl ?_
                      exact fz_iret kX10_taken rfl rfl (fun _ => ⟨rfl, _, rfl, (by omega), (by first | exact fz_tkp_m k44 k46 rfl hs45.1 | exact fz_tkp_m k44 k46 lost hs45.1 | exact fz_tkp_y k44 k46 lost (by decide) (fz_un_ylost c55) | exact fz_tkp_n k44 k46 lost (by decide) (fz_un_nlost c55) | exact absurd (c55.1.symm.trans c55.2) (by decide) | exact Or.inl ⟨by omega, rfl⟩ | exact Or.inr (Or.inl ⟨by omega, by omega, rfl⟩))⟩)
                    · exfalso; omega
              · refine fz_if_eq (tgt := 54) kX10_taken rfl (by decide) (fun c60 => ?_) (fun c60 => ?_)
                · refine fz_aload_n kX10_taken rfl rfl ?_
                  refine fz_getR (t := 44) kX10_taken rfl rfl ?_
                  refine fz_aload_n kX10_taken rfl rfl ?_
                  refine fz_getR (t := 47) kX10_taken rfl rfl ?_
                  refine fz_getR (t := 49) kX10_taken rfl rfl ?_
                  refine fz_iload_n kX10_taken rfl rfl ?_
                  refine fz_ialdV (n := 6) (v := h 49 (s.toNat)) kX10_taken rfl rfl (by omega) (by omega) rfl ?_
                  have b61 : (-2147483648) ≤ h 49 (s.toNat) ∧ h 49 (s.toNat) ≤ 2147483647 := hI.1 49 _
                  refine fz_callV (d' := 1) (M' := mX9_kindOf) (As := [fz_i (h 49 (s.toNat))]) (st := []) kX10_taken rfl rfl vX9_kindOf rfl rfl rfl rfl (Nat.le_of_ble_eq_true rfl) (Nat.le_of_ble_eq_true rfl) (by decide) (sX9_kindOf h hI (h 49 (s.toNat)) ) (fun H62 r63 q64 o65 => ?_)
                  obtain ⟨e66, y69, rfl, f67, f68⟩ := q64
                  subst H62
                  clear o65
                  refine fz_istore_n (ls' := [(3, fz_i y69), (0, fz_r 0), (1, fz_i s), (2, fz_i k)]) kX10_taken rfl (by decide) rfl ?_
                  refine fz_aload_n kX10_taken rfl rfl ?_
                  refine fz_getR (t := 44) kX10_taken rfl rfl ?_
                  have k70 : 0 ≤ s ∧ s ≤ 5 ∧ 0 ≤ k ∧ k ≤ 7 := by omega
                  have k72 : (h 48 s.toNat = 2 ∧ y69 = -2) ∨ ((h 48 s.toNat = 1 ∧ 0 ≤ h 49 s.toNat ∧ h 49 s.toNat < h 44 2) ∧ y69 = h 45 (h 49 s.toNat).toNat) ∨ ((h 48 s.toNat = 1 ∧ ¬ (0 ≤ h 49 s.toNat ∧ h 49 s.toNat < h 44 2)) ∧ y69 = -2) := by omega
                  refine fz_iload_n kX10_taken rfl rfl ?_
                  rcases (show y69 = (-2) ∨ y69 = 0 ∨ y69 = 1 ∨ y69 = 2 ∨ y69 = 3 ∨ y69 = 4 ∨ y69 = 5 ∨ y69 = 6 ∨ y69 = 7 by omega) with c74 | c74 | c74 | c74 | c74 | c74 | c74 | c74 | c74
                  · refine fz_eqi c74 ?_
                    refine fz_iload_n kX10_taken rfl rfl ?_
                    refine fz_callV (d' := 1) (M' := mX9_isUnder) (As := [fz_i (-2), fz_i k]) (st := []) kX10_taken rfl rfl vX9_isUnder rfl rfl rfl rfl (Nat.le_of_ble_eq_true rfl) (Nat.le_of_ble_eq_true rfl) (by decide) (sX9_isUnder_n h hI k ) (fun H75 r76 q77 o78 => ?_)
                    obtain ⟨e79, y80, rfl, p81⟩ := q77
                    subst H75
                    clear o78
                    rcases p81 with ⟨rfl, c82⟩ | ⟨rfl, c82⟩
                    · refine fz_if_eq (tgt := 87) kX10_taken rfl (by decide) (fun c83 => ?_) (fun c83 => ?_)
                      · exfalso; omega
                      · refine fz_iload_n kX10_taken rfl rfl ?_
                        refine fz_goto (tgt := 89) kX10_taken rfl (by decide) ?_
                        exact fz_iret kX10_taken rfl rfl (fun _ => ⟨rfl, _, rfl, (by omega), (by first | exact fz_tkp_m k70 k72 rfl hs45.1 | exact fz_tkp_m k70 k72 c74 hs45.1 | exact fz_tkp_y k70 k72 c74 (by decide) (fz_un_ym2 c82) | exact fz_tkp_n k70 k72 c74 (by decide) (fz_un_nm2 c82) | exact absurd (c82.1.symm.trans c82.2) (by decide) | exact Or.inl ⟨by omega, rfl⟩ | exact Or.inr (Or.inl ⟨by omega, by omega, rfl⟩))⟩)
                    · refine fz_if_eq (tgt := 87) kX10_taken rfl (by decide) (fun c85 => ?_) (fun c85 => ?_)
                      · refine fz_bipush ⟨by decide, by decide⟩ kX10_taken rfl ?_
                        exact fz_iret kX10_taken rfl rfl (fun _ => ⟨rfl, _, rfl, (by omega), (by first | exact fz_tkp_m k70 k72 rfl hs45.1 | exact fz_tkp_m k70 k72 c74 hs45.1 | exact fz_tkp_y k70 k72 c74 (by decide) (fz_un_ym2 c82) | exact fz_tkp_n k70 k72 c74 (by decide) (fz_un_nm2 c82) | exact absurd (c82.1.symm.trans c82.2) (by decide) | exact Or.inl ⟨by omega, rfl⟩ | exact Or.inr (Or.inl ⟨by omega, by omega, rfl⟩))⟩)
                      · exfalso; omega
                  · refine fz_eqi c74 ?_
                    refine fz_iload_n kX10_taken rfl rfl ?_
                    refine fz_callV (d' := 1) (M' := mX9_isUnder) (As := [fz_i 0, fz_i k]) (st := []) kX10_taken rfl rfl vX9_isUnder rfl rfl rfl rfl (Nat.le_of_ble_eq_true rfl) (Nat.le_of_ble_eq_true rfl) (by decide) (sX9_isUnder_0 h hI k ) (fun H87 r88 q89 o90 => ?_)
                    obtain ⟨e91, y92, rfl, p93⟩ := q89
                    subst H87
                    clear o90
                    rcases p93 with ⟨rfl, c94⟩ | ⟨rfl, c94⟩
                    · refine fz_if_eq (tgt := 87) kX10_taken rfl (by decide) (fun c95 => ?_) (fun c95 => ?_)
                      · exfalso; omega
                      · refine fz_iload_n kX10_taken rfl rfl ?_
                        refine fz_goto (tgt := 89) kX10_taken rfl (by decide) ?_
                        exact fz_iret kX10_taken rfl rfl (fun _ => ⟨rfl, _, rfl, (by omega), (by first | exact fz_tkp_m k70 k72 rfl hs45.1 | exact fz_tkp_m k70 k72 c74 hs45.1 | exact fz_tkp_y k70 k72 c74 (by decide) (fz_un_y0 c94) | exact fz_tkp_n k70 k72 c74 (by decide) (fz_un_n0 c94) | exact absurd (c94.1.symm.trans c94.2) (by decide) | exact Or.inl ⟨by omega, rfl⟩ | exact Or.inr (Or.inl ⟨by omega, by omega, rfl⟩))⟩)
                    · refine fz_if_eq (tgt := 87) kX10_taken rfl (by decide) (fun c97 => ?_) (fun c97 => ?_)
                      · refine fz_bipush ⟨by decide, by decide⟩ kX10_taken rfl ?_
                        exact fz_iret kX10_taken rfl rfl (fun _ => ⟨rfl, _, rfl, (by omega), (by first | exact fz_tkp_m k70 k72 rfl hs45.1 | exact fz_tkp_m k70 k72 c74 hs45.1 | exact fz_tkp_y k70 k72 c74 (by decide) (fz_un_y0 c94) | exact fz_tkp_n k70 k72 c74 (by decide) (fz_un_n0 c94) | exact absurd (c94.1.symm.trans c94.2) (by decide) | exact Or.inl ⟨by omega, rfl⟩ | exact Or.inr (Or.inl ⟨by omega, by omega, rfl⟩))⟩)
                      · exfalso; omega
                  · refine fz_eqi c74 ?_
                    refine fz_iload_n kX10_taken rfl rfl ?_
                    refine fz_callV (d' := 1) (M' := mX9_isUnder) (As := [fz_i 1, fz_i k]) (st := []) kX10_taken rfl rfl vX9_isUnder rfl rfl rfl rfl (Nat.le_of_ble_eq_true rfl) (Nat.le_of_ble_eq_true rfl) (by decide) (sX9_isUnder_1 h hI k ) (fun H99 r100 q101 o102 => ?_)
                    obtain ⟨e103, y104, rfl, p105⟩ := q101
                    subst H99
                    clear o102
                    rcases p105 with ⟨rfl, c106⟩ | ⟨rfl, c106⟩
                    · refine fz_if_eq (tgt := 87) kX10_taken rfl (by decide) (fun c107 => ?_) (fun c107 => ?_)
                      · exfalso; omega
                      · refine fz_iload_n kX10_taken rfl rfl ?_
                        refine fz_goto (tgt := 89) kX10_taken rfl (by decide) ?_
                        exact fz_iret kX10_taken rfl rfl (fun _ => ⟨rfl, _, rfl, (by omega), (by first | exact fz_tkp_m k70 k72 rfl hs45.1 | exact fz_tkp_m k70 k72 c74 hs45.1 | exact fz_tkp_y k70 k72 c74 (by decide) (fz_un_y1 c106) | exact fz_tkp_n k70 k72 c74 (by decide) (fz_un_n1 c106) | exact absurd (c106.1.symm.trans c106.2) (by decide) | exact Or.inl ⟨by omega, rfl⟩ | exact Or.inr (Or.inl ⟨by omega, by omega, rfl⟩))⟩)
                    · refine fz_if_eq (tgt := 87) kX10_taken rfl (by decide) (fun c109 => ?_) (fun c109 => ?_)
                      · refine fz_bipush ⟨by decide, by decide⟩ kX10_taken rfl ?_
                        exact fz_iret kX10_taken rfl rfl (fun _ => ⟨rfl, _, rfl, (by omega), (by first | exact fz_tkp_m k70 k72 rfl hs45.1 | exact fz_tkp_m k70 k72 c74 hs45.1 | exact fz_tkp_y k70 k72 c74 (by decide) (fz_un_y1 c106) | exact fz_tkp_n k70 k72 c74 (by decide) (fz_un_n1 c106) | exact absurd (c106.1.symm.trans c106.2) (by decide) | exact Or.inl ⟨by omega, rfl⟩ | exact Or.inr (Or.inl ⟨by omega, by omega, rfl⟩))⟩)
                      · exfalso; omega
                  · refine fz_eqi c74 ?_
                    refine fz_iload_n kX10_taken rfl rfl ?_
                    refine fz_callV (d' := 1) (M' := mX9_isUnder) (As := [fz_i 2, fz_i k]) (st := []) kX10_taken rfl rfl vX9_isUnder rfl rfl rfl rfl (Nat.le_of_ble_eq_true rfl) (Nat.le_of_ble_eq_true rfl) (by decide) (sX9_isUnder_2 h hI k ) (fun H111 r112 q113 o114 => ?_)
                    obtain ⟨e115, y116, rfl, p117⟩ := q113
                    subst H111
                    clear o114
                    rcases p117 with ⟨rfl, c118⟩ | ⟨rfl, c118⟩
                    · refine fz_if_eq (tgt := 87) kX10_taken rfl (by decide) (fun c119 => ?_) (fun c119 => ?_)
                      · exfalso; omega
                      · refine fz_iload_n kX10_taken rfl rfl ?_
                        refine fz_goto (tgt := 89) kX10_taken rfl (by decide) ?_
                        exact fz_iret kX10_taken rfl rfl (fun _ => ⟨rfl, _, rfl, (by omega), (by first | exact fz_tkp_m k70 k72 rfl hs45.1 | exact fz_tkp_m k70 k72 c74 hs45.1 | exact fz_tkp_y k70 k72 c74 (by decide) (fz_un_y2 c118) | exact fz_tkp_n k70 k72 c74 (by decide) (fz_un_n2 c118) | exact absurd (c118.1.symm.trans c118.2) (by decide) | exact Or.inl ⟨by omega, rfl⟩ | exact Or.inr (Or.inl ⟨by omega, by omega, rfl⟩))⟩)
                    · refine fz_if_eq (tgt := 87) kX10_taken rfl (by decide) (fun c121 => ?_) (fun c121 => ?_)
                      · refine fz_bipush ⟨by decide, by decide⟩ kX10_taken rfl ?_
                        exact fz_iret kX10_taken rfl rfl (fun _ => ⟨rfl, _, rfl, (by omega), (by first | exact fz_tkp_m k70 k72 rfl hs45.1 | exact fz_tkp_m k70 k72 c74 hs45.1 | exact fz_tkp_y k70 k72 c74 (by decide) (fz_un_y2 c118) | exact fz_tkp_n k70 k72 c74 (by decide) (fz_un_n2 c118) | exact absurd (c118.1.symm.trans c118.2) (by decide) | exact Or.inl ⟨by omega, rfl⟩ | exact Or.inr (Or.inl ⟨by omega, by omega, rfl⟩))⟩)
                      · exfalso; omega
                  · refine fz_eqi c74 ?_
                    refine fz_iload_n kX10_taken rfl rfl ?_
                    refine fz_callV (d' := 1) (M' := mX9_isUnder) (As := [fz_i 3, fz_i k]) (st := []) kX10_taken rfl rfl vX9_isUnder rfl rfl rfl rfl (Nat.le_of_ble_eq_true rfl) (Nat.le_of_ble_eq_true rfl) (by decide) (sX9_isUnder_3 h hI k ) (fun H123 r124 q125 o126 => ?_)
                    obtain ⟨e127, y128, rfl, p129⟩ := q125
                    subst H123
                    clear o126
                    rcases p129 with ⟨rfl, c130⟩ | ⟨rfl, c130⟩
                    · refine fz_if_eq (tgt := 87) kX10_taken rfl (by decide) (fun c131 => ?_) (fun c131 => ?_)
                      · exfalso; omega
                      · refine fz_iload_n kX10_taken rfl rfl ?_
                        refine fz_goto (tgt := 89) kX10_taken rfl (by decide) ?_
                        exact fz_iret kX10_taken rfl rfl (fun _ => ⟨rfl, _, rfl, (by omega), (by first | exact fz_tkp_m k70 k72 rfl hs45.1 | exact fz_tkp_m k70 k72 c74 hs45.1 | exact fz_tkp_y k70 k72 c74 (by decide) (fz_un_y3 c130) | exact fz_tkp_n k70 k72 c74 (by decide) (fz_un_n3 c130) | exact absurd (c130.1.symm.trans c130.2) (by decide) | exact Or.inl ⟨by omega, rfl⟩ | exact Or.inr (Or.inl ⟨by omega, by omega, rfl⟩))⟩)
                    · refine fz_if_eq (tgt := 87) kX10_taken rfl (by decide) (fun c133 => ?_) (fun c133 => ?_)
                      · refine fz_bipush ⟨by decide, by decide⟩ kX10_taken rfl ?_
                        exact fz_iret kX10_taken rfl rfl (fun _ => ⟨rfl, _, rfl, (by omega), (by first | exact fz_tkp_m k70 k72 rfl hs45.1 | exact fz_tkp_m k70 k72 c74 hs45.1 | exact fz_tkp_y k70 k72 c74 (by decide) (fz_un_y3 c130) | exact fz_tkp_n k70 k72 c74 (by decide) (fz_un_n3 c130) | exact absurd (c130.1.symm.trans c130.2) (by decide) | exact Or.inl ⟨by omega, rfl⟩ | exact Or.inr (Or.inl ⟨by omega, by omega, rfl⟩))⟩)
                      · exfalso; omega
                  · refine fz_eqi c74 ?_
                    refine fz_iload_n kX10_taken rfl rfl ?_
                    refine fz_callV (d' := 1) (M' := mX9_isUnder) (As := [fz_i 4, fz_i k]) (st := []) kX10_taken rfl rfl vX9_isUnder rfl rfl rfl rfl (Nat.le_of_ble_eq_true rfl) (Nat.le_of_ble_eq_true rfl) (by decide) (sX9_isUnder_4 h hI k ) (fun H135 r136 q137 o138 => ?_)
                    obtain ⟨e139, y140, rfl, p141⟩ := q137
                    subst H135
                    clear o138
                    rcases p141 with ⟨rfl, c142⟩ | ⟨rfl, c142⟩
                    · refine fz_if_eq (tgt := 87) kX10_taken rfl (by decide) (fun c143 => ?_) (fun c143 => ?_)
                      · exfalso; omega
                      · refine fz_iload_n kX10_taken rfl rfl ?_
                        refine fz_goto (tgt := 89) kX10_taken rfl (by decide) ?_
                        exact fz_iret kX10_taken rfl rfl (fun _ => ⟨rfl, _, rfl, (by omega), (by first | exact fz_tkp_m k70 k72 rfl hs45.1 | exact fz_tkp_m k70 k72 c74 hs45.1 | exact fz_tkp_y k70 k72 c74 (by decide) (fz_un_y4 c142) | exact fz_tkp_n k70 k72 c74 (by decide) (fz_un_n4 c142) | exact absurd (c142.1.symm.trans c142.2) (by decide) | exact Or.inl ⟨by omega, rfl⟩ | exact Or.inr (Or.inl ⟨by omega, by omega, rfl⟩))⟩)
                    · refine fz_if_eq (tgt := 87) kX10_taken rfl (by decide) (fun c145 => ?_) (fun c145 => ?_)
                      · refine fz_bipush ⟨by decide, by decide⟩ kX10_taken rfl ?_
                        exact fz_iret kX10_taken rfl rfl (fun _ => ⟨rfl, _, rfl, (by omega), (by first | exact fz_tkp_m k70 k72 rfl hs45.1 | exact fz_tkp_m k70 k72 c74 hs45.1 | exact fz_tkp_y k70 k72 c74 (by decide) (fz_un_y4 c142) | exact fz_tkp_n k70 k72 c74 (by decide) (fz_un_n4 c142) | exact absurd (c142.1.symm.trans c142.2) (by decide) | exact Or.inl ⟨by omega, rfl⟩ | exact Or.inr (Or.inl ⟨by omega, by omega, rfl⟩))⟩)
                      · exfalso; omega
                  · refine fz_eqi c74 ?_
                    refine fz_iload_n kX10_taken rfl rfl ?_
                    refine fz_callV (d' := 1) (M' := mX9_isUnder) (As := [fz_i 5, fz_i k]) (st := []) kX10_taken rfl rfl vX9_isUnder rfl rfl rfl rfl (Nat.le_of_ble_eq_true rfl) (Nat.le_of_ble_eq_true rfl) (by decide) (sX9_isUnder_5 h hI k ) (fun H147 r148 q149 o150 => ?_)
                    obtain ⟨e151, y152, rfl, p153⟩ := q149
                    subst H147
                    clear o150
                    rcases p153 with ⟨rfl, c154⟩ | ⟨rfl, c154⟩
                    · refine fz_if_eq (tgt := 87) kX10_taken rfl (by decide) (fun c155 => ?_) (fun c155 => ?_)
                      · exfalso; omega
                      · refine fz_iload_n kX10_taken rfl rfl ?_
                        refine fz_goto (tgt := 89) kX10_taken rfl (by decide) ?_
                        exact fz_iret kX10_taken rfl rfl (fun _ => ⟨rfl, _, rfl, (by omega), (by first | exact fz_tkp_m k70 k72 rfl hs45.1 | exact fz_tkp_m k70 k72 c74 hs45.1 | exact fz_tkp_y k70 k72 c74 (by decide) (fz_un_y5 c154) | exact fz_tkp_n k70 k72 c74 (by decide) (fz_un_n5 c154) | exact absurd (c154.1.symm.trans c154.2) (by decide) | exact Or.inl ⟨by omega, rfl⟩ | exact Or.inr (Or.inl ⟨by omega, by omega, rfl⟩))⟩)
                    · refine fz_if_eq (tgt := 87) kX10_taken rfl (by decide) (fun c157 => ?_) (fun c157 => ?_)
                      · refine fz_bipush ⟨by decide, by decide⟩ kX10_taken rfl ?_
                        exact fz_iret kX10_taken rfl rfl (fun _ => ⟨rfl, _, rfl, (by omega), (by first | exact fz_tkp_m k70 k72 rfl hs45.1 | exact fz_tkp_m k70 k72 c74 hs45.1 | exact fz_tkp_y k70 k72 c74 (by decide) (fz_un_y5 c154) | exact fz_tkp_n k70 k72 c74 (by decide) (fz_un_n5 c154) | exact absurd (c154.1.symm.trans c154.2) (by decide) | exact Or.inl ⟨by omega, rfl⟩ | exact Or.inr (Or.inl ⟨by omega, by omega, rfl⟩))⟩)
                      · exfalso; omega
                  · refine fz_eqi c74 ?_
                    refine fz_iload_n kX10_taken rfl rfl ?_
                    refine fz_callV (d' := 1) (M' := mX9_isUnder) (As := [fz_i 6, fz_i k]) (st := []) kX10_taken rfl rfl vX9_isUnder rfl rfl rfl rfl (Nat.le_of_ble_eq_true rfl) (Nat.le_of_ble_eq_true rfl) (by decide) (sX9_isUnder_6 h hI k ) (fun H159 r160 q161 o162 => ?_)
                    obtain ⟨e163, y164, rfl, p165⟩ := q161
                    subst H159
                    clear o162
                    rcases p165 with ⟨rfl, c166⟩ | ⟨rfl, c166⟩
                    · refine fz_if_eq (tgt := 87) kX10_taken rfl (by decide) (fun c167 => ?_) (fun c167 => ?_)
                      · exfalso; omega
                      · refine fz_iload_n kX10_taken rfl rfl ?_
                        refine fz_goto (tgt := 89) kX10_taken rfl (by decide) ?_
                        exact fz_iret kX10_taken rfl rfl (fun _ => ⟨rfl, _, rfl, (by omega), (by first | exact fz_tkp_m k70 k72 rfl hs45.1 | exact fz_tkp_m k70 k72 c74 hs45.1 | exact fz_tkp_y k70 k72 c74 (by decide) (fz_un_y6 c166) | exact fz_tkp_n k70 k72 c74 (by decide) (fz_un_n6 c166) | exact absurd (c166.1.symm.trans c166.2) (by decide) | exact Or.inl ⟨by omega, rfl⟩ | exact Or.inr (Or.inl ⟨by omega, by omega, rfl⟩))⟩)
                    · refine fz_if_eq (tgt := 87) kX10_taken rfl (by decide) (fun c169 => ?_) (fun c169 => ?_)
                      · refine fz_bipush ⟨by decide, by decide⟩ kX10_taken rfl ?_
                        exact fz_iret kX10_taken rfl rfl (fun _ => ⟨rfl, _, rfl, (by omega), (by first | exact fz_tkp_m k70 k72 rfl hs45.1 | exact fz_tkp_m k70 k72 c74 hs45.1 | exact fz_tkp_y k70 k72 c74 (by decide) (fz_un_y6 c166) | exact fz_tkp_n k70 k72 c74 (by decide) (fz_un_n6 c166) | exact absurd (c166.1.symm.trans c166.2) (by decide) | exact Or.inl ⟨by omega, rfl⟩ | exact Or.inr (Or.inl ⟨by omega, by omega, rfl⟩))⟩)
                      · exfalso; omega
                  · refine fz_eqi c74 ?_
                    refine fz_iload_n kX10_taken rfl rfl ?_
                    refine fz_callV (d' := 1) (M' := mX9_isUnder) (As := [fz_i 7, fz_i k]) (st := []) kX10_taken rfl rfl vX9_isUnder rfl rfl rfl rfl (Nat.le_of_ble_eq_true rfl) (Nat.le_of_ble_eq_true rfl) (by decide) (sX9_isUnder_7 h hI k ) (fun H171 r172 q173 o174 => ?_)
                    obtain ⟨e175, y176, rfl, p177⟩ := q173
                    subst H171
                    clear o174
                    rcases p177 with ⟨rfl, c178⟩ | ⟨rfl, c178⟩
                    · refine fz_if_eq (tgt := 87) kX10_taken rfl (by decide) (fun c179 => ?_) (fun c179 => ?_)
                      · exfalso; omega
                      · refine fz_iload_n kX10_taken rfl rfl ?_
                        refine fz_goto (tgt := 89) kX10_taken rfl (by decide) ?_
                        exact fz_iret kX10_taken rfl rfl (fun _ => ⟨rfl, _, rfl, (by omega), (by first | exact fz_tkp_m k70 k72 rfl hs45.1 | exact fz_tkp_m k70 k72 c74 hs45.1 | exact fz_tkp_y k70 k72 c74 (by decide) (fz_un_y7 c178) | exact fz_tkp_n k70 k72 c74 (by decide) (fz_un_n7 c178) | exact absurd (c178.1.symm.trans c178.2) (by decide) | exact Or.inl ⟨by omega, rfl⟩ | exact Or.inr (Or.inl ⟨by omega, by omega, rfl⟩))⟩)
                    · refine fz_if_eq (tgt := 87) kX10_taken rfl (by decide) (fun c181 => ?_) (fun c181 => ?_)
                      · refine fz_bipush ⟨by decide, by decide⟩ kX10_taken rfl ?_
                        exact fz_iret kX10_taken rfl rfl (fun _ => ⟨rfl, _, rfl, (by omega), (by first | exact fz_tkp_m k70 k72 rfl hs45.1 | exact fz_tkp_m k70 k72 c74 hs45.1 | exact fz_tkp_y k70 k72 c74 (by decide) (fz_un_y7 c178) | exact fz_tkp_n k70 k72 c74 (by decide) (fz_un_n7 c178) | exact absurd (c178.1.symm.trans c178.2) (by decide) | exact Or.inl ⟨by omega, rfl⟩ | exact Or.inr (Or.inl ⟨by omega, by omega, rfl⟩))⟩)
                      · exfalso; omega
                · exfalso; omega
            · exfalso; omega
        · exfalso; omega
      · refine fz_if_ne (tgt := 24) kX10_taken rfl (by decide) (fun c183 => ?_) (fun c183 => ?_)
        · exfalso; omega
        · refine fz_iconst ⟨by decide, by decide⟩ kX10_taken rfl ?_
          exact fz_iret kX10_taken rfl rfl (fun _ => ⟨rfl, _, rfl, (by omega), (by first | exact fz_tkp_m lost lost rfl hs45.1 | exact fz_tkp_m lost lost lost hs45.1 | exact fz_tkp_y lost lost lost (by decide) (fz_un_ylost c22) | exact fz_tkp_n lost lost lost (by decide) (fz_un_nlost c22) | exact absurd (c22.1.symm.trans c22.2) (by decide) | exact Or.inl ⟨by omega, rfl⟩ | exact Or.inr (Or.inl ⟨by omega, by omega, rfl⟩))⟩)
  · refine fz_if_eq (tgt := 22) kX10_taken rfl (by decide) (fun c185 => ?_) (fun c185 => ?_)
    · refine fz_iconst ⟨by decide, by decide⟩ kX10_taken rfl ?_
      exact fz_iret kX10_taken rfl rfl (fun _ => ⟨rfl, _, rfl, (by omega), (by first | exact fz_tkp_m lost lost rfl hs45.1 | exact fz_tkp_m lost lost lost hs45.1 | exact fz_tkp_y lost lost lost (by decide) (fz_un_ylost c13) | exact fz_tkp_n lost lost lost (by decide) (fz_un_nlost c13) | exact absurd (c13.1.symm.trans c13.2) (by decide) | exact Or.inl ⟨by omega, rfl⟩ | exact Or.inr (Or.inl ⟨by omega, by omega, rfl⟩))⟩)
    · exfalso; omega

abbrev qX10_count (h : fz_H) (wh : Int) : fz_H → Option fz_V → Prop := fun h' r0 => h' = h ∧ ∃ r : Int, r0 = some (fz_i r) ∧ ((-2147483648) ≤ r ∧ r ≤ 2147483647) ∧ ((wh = 0 ∧ r = h 1 7) ∨ (wh = 1 ∧ r = h 1 8) ∨ (wh = 2 ∧ r = h 9 5) ∨ (wh = 3 ∧ r = h 20 2) ∨ (wh = 4 ∧ r = h 35 4) ∨ (wh = 5 ∧ r = h 44 2) ∨ (wh = 6 ∧ r = h 44 3) ∨ (¬ (0 ≤ wh ∧ wh ≤ 6) ∧ r = -1))
set_option maxHeartbeats 1000000 in
set_option maxRecDepth 100000 in
theorem sX10_count (h : fz_H) (hI : fz_Iv h) (wh : Int) : fz_R 0 mX10_count 0 [(0, fz_r 0), (1, fz_i wh)] [] h (qX10_count h wh) := by
  refine fz_knowl (fun hk => ?_)
  have hr_wh : -2147483648 ≤ wh ∧ wh < 2147483648 := hk _ (List.Mem.tail _ (List.Mem.head _))
  clear hk
  have b1 : 0 ≤ h 1 7 ∧ h 1 7 ≤ 8 := hI.1 1 _
  have b2 : 0 ≤ h 1 8 ∧ h 1 8 ≤ 12 := hI.1 1 _
  have b3 : 0 ≤ h 9 5 ∧ h 9 5 ≤ 10 := hI.1 9 _
  have b4 : 0 ≤ h 20 2 ∧ h 20 2 ≤ 120 := hI.1 20 _
  have b5 : 0 ≤ h 35 4 ∧ h 35 4 ≤ 40 := hI.1 35 _
  have b6 : 0 ≤ h 44 2 ∧ h 44 2 ≤ 50 := hI.1 44 _
  have b7 : (-2147483648) ≤ h 44 3 ∧ h 44 3 ≤ 2147483647 := hI.1 44 _
  refine fz_iload_n kX10_count rfl rfl ?_
  rcases (show wh = 0 ∨ wh = 1 ∨ wh = 2 ∨ wh = 3 ∨ wh = 4 ∨ wh = 5 ∨ wh = 6 ∨ (wh < 0 ∨ 6 < wh) by omega) with c8 | c8 | c8 | c8 | c8 | c8 | c8 | c8
  · refine fz_tswC (j := 0) (tgt := 44) kX10_count rfl c8 (by decide) (by decide) rfl (by decide) ?_
    refine fz_aload_n kX10_count rfl rfl ?_
    refine fz_getR (t := 1) kX10_count rfl rfl ?_
    refine fz_getV (v := h 1 7) kX10_count rfl rfl rfl ?_
    have b9 : 0 ≤ h 1 7 ∧ h 1 7 ≤ 8 := hI.1 1 _
    exact fz_iret kX10_count rfl rfl (fun _ => ⟨rfl, _, rfl, (by omega), (by first | exact Or.inl ⟨by omega, rfl⟩ | exact Or.inr (Or.inl ⟨by omega, rfl⟩) | exact Or.inr (Or.inr (Or.inl ⟨by omega, rfl⟩)) | exact Or.inr (Or.inr (Or.inr (Or.inl ⟨by omega, rfl⟩))) | exact Or.inr (Or.inr (Or.inr (Or.inr (Or.inl ⟨by omega, rfl⟩)))) | exact Or.inr (Or.inr (Or.inr (Or.inr (Or.inr (Or.inl ⟨by omega, rfl⟩))))) | exact Or.inr (Or.inr (Or.inr (Or.inr (Or.inr (Or.inr (Or.inl ⟨by omega, rfl⟩)))))) | exact Or.inr (Or.inr (Or.inr (Or.inr (Or.inr (Or.inr (Or.inr (⟨by omega, rfl⟩))))))) | omega)⟩)
  · refine fz_tswC (j := 1) (tgt := 52) kX10_count rfl c8 (by decide) (by decide) rfl (by decide) ?_
    refine fz_aload_n kX10_count rfl rfl ?_
    refine fz_getR (t := 1) kX10_count rfl rfl ?_
    refine fz_getV (v := h 1 8) kX10_count rfl rfl rfl ?_
    have b11 : 0 ≤ h 1 8 ∧ h 1 8 ≤ 12 := hI.1 1 _
    exact fz_iret kX10_count rfl rfl (fun _ => ⟨rfl, _, rfl, (by omega), (by first | exact Or.inl ⟨by omega, rfl⟩ | exact Or.inr (Or.inl ⟨by omega, rfl⟩) | exact Or.inr (Or.inr (Or.inl ⟨by omega, rfl⟩)) | exact Or.inr (Or.inr (Or.inr (Or.inl ⟨by omega, rfl⟩))) | exact Or.inr (Or.inr (Or.inr (Or.inr (Or.inl ⟨by omega, rfl⟩)))) | exact Or.inr (Or.inr (Or.inr (Or.inr (Or.inr (Or.inl ⟨by omega, rfl⟩))))) | exact Or.inr (Or.inr (Or.inr (Or.inr (Or.inr (Or.inr (Or.inl ⟨by omega, rfl⟩)))))) | exact Or.inr (Or.inr (Or.inr (Or.inr (Or.inr (Or.inr (Or.inr (⟨by omega, rfl⟩))))))) | omega)⟩)
  · refine fz_tswC (j := 2) (tgt := 60) kX10_count rfl c8 (by decide) (by decide) rfl (by decide) ?_
    refine fz_aload_n kX10_count rfl rfl ?_
    refine fz_getR (t := 9) kX10_count rfl rfl ?_
    refine fz_getV (v := h 9 5) kX10_count rfl rfl rfl ?_
    have b13 : 0 ≤ h 9 5 ∧ h 9 5 ≤ 10 := hI.1 9 _
    exact fz_iret kX10_count rfl rfl (fun _ => ⟨rfl, _, rfl, (by omega), (by first | exact Or.inl ⟨by omega, rfl⟩ | exact Or.inr (Or.inl ⟨by omega, rfl⟩) | exact Or.inr (Or.inr (Or.inl ⟨by omega, rfl⟩)) | exact Or.inr (Or.inr (Or.inr (Or.inl ⟨by omega, rfl⟩))) | exact Or.inr (Or.inr (Or.inr (Or.inr (Or.inl ⟨by omega, rfl⟩)))) | exact Or.inr (Or.inr (Or.inr (Or.inr (Or.inr (Or.inl ⟨by omega, rfl⟩))))) | exact Or.inr (Or.inr (Or.inr (Or.inr (Or.inr (Or.inr (Or.inl ⟨by omega, rfl⟩)))))) | exact Or.inr (Or.inr (Or.inr (Or.inr (Or.inr (Or.inr (Or.inr (⟨by omega, rfl⟩))))))) | omega)⟩)
  · refine fz_tswC (j := 3) (tgt := 68) kX10_count rfl c8 (by decide) (by decide) rfl (by decide) ?_
    refine fz_aload_n kX10_count rfl rfl ?_
    refine fz_getR (t := 20) kX10_count rfl rfl ?_
    refine fz_getV (v := h 20 2) kX10_count rfl rfl rfl ?_
    have b15 : 0 ≤ h 20 2 ∧ h 20 2 ≤ 120 := hI.1 20 _
    exact fz_iret kX10_count rfl rfl (fun _ => ⟨rfl, _, rfl, (by omega), (by first | exact Or.inl ⟨by omega, rfl⟩ | exact Or.inr (Or.inl ⟨by omega, rfl⟩) | exact Or.inr (Or.inr (Or.inl ⟨by omega, rfl⟩)) | exact Or.inr (Or.inr (Or.inr (Or.inl ⟨by omega, rfl⟩))) | exact Or.inr (Or.inr (Or.inr (Or.inr (Or.inl ⟨by omega, rfl⟩)))) | exact Or.inr (Or.inr (Or.inr (Or.inr (Or.inr (Or.inl ⟨by omega, rfl⟩))))) | exact Or.inr (Or.inr (Or.inr (Or.inr (Or.inr (Or.inr (Or.inl ⟨by omega, rfl⟩)))))) | exact Or.inr (Or.inr (Or.inr (Or.inr (Or.inr (Or.inr (Or.inr (⟨by omega, rfl⟩))))))) | omega)⟩)
  · refine fz_tswC (j := 4) (tgt := 76) kX10_count rfl c8 (by decide) (by decide) rfl (by decide) ?_
    refine fz_aload_n kX10_count rfl rfl ?_
    refine fz_getR (t := 35) kX10_count rfl rfl ?_
    refine fz_getV (v := h 35 4) kX10_count rfl rfl rfl ?_
    have b17 : 0 ≤ h 35 4 ∧ h 35 4 ≤ 40 := hI.1 35 _
    exact fz_iret kX10_count rfl rfl (fun _ => ⟨rfl, _, rfl, (by omega), (by first | exact Or.inl ⟨by omega, rfl⟩ | exact Or.inr (Or.inl ⟨by omega, rfl⟩) | exact Or.inr (Or.inr (Or.inl ⟨by omega, rfl⟩)) | exact Or.inr (Or.inr (Or.inr (Or.inl ⟨by omega, rfl⟩))) | exact Or.inr (Or.inr (Or.inr (Or.inr (Or.inl ⟨by omega, rfl⟩)))) | exact Or.inr (Or.inr (Or.inr (Or.inr (Or.inr (Or.inl ⟨by omega, rfl⟩))))) | exact Or.inr (Or.inr (Or.inr (Or.inr (Or.inr (Or.inr (Or.inl ⟨by omega, rfl⟩)))))) | exact Or.inr (Or.inr (Or.inr (Or.inr (Or.inr (Or.inr (Or.inr (⟨by omega, rfl⟩))))))) | omega)⟩)
  · refine fz_tswC (j := 5) (tgt := 84) kX10_count rfl c8 (by decide) (by decide) rfl (by decide) ?_
    refine fz_aload_n kX10_count rfl rfl ?_
    refine fz_getR (t := 44) kX10_count rfl rfl ?_
    refine fz_getV (v := h 44 2) kX10_count rfl rfl rfl ?_
    have b19 : 0 ≤ h 44 2 ∧ h 44 2 ≤ 50 := hI.1 44 _
    exact fz_iret kX10_count rfl rfl (fun _ => ⟨rfl, _, rfl, (by omega), (by first | exact Or.inl ⟨by omega, rfl⟩ | exact Or.inr (Or.inl ⟨by omega, rfl⟩) | exact Or.inr (Or.inr (Or.inl ⟨by omega, rfl⟩)) | exact Or.inr (Or.inr (Or.inr (Or.inl ⟨by omega, rfl⟩))) | exact Or.inr (Or.inr (Or.inr (Or.inr (Or.inl ⟨by omega, rfl⟩)))) | exact Or.inr (Or.inr (Or.inr (Or.inr (Or.inr (Or.inl ⟨by omega, rfl⟩))))) | exact Or.inr (Or.inr (Or.inr (Or.inr (Or.inr (Or.inr (Or.inl ⟨by omega, rfl⟩)))))) | exact Or.inr (Or.inr (Or.inr (Or.inr (Or.inr (Or.inr (Or.inr (⟨by omega, rfl⟩))))))) | omega)⟩)
  · refine fz_tswC (j := 6) (tgt := 92) kX10_count rfl c8 (by decide) (by decide) rfl (by decide) ?_
    refine fz_aload_n kX10_count rfl rfl ?_
    refine fz_getR (t := 44) kX10_count rfl rfl ?_
    refine fz_getV (v := h 44 3) kX10_count rfl rfl rfl ?_
    have b21 : (-2147483648) ≤ h 44 3 ∧ h 44 3 ≤ 2147483647 := hI.1 44 _
    exact fz_iret kX10_count rfl rfl (fun _ => ⟨rfl, _, rfl, (by omega), (by first | exact Or.inl ⟨by omega, rfl⟩ | exact Or.inr (Or.inl ⟨by omega, rfl⟩) | exact Or.inr (Or.inr (Or.inl ⟨by omega, rfl⟩)) | exact Or.inr (Or.inr (Or.inr (Or.inl ⟨by omega, rfl⟩))) | exact Or.inr (Or.inr (Or.inr (Or.inr (Or.inl ⟨by omega, rfl⟩)))) | exact Or.inr (Or.inr (Or.inr (Or.inr (Or.inr (Or.inl ⟨by omega, rfl⟩))))) | exact Or.inr (Or.inr (Or.inr (Or.inr (Or.inr (Or.inr (Or.inl ⟨by omega, rfl⟩)))))) | exact Or.inr (Or.inr (Or.inr (Or.inr (Or.inr (Or.inr (Or.inr (⟨by omega, rfl⟩))))))) | omega)⟩)
  · refine fz_tswO (tgt := 100) kX10_count rfl c8 (by decide) ?_
    refine fz_iconst ⟨by decide, by decide⟩ kX10_count rfl ?_
    exact fz_iret kX10_count rfl rfl (fun _ => ⟨rfl, _, rfl, (by omega), (by first | exact Or.inl ⟨by omega, rfl⟩ | exact Or.inr (Or.inl ⟨by omega, rfl⟩) | exact Or.inr (Or.inr (Or.inl ⟨by omega, rfl⟩)) | exact Or.inr (Or.inr (Or.inr (Or.inl ⟨by omega, rfl⟩))) | exact Or.inr (Or.inr (Or.inr (Or.inr (Or.inl ⟨by omega, rfl⟩)))) | exact Or.inr (Or.inr (Or.inr (Or.inr (Or.inr (Or.inl ⟨by omega, rfl⟩))))) | exact Or.inr (Or.inr (Or.inr (Or.inr (Or.inr (Or.inr (Or.inl ⟨by omega, rfl⟩)))))) | exact Or.inr (Or.inr (Or.inr (Or.inr (Or.inr (Or.inr (Or.inr (⟨by omega, rfl⟩))))))) | omega)⟩)
