/-! ===== what the methods keep ===== -/
abbrev qX11_get (h : fz_H) (nu wh : Int) : fz_H → Option fz_V → Prop := fun h' r0 => h' = h ∧ ∃ r : Int, r0 = some (fz_i r) ∧ ((-9) ≤ r ∧ r ≤ 999) ∧ (fz_om nu wh r)
set_option maxHeartbeats 1000000 in
set_option maxRecDepth 100000 in
theorem sX11_get (h : fz_H) (hI : fz_Iv h) (nu wh : Int) (hp0 : (wh = 0 ∧ 0 ≤ nu ∧ nu ≤ 7 ∧ nu < h 53 0) ∨ (wh = 1 ∧ 0 ≤ nu ∧ nu ≤ 11 ∧ nu < h 53 2) ∨ (wh = 2 ∧ 0 ≤ nu ∧ nu ≤ 11 ∧ nu < h 53 2) ∨ (wh = 3 ∧ 0 ≤ nu ∧ nu ≤ 10 ∧ nu < h 53 10) ∨ (wh = 4 ∧ 0 ≤ nu ∧ nu ≤ 10 ∧ nu < h 53 10) ∨ (wh = 5 ∧ 0 ≤ nu ∧ nu ≤ 10 ∧ nu < h 53 10) ∨ (wh = 6 ∧ 0 ≤ nu ∧ nu ≤ 4) ∨ (wh = 7 ∧ nu = 0) ∨ (wh = 8 ∧ nu = 0)) : fz_R 0 mX11_get 0 [(0, fz_r 53), (1, fz_i nu), (2, fz_i wh)] [] h (qX11_get h nu wh) := by
  refine fz_knowl (fun hk => ?_)
  have hr_nu : -2147483648 ≤ nu ∧ nu < 2147483648 := hk _ (List.Mem.tail _ (List.Mem.head _))
  have hr_wh : -2147483648 ≤ wh ∧ wh < 2147483648 := hk _ (List.Mem.tail _ (List.Mem.tail _ (List.Mem.head _)))
  clear hk
  have b1 : 0 ≤ h 53 0 ∧ h 53 0 ≤ 8 := hI.1 53 _
  have b2 : 0 ≤ h 53 2 ∧ h 53 2 ≤ 12 := hI.1 53 _
  have b3 : 0 ≤ h 53 10 ∧ h 53 10 ≤ 11 := hI.1 53 _
  refine fz_iload_n kX11_get rfl rfl ?_
  rcases (show wh = 0 ∨ wh = 1 ∨ wh = 2 ∨ wh = 3 ∨ wh = 4 ∨ wh = 5 ∨ wh = 6 ∨ wh = 7 ∨ (wh < 0 ∨ 7 < wh) by omega) with c4 | c4 | c4 | c4 | c4 | c4 | c4 | c4 | c4
  · refine fz_tswC (j := 0) (tgt := 48) kX11_get rfl c4 (by decide) (by decide) rfl (by decide) ?_
    refine fz_aload_n kX11_get rfl rfl ?_
    refine fz_getR (t := 54) kX11_get rfl rfl ?_
    refine fz_iload_n kX11_get rfl rfl ?_
    refine fz_ialdV (n := 8) (v := h 54 (nu.toNat)) kX11_get rfl rfl (by omega) (by omega) rfl ?_
    have b5 : 0 ≤ h 54 (nu.toNat) ∧ h 54 (nu.toNat) ≤ 9 := hI.1 54 _
    exact fz_iret kX11_get rfl rfl (fun _ => ⟨rfl, _, rfl, (by omega), (by unfold fz_om; omega)⟩)
  · refine fz_tswC (j := 1) (tgt := 55) kX11_get rfl c4 (by decide) (by decide) rfl (by decide) ?_
    refine fz_aload_n kX11_get rfl rfl ?_
    refine fz_getR (t := 57) kX11_get rfl rfl ?_
    refine fz_iload_n kX11_get rfl rfl ?_
    refine fz_ialdV (n := 12) (v := h 57 (nu.toNat)) kX11_get rfl rfl (by omega) (by omega) rfl ?_
    have b7 : 0 ≤ h 57 (nu.toNat) ∧ h 57 (nu.toNat) ≤ 24 := hI.1 57 _
    exact fz_iret kX11_get rfl rfl (fun _ => ⟨rfl, _, rfl, (by omega), (by unfold fz_om; omega)⟩)
  · refine fz_tswC (j := 2) (tgt := 62) kX11_get rfl c4 (by decide) (by decide) rfl (by decide) ?_
    refine fz_aload_n kX11_get rfl rfl ?_
    refine fz_getR (t := 58) kX11_get rfl rfl ?_
    refine fz_iload_n kX11_get rfl rfl ?_
    refine fz_ialdV (n := 12) (v := h 58 (nu.toNat)) kX11_get rfl rfl (by omega) (by omega) rfl ?_
    have b9 : 0 ≤ h 58 (nu.toNat) ∧ h 58 (nu.toNat) ≤ 1 := hI.1 58 _
    exact fz_iret kX11_get rfl rfl (fun _ => ⟨rfl, _, rfl, (by omega), (by unfold fz_om; omega)⟩)
  · refine fz_tswC (j := 3) (tgt := 69) kX11_get rfl c4 (by decide) (by decide) rfl (by decide) ?_
    refine fz_aload_n kX11_get rfl rfl ?_
    refine fz_getR (t := 62) kX11_get rfl rfl ?_
    refine fz_iload_n kX11_get rfl rfl ?_
    refine fz_ialdV (n := 11) (v := h 62 (nu.toNat)) kX11_get rfl rfl (by omega) (by omega) rfl ?_
    have b11 : 0 ≤ h 62 (nu.toNat) ∧ h 62 (nu.toNat) ≤ 999 := hI.1 62 _
    exact fz_iret kX11_get rfl rfl (fun _ => ⟨rfl, _, rfl, (by omega), (by unfold fz_om; omega)⟩)
  · refine fz_tswC (j := 4) (tgt := 76) kX11_get rfl c4 (by decide) (by decide) rfl (by decide) ?_
    refine fz_aload_n kX11_get rfl rfl ?_
    refine fz_getR (t := 63) kX11_get rfl rfl ?_
    refine fz_iload_n kX11_get rfl rfl ?_
    refine fz_ialdV (n := 11) (v := h 63 (nu.toNat)) kX11_get rfl rfl (by omega) (by omega) rfl ?_
    have b13 : 0 ≤ h 63 (nu.toNat) ∧ h 63 (nu.toNat) ≤ 4 := hI.1 63 _
    exact fz_iret kX11_get rfl rfl (fun _ => ⟨rfl, _, rfl, (by omega), (by unfold fz_om; omega)⟩)
  · refine fz_tswC (j := 5) (tgt := 83) kX11_get rfl c4 (by decide) (by decide) rfl (by decide) ?_
    refine fz_aload_n kX11_get rfl rfl ?_
    refine fz_getR (t := 64) kX11_get rfl rfl ?_
    refine fz_iload_n kX11_get rfl rfl ?_
    refine fz_ialdV (n := 11) (v := h 64 (nu.toNat)) kX11_get rfl rfl (by omega) (by omega) rfl ?_
    have b15 : 0 ≤ h 64 (nu.toNat) ∧ h 64 (nu.toNat) ≤ 9 := hI.1 64 _
    exact fz_iret kX11_get rfl rfl (fun _ => ⟨rfl, _, rfl, (by omega), (by unfold fz_om; omega)⟩)
  · refine fz_tswC (j := 6) (tgt := 90) kX11_get rfl c4 (by decide) (by decide) rfl (by decide) ?_
    refine fz_aload_n kX11_get rfl rfl ?_
    refine fz_getR (t := 59) kX11_get rfl rfl ?_
    refine fz_iload_n kX11_get rfl rfl ?_
    refine fz_ialdV (n := 5) (v := h 59 (nu.toNat)) kX11_get rfl rfl (by omega) (by omega) rfl ?_
    have b17 : (-9) ≤ h 59 (nu.toNat) ∧ h 59 (nu.toNat) ≤ 9 := hI.1 59 _
    exact fz_iret kX11_get rfl rfl (fun _ => ⟨rfl, _, rfl, (by omega), (by unfold fz_om; omega)⟩)
  · refine fz_tswC (j := 7) (tgt := 97) kX11_get rfl c4 (by decide) (by decide) rfl (by decide) ?_
    refine fz_aload_n kX11_get rfl rfl ?_
    refine fz_getV (v := h 53 8) kX11_get rfl rfl rfl ?_
    have b19 : 0 ≤ h 53 8 ∧ h 53 8 ≤ 99 := hI.1 53 _
    exact fz_iret kX11_get rfl rfl (fun _ => ⟨rfl, _, rfl, (by omega), (by unfold fz_om; omega)⟩)
  · refine fz_tswO (tgt := 102) kX11_get rfl c4 (by decide) ?_
    refine fz_aload_n kX11_get rfl rfl ?_
    refine fz_getV (v := h 53 9) kX11_get rfl rfl rfl ?_
    have b21 : 0 ≤ h 53 9 ∧ h 53 9 ≤ 12 := hI.1 53 _
    exact fz_iret kX11_get rfl rfl (fun _ => ⟨rfl, _, rfl, (by omega), (by unfold fz_om; omega)⟩)

abbrev qX11_becomes (h : fz_H) (nu wh v : Int) : fz_H → Option fz_V → Prop := fun h' r0 => fz_Iv h' ∧ fz_fr [(53, 8), (53, 9), (54, 99999), (57, 99999), (58, 99999), (59, 99999), (62, 99999), (63, 99999), (64, 99999)] h h' ∧ r0 = none
set_option maxHeartbeats 1000000 in
set_option maxRecDepth 100000 in
theorem sX11_becomes (h : fz_H) (hI : fz_Iv h) (nu wh v : Int) (hp0 : 0 ≤ wh ∧ wh ≤ 8) (hp1 : fz_om nu wh v) : fz_R 0 mX11_becomes 0 [(0, fz_r 53), (1, fz_i nu), (2, fz_i wh), (3, fz_i v)] [] h (qX11_becomes h nu wh v) := by
  refine fz_knowl (fun hk => ?_)
  have hr_nu : -2147483648 ≤ nu ∧ nu < 2147483648 := hk _ (List.Mem.tail _ (List.Mem.head _))
  have hr_wh : -2147483648 ≤ wh ∧ wh < 2147483648 := hk _ (List.Mem.tail _ (List.Mem.tail _ (List.Mem.head _)))
  have hr_v : -2147483648 ≤ v ∧ v < 2147483648 := hk _ (List.Mem.tail _ (List.Mem.tail _ (List.Mem.tail _ (List.Mem.head _))))
  clear hk
  have hf : fz_fr [(53, 8), (53, 9), (54, 99999), (57, 99999), (58, 99999), (59, 99999), (62, 99999), (63, 99999), (64, 99999)] h h := fz_fr_rf
  refine fz_iload_n kX11_becomes rfl rfl ?_
  rcases (show wh = 0 ∨ wh = 1 ∨ wh = 2 ∨ wh = 3 ∨ wh = 4 ∨ wh = 5 ∨ wh = 6 ∨ wh = 7 ∨ (wh < 0 ∨ 7 < wh) by omega) with c1 | c1 | c1 | c1 | c1 | c1 | c1 | c1 | c1
  · refine fz_tswC (j := 0) (tgt := 48) kX11_becomes rfl c1 (by decide) (by decide) rfl (by decide) ?_
    have k2 := hp1.2.1 c1
    refine fz_aload_n kX11_becomes rfl rfl ?_
    refine fz_getR (t := 54) kX11_becomes rfl rfl ?_
    refine fz_iload_n kX11_becomes rfl rfl ?_
    refine fz_iload_n kX11_becomes rfl rfl ?_
    refine fz_iast (n := 8) kX11_becomes rfl rfl (by omega) (by omega) ?_
    refine fz_nmu (S := [(53, 8), (53, 9), (54, 99999), (57, 99999), (58, 99999), (59, 99999), (62, 99999), (63, 99999), (64, 99999)]) (h0 := h) (fz_Iv_up hI (by decide) (show 0 ≤ v by omega) (show v ≤ 9 by omega)) (fz_fr_up hf rfl) (fun H3 hI4 hf5 e6 => ?_)
    clear e6
    exact fz_vret kX11_becomes rfl rfl ⟨hI4, hf5, rfl⟩
  · refine fz_tswC (j := 1) (tgt := 56) kX11_becomes rfl c1 (by decide) (by decide) rfl (by decide) ?_
    have k7 := hp1.2.2.1 c1
    refine fz_aload_n kX11_becomes rfl rfl ?_
    refine fz_getR (t := 57) kX11_becomes rfl rfl ?_
    refine fz_iload_n kX11_becomes rfl rfl ?_
    refine fz_iload_n kX11_becomes rfl rfl ?_
    refine fz_iast (n := 12) kX11_becomes rfl rfl (by omega) (by omega) ?_
    refine fz_nmu (S := [(53, 8), (53, 9), (54, 99999), (57, 99999), (58, 99999), (59, 99999), (62, 99999), (63, 99999), (64, 99999)]) (h0 := h) (fz_Iv_up hI (by decide) (show 0 ≤ v by omega) (show v ≤ 24 by omega)) (fz_fr_up hf rfl) (fun H8 hI9 hf10 e11 => ?_)
    clear e11
    exact fz_vret kX11_becomes rfl rfl ⟨hI9, hf10, rfl⟩
  · refine fz_tswC (j := 2) (tgt := 64) kX11_becomes rfl c1 (by decide) (by decide) rfl (by decide) ?_
    have k12 := hp1.2.2.2.1 c1
    refine fz_aload_n kX11_becomes rfl rfl ?_
    refine fz_getR (t := 58) kX11_becomes rfl rfl ?_
    refine fz_iload_n kX11_becomes rfl rfl ?_
    refine fz_iload_n kX11_becomes rfl rfl ?_
    refine fz_iast (n := 12) kX11_becomes rfl rfl (by omega) (by omega) ?_
    refine fz_nmu (S := [(53, 8), (53, 9), (54, 99999), (57, 99999), (58, 99999), (59, 99999), (62, 99999), (63, 99999), (64, 99999)]) (h0 := h) (fz_Iv_up hI (by decide) (show 0 ≤ v by omega) (show v ≤ 1 by omega)) (fz_fr_up hf rfl) (fun H13 hI14 hf15 e16 => ?_)
    clear e16
    exact fz_vret kX11_becomes rfl rfl ⟨hI14, hf15, rfl⟩
  · refine fz_tswC (j := 3) (tgt := 72) kX11_becomes rfl c1 (by decide) (by decide) rfl (by decide) ?_
    have k17 := hp1.2.2.2.2.1 c1
    refine fz_aload_n kX11_becomes rfl rfl ?_
    refine fz_getR (t := 62) kX11_becomes rfl rfl ?_
    refine fz_iload_n kX11_becomes rfl rfl ?_
    refine fz_iload_n kX11_becomes rfl rfl ?_
    refine fz_iast (n := 11) kX11_becomes rfl rfl (by omega) (by omega) ?_
    refine fz_nmu (S := [(53, 8), (53, 9), (54, 99999), (57, 99999), (58, 99999), (59, 99999), (62, 99999), (63, 99999), (64, 99999)]) (h0 := h) (fz_Iv_up hI (by decide) (show 0 ≤ v by omega) (show v ≤ 999 by omega)) (fz_fr_up hf rfl) (fun H18 hI19 hf20 e21 => ?_)
    clear e21
    exact fz_vret kX11_becomes rfl rfl ⟨hI19, hf20, rfl⟩
  · refine fz_tswC (j := 4) (tgt := 80) kX11_becomes rfl c1 (by decide) (by decide) rfl (by decide) ?_
    have k22 := hp1.2.2.2.2.2.1 c1
    refine fz_aload_n kX11_becomes rfl rfl ?_
    refine fz_getR (t := 63) kX11_becomes rfl rfl ?_
    refine fz_iload_n kX11_becomes rfl rfl ?_
    refine fz_iload_n kX11_becomes rfl rfl ?_
    refine fz_iast (n := 11) kX11_becomes rfl rfl (by omega) (by omega) ?_
    refine fz_nmu (S := [(53, 8), (53, 9), (54, 99999), (57, 99999), (58, 99999), (59, 99999), (62, 99999), (63, 99999), (64, 99999)]) (h0 := h) (fz_Iv_up hI (by decide) (show 0 ≤ v by omega) (show v ≤ 4 by omega)) (fz_fr_up hf rfl) (fun H23 hI24 hf25 e26 => ?_)
    clear e26
    exact fz_vret kX11_becomes rfl rfl ⟨hI24, hf25, rfl⟩
  · refine fz_tswC (j := 5) (tgt := 88) kX11_becomes rfl c1 (by decide) (by decide) rfl (by decide) ?_
    have k27 := hp1.2.2.2.2.2.2.1 c1
    refine fz_aload_n kX11_becomes rfl rfl ?_
    refine fz_getR (t := 64) kX11_becomes rfl rfl ?_
    refine fz_iload_n kX11_becomes rfl rfl ?_
    refine fz_iload_n kX11_becomes rfl rfl ?_
    refine fz_iast (n := 11) kX11_becomes rfl rfl (by omega) (by omega) ?_
    refine fz_nmu (S := [(53, 8), (53, 9), (54, 99999), (57, 99999), (58, 99999), (59, 99999), (62, 99999), (63, 99999), (64, 99999)]) (h0 := h) (fz_Iv_up hI (by decide) (show 0 ≤ v by omega) (show v ≤ 9 by omega)) (fz_fr_up hf rfl) (fun H28 hI29 hf30 e31 => ?_)
    clear e31
    exact fz_vret kX11_becomes rfl rfl ⟨hI29, hf30, rfl⟩
  · refine fz_tswC (j := 6) (tgt := 96) kX11_becomes rfl c1 (by decide) (by decide) rfl (by decide) ?_
    have k32 := hp1.2.2.2.2.2.2.2.1 c1
    refine fz_aload_n kX11_becomes rfl rfl ?_
    refine fz_getR (t := 59) kX11_becomes rfl rfl ?_
    refine fz_iload_n kX11_becomes rfl rfl ?_
    refine fz_iload_n kX11_becomes rfl rfl ?_
    refine fz_iast (n := 5) kX11_becomes rfl rfl (by omega) (by omega) ?_
    refine fz_nmu (S := [(53, 8), (53, 9), (54, 99999), (57, 99999), (58, 99999), (59, 99999), (62, 99999), (63, 99999), (64, 99999)]) (h0 := h) (fz_Iv_up hI (by decide) (show (-9) ≤ v by omega) (show v ≤ 9 by omega)) (fz_fr_up hf rfl) (fun H33 hI34 hf35 e36 => ?_)
    clear e36
    exact fz_vret kX11_becomes rfl rfl ⟨hI34, hf35, rfl⟩
  · refine fz_tswC (j := 7) (tgt := 104) kX11_becomes rfl c1 (by decide) (by decide) rfl (by decide) ?_
    have k37 := hp1.2.2.2.2.2.2.2.2.1 c1
    refine fz_aload_n kX11_becomes rfl rfl ?_
    refine fz_iload_n kX11_becomes rfl rfl ?_
    refine fz_putI kX11_becomes rfl rfl rfl ?_
    refine fz_nmu (S := [(53, 8), (53, 9), (54, 99999), (57, 99999), (58, 99999), (59, 99999), (62, 99999), (63, 99999), (64, 99999)]) (h0 := h) (fz_Iv_up hI (by decide) (show 0 ≤ v by omega) (show v ≤ 99 by omega)) (fz_fr_up hf rfl) (fun H38 hI39 hf40 e41 => ?_)
    have k42 : H38 53 8 = v := by rw [e41]; exact fz_up_e
    clear e41
    exact fz_vret kX11_becomes rfl rfl ⟨hI39, hf40, rfl⟩
  · refine fz_tswO (tgt := 110) kX11_becomes rfl c1 (by decide) ?_
    have k43 : nu = 0 ∧ 0 ≤ v ∧ v ≤ 12 := hp1.2.2.2.2.2.2.2.2.2 (by omega)
    refine fz_aload_n kX11_becomes rfl rfl ?_
    refine fz_iload_n kX11_becomes rfl rfl ?_
    refine fz_putI kX11_becomes rfl rfl rfl ?_
    refine fz_nmu (S := [(53, 8), (53, 9), (54, 99999), (57, 99999), (58, 99999), (59, 99999), (62, 99999), (63, 99999), (64, 99999)]) (h0 := h) (fz_Iv_up hI (by decide) (show 0 ≤ v by omega) (show v ≤ 12 by omega)) (fz_fr_up hf rfl) (fun H44 hI45 hf46 e47 => ?_)
    have k48 : H44 53 9 = v := by rw [e47]; exact fz_up_e
    clear e47
    exact fz_vret kX11_becomes rfl rfl ⟨hI45, hf46, rfl⟩

abbrev qX11_isFit (h : fz_H) (wh v : Int) : fz_H → Option fz_V → Prop := fun h' r0 => h' = h ∧ ∃ r : Int, r0 = some (fz_i r) ∧ (r = 0 ∨ r = 1) ∧ (fz_ft wh v r)
set_option maxHeartbeats 1000000 in
set_option maxRecDepth 100000 in
theorem sX11_isFit (h : fz_H) (hI : fz_Iv h) (wh v : Int) (hp0 : 0 ≤ wh ∧ wh ≤ 8) : fz_R 2 mX11_isFit 0 [(0, fz_i wh), (1, fz_i v)] [] h (qX11_isFit h wh v) := by
  refine fz_knowl (fun hk => ?_)
  have hr_wh : -2147483648 ≤ wh ∧ wh < 2147483648 := hk _ (List.Mem.head _)
  have hr_v : -2147483648 ≤ v ∧ v < 2147483648 := hk _ (List.Mem.tail _ (List.Mem.head _))
  clear hk
  refine fz_iload_n kX11_isFit rfl rfl ?_
  rcases (show wh = 0 ∨ wh = 1 ∨ wh = 2 ∨ wh = 3 ∨ wh = 4 ∨ wh = 5 ∨ wh = 6 ∨ wh = 7 ∨ (wh < 0 ∨ 7 < wh) by omega) with c1 | c1 | c1 | c1 | c1 | c1 | c1 | c1 | c1
  · refine fz_tswC (j := 0) (tgt := 48) kX11_isFit rfl c1 (by decide) (by decide) rfl (by decide) ?_
    refine fz_iload_n kX11_isFit rfl rfl ?_
    refine fz_iconst ⟨by decide, by decide⟩ kX11_isFit rfl ?_
    refine fz_bipush ⟨by decide, by decide⟩ kX11_isFit rfl ?_
    refine fz_callS (d' := 0) (M' := mX11_within) (As := [fz_i v, fz_i 0, fz_i 9]) (st := []) kX11_isFit rfl rfl vX11_within rfl rfl (Nat.le_of_ble_eq_true rfl) (Nat.le_of_ble_eq_true rfl) (by decide) (sX11_within h hI v 0 9 ) (fun H2 r3 q4 o5 => ?_)
    obtain ⟨e6, y7, rfl, p8⟩ := q4
    subst H2
    clear o5
    rcases p8 with ⟨rfl, c9⟩ | ⟨rfl, c9⟩
    · exact fz_zret kX11_isFit rfl rfl (by omega) ⟨rfl, _, rfl, (by omega), (by unfold fz_ft; omega)⟩
    · exact fz_zret kX11_isFit rfl rfl (by omega) ⟨rfl, _, rfl, (by omega), (by unfold fz_ft; omega)⟩
  · refine fz_tswC (j := 1) (tgt := 56) kX11_isFit rfl c1 (by decide) (by decide) rfl (by decide) ?_
    refine fz_iload_n kX11_isFit rfl rfl ?_
    refine fz_iconst ⟨by decide, by decide⟩ kX11_isFit rfl ?_
    refine fz_bipush ⟨by decide, by decide⟩ kX11_isFit rfl ?_
    refine fz_callS (d' := 0) (M' := mX11_within) (As := [fz_i v, fz_i 1, fz_i 24]) (st := []) kX11_isFit rfl rfl vX11_within rfl rfl (Nat.le_of_ble_eq_true rfl) (Nat.le_of_ble_eq_true rfl) (by decide) (sX11_within h hI v 1 24 ) (fun H12 r13 q14 o15 => ?_)
    obtain ⟨e16, y17, rfl, p18⟩ := q14
    subst H12
    clear o15
    rcases p18 with ⟨rfl, c19⟩ | ⟨rfl, c19⟩
    · exact fz_zret kX11_isFit rfl rfl (by omega) ⟨rfl, _, rfl, (by omega), (by unfold fz_ft; omega)⟩
    · exact fz_zret kX11_isFit rfl rfl (by omega) ⟨rfl, _, rfl, (by omega), (by unfold fz_ft; omega)⟩
  · refine fz_tswC (j := 2) (tgt := 64) kX11_isFit rfl c1 (by decide) (by decide) rfl (by decide) ?_
    refine fz_iload_n kX11_isFit rfl rfl ?_
    refine fz_iconst ⟨by decide, by decide⟩ kX11_isFit rfl ?_
    refine fz_iconst ⟨by decide, by decide⟩ kX11_isFit rfl ?_
    refine fz_callS (d' := 0) (M' := mX11_within) (As := [fz_i v, fz_i 0, fz_i 1]) (st := []) kX11_isFit rfl rfl vX11_within rfl rfl (Nat.le_of_ble_eq_true rfl) (Nat.le_of_ble_eq_true rfl) (by decide) (sX11_within h hI v 0 1 ) (fun H22 r23 q24 o25 => ?_)
    obtain ⟨e26, y27, rfl, p28⟩ := q24
    subst H22
    clear o25
    rcases p28 with ⟨rfl, c29⟩ | ⟨rfl, c29⟩
    · exact fz_zret kX11_isFit rfl rfl (by omega) ⟨rfl, _, rfl, (by omega), (by unfold fz_ft; omega)⟩
    · exact fz_zret kX11_isFit rfl rfl (by omega) ⟨rfl, _, rfl, (by omega), (by unfold fz_ft; omega)⟩
  · refine fz_tswC (j := 3) (tgt := 71) kX11_isFit rfl c1 (by decide) (by decide) rfl (by decide) ?_
    refine fz_iload_n kX11_isFit rfl rfl ?_
    refine fz_callS (d' := 1) (M' := mX11_isHour) (As := [fz_i v]) (st := []) kX11_isFit rfl rfl vX11_isHour rfl rfl (Nat.le_of_ble_eq_true rfl) (Nat.le_of_ble_eq_true rfl) (by decide) (sX11_isHour h hI v ) (fun H32 r33 q34 o35 => ?_)
    obtain ⟨e36, y37, rfl, p38⟩ := q34
    subst H32
    clear o35
    rcases p38 with ⟨rfl, c39⟩ | ⟨rfl, c39⟩
    · exact fz_zret kX11_isFit rfl rfl (by omega) ⟨rfl, _, rfl, (by omega), (by unfold fz_ft; omega)⟩
    · exact fz_zret kX11_isFit rfl rfl (by omega) ⟨rfl, _, rfl, (by omega), (by unfold fz_ft; omega)⟩
  · refine fz_tswC (j := 4) (tgt := 76) kX11_isFit rfl c1 (by decide) (by decide) rfl (by decide) ?_
    refine fz_iload_n kX11_isFit rfl rfl ?_
    refine fz_callS (d' := 1) (M' := mX11_isMark) (As := [fz_i v]) (st := []) kX11_isFit rfl rfl vX11_isMark rfl rfl (Nat.le_of_ble_eq_true rfl) (Nat.le_of_ble_eq_true rfl) (by decide) (sX11_isMark h hI v ) (fun H42 r43 q44 o45 => ?_)
    obtain ⟨e46, y47, rfl, p48⟩ := q44
    subst H42
    clear o45
    rcases p48 with ⟨rfl, c49⟩ | ⟨rfl, c49⟩
    · exact fz_zret kX11_isFit rfl rfl (by omega) ⟨rfl, _, rfl, (by omega), (by unfold fz_ft; omega)⟩
    · exact fz_zret kX11_isFit rfl rfl (by omega) ⟨rfl, _, rfl, (by omega), (by unfold fz_ft; omega)⟩
  · refine fz_tswC (j := 5) (tgt := 81) kX11_isFit rfl c1 (by decide) (by decide) rfl (by decide) ?_
    refine fz_iload_n kX11_isFit rfl rfl ?_
    refine fz_iconst ⟨by decide, by decide⟩ kX11_isFit rfl ?_
    refine fz_bipush ⟨by decide, by decide⟩ kX11_isFit rfl ?_
    refine fz_callS (d' := 0) (M' := mX11_within) (As := [fz_i v, fz_i 1, fz_i 9]) (st := []) kX11_isFit rfl rfl vX11_within rfl rfl (Nat.le_of_ble_eq_true rfl) (Nat.le_of_ble_eq_true rfl) (by decide) (sX11_within h hI v 1 9 ) (fun H52 r53 q54 o55 => ?_)
    obtain ⟨e56, y57, rfl, p58⟩ := q54
    subst H52
    clear o55
    rcases p58 with ⟨rfl, c59⟩ | ⟨rfl, c59⟩
    · exact fz_zret kX11_isFit rfl rfl (by omega) ⟨rfl, _, rfl, (by omega), (by unfold fz_ft; omega)⟩
    · exact fz_zret kX11_isFit rfl rfl (by omega) ⟨rfl, _, rfl, (by omega), (by unfold fz_ft; omega)⟩
  · refine fz_tswC (j := 6) (tgt := 89) kX11_isFit rfl c1 (by decide) (by decide) rfl (by decide) ?_
    refine fz_iload_n kX11_isFit rfl rfl ?_
    refine fz_bipush ⟨by decide, by decide⟩ kX11_isFit rfl ?_
    refine fz_bipush ⟨by decide, by decide⟩ kX11_isFit rfl ?_
    refine fz_callS (d' := 0) (M' := mX11_within) (As := [fz_i v, fz_i (-9), fz_i 9]) (st := []) kX11_isFit rfl rfl vX11_within rfl rfl (Nat.le_of_ble_eq_true rfl) (Nat.le_of_ble_eq_true rfl) (by decide) (sX11_within h hI v (-9) 9 ) (fun H62 r63 q64 o65 => ?_)
    obtain ⟨e66, y67, rfl, p68⟩ := q64
    subst H62
    clear o65
    rcases p68 with ⟨rfl, c69⟩ | ⟨rfl, c69⟩
    · exact fz_zret kX11_isFit rfl rfl (by omega) ⟨rfl, _, rfl, (by omega), (by unfold fz_ft; omega)⟩
    · exact fz_zret kX11_isFit rfl rfl (by omega) ⟨rfl, _, rfl, (by omega), (by unfold fz_ft; omega)⟩
  · refine fz_tswC (j := 7) (tgt := 98) kX11_isFit rfl c1 (by decide) (by decide) rfl (by decide) ?_
    refine fz_iload_n kX11_isFit rfl rfl ?_
    refine fz_iconst ⟨by decide, by decide⟩ kX11_isFit rfl ?_
    refine fz_bipush ⟨by decide, by decide⟩ kX11_isFit rfl ?_
    refine fz_callS (d' := 0) (M' := mX11_within) (As := [fz_i v, fz_i 0, fz_i 99]) (st := []) kX11_isFit rfl rfl vX11_within rfl rfl (Nat.le_of_ble_eq_true rfl) (Nat.le_of_ble_eq_true rfl) (by decide) (sX11_within h hI v 0 99 ) (fun H72 r73 q74 o75 => ?_)
    obtain ⟨e76, y77, rfl, p78⟩ := q74
    subst H72
    clear o75
    rcases p78 with ⟨rfl, c79⟩ | ⟨rfl, c79⟩
    · exact fz_zret kX11_isFit rfl rfl (by omega) ⟨rfl, _, rfl, (by omega), (by unfold fz_ft; omega)⟩
    · exact fz_zret kX11_isFit rfl rfl (by omega) ⟨rfl, _, rfl, (by omega), (by unfold fz_ft; omega)⟩
  · refine fz_tswO (tgt := 106) kX11_isFit rfl c1 (by decide) ?_
    refine fz_iload_n kX11_isFit rfl rfl ?_
    refine fz_iconst ⟨by decide, by decide⟩ kX11_isFit rfl ?_
    refine fz_bipush ⟨by decide, by decide⟩ kX11_isFit rfl ?_
    refine fz_callS (d' := 0) (M' := mX11_within) (As := [fz_i v, fz_i 0, fz_i 12]) (st := []) kX11_isFit rfl rfl vX11_within rfl rfl (Nat.le_of_ble_eq_true rfl) (Nat.le_of_ble_eq_true rfl) (by decide) (sX11_within h hI v 0 12 ) (fun H82 r83 q84 o85 => ?_)
    obtain ⟨e86, y87, rfl, p88⟩ := q84
    subst H82
    clear o85
    rcases p88 with ⟨rfl, c89⟩ | ⟨rfl, c89⟩
    · exact fz_zret kX11_isFit rfl rfl (by omega) ⟨rfl, _, rfl, (by omega), (by unfold fz_ft; omega)⟩
    · exact fz_zret kX11_isFit rfl rfl (by omega) ⟨rfl, _, rfl, (by omega), (by unfold fz_ft; omega)⟩

abbrev qX11_of (h : fz_H) (nu wh : Int) : fz_H → Option fz_V → Prop := fun h' r0 => h' = h ∧ ∃ r : Int, r0 = some (fz_i r) ∧ ((-2147483648) ≤ r ∧ r ≤ 2147483647)
set_option maxHeartbeats 1000000 in
set_option maxRecDepth 100000 in
theorem sX11_of (h : fz_H) (hI : fz_Iv h) (nu wh : Int) : fz_R 3 mX11_of 0 [(0, fz_r 53), (1, fz_i nu), (2, fz_i wh)] [] h (qX11_of h nu wh) := by
  refine fz_knowl (fun hk => ?_)
  have hr_nu : -2147483648 ≤ nu ∧ nu < 2147483648 := hk _ (List.Mem.tail _ (List.Mem.head _))
  have hr_wh : -2147483648 ≤ wh ∧ wh < 2147483648 := hk _ (List.Mem.tail _ (List.Mem.tail _ (List.Mem.head _)))
  clear hk
  refine fz_iload_n kX11_of rfl rfl ?_
  rcases (show wh = 9 ∨ wh = 10 ∨ wh = 11 ∨ wh = 12 ∨ (wh < 9 ∨ 12 < wh) by omega) with c1 | c1 | c1 | c1 | c1
  · refine fz_tswC (j := 9) (tgt := 32) kX11_of rfl c1 (by decide) (by decide) rfl (by decide) ?_
    refine fz_aload_n kX11_of rfl rfl ?_
    refine fz_iload_n kX11_of rfl rfl ?_
    have b2 : 0 ≤ h 53 10 ∧ h 53 10 ≤ 11 := hI.1 53 _
    refine fz_callV (d' := 1) (M' := mX11_isDeed) (As := [fz_i nu]) (st := []) kX11_of rfl rfl vX11_isDeed rfl rfl rfl rfl (Nat.le_of_ble_eq_true rfl) (Nat.le_of_ble_eq_true rfl) (by decide) (sX11_isDeed h hI nu ) (fun H3 r4 q5 o6 => ?_)
    obtain ⟨e7, y8, rfl, p9⟩ := q5
    subst H3
    clear o6
    rcases p9 with ⟨rfl, c10⟩ | ⟨rfl, c10⟩
    · refine fz_if_eq (tgt := 49) kX11_of rfl (by decide) (fun c11 => ?_) (fun c11 => ?_)
      · exfalso; omega
      · refine fz_aload_n kX11_of rfl rfl ?_
        refine fz_getR (t := 60) kX11_of rfl rfl ?_
        refine fz_iload_n kX11_of rfl rfl ?_
        refine fz_ialdV (n := 11) (v := h 60 (nu.toNat)) kX11_of rfl rfl (by omega) (by omega) rfl ?_
        have b12 : (-2147483648) ≤ h 60 (nu.toNat) ∧ h 60 (nu.toNat) ≤ 2147483647 := hI.1 60 _
        refine fz_goto (tgt := 51) kX11_of rfl (by decide) ?_
        exact fz_iret kX11_of rfl rfl (fun _ => ⟨rfl, _, rfl, (by omega)⟩)
    · refine fz_if_eq (tgt := 49) kX11_of rfl (by decide) (fun c13 => ?_) (fun c13 => ?_)
      · refine fz_ldc (x := (-2000000000)) kX11_of rfl rfl rfl ?_
        exact fz_iret kX11_of rfl rfl (fun _ => ⟨rfl, _, rfl, (by omega)⟩)
      · exfalso; omega
  · refine fz_tswC (j := 10) (tgt := 52) kX11_of rfl c1 (by decide) (by decide) rfl (by decide) ?_
    refine fz_aload_n kX11_of rfl rfl ?_
    refine fz_iload_n kX11_of rfl rfl ?_
    have b14 : 0 ≤ h 53 10 ∧ h 53 10 ≤ 11 := hI.1 53 _
    refine fz_callV (d' := 1) (M' := mX11_isDeed) (As := [fz_i nu]) (st := []) kX11_of rfl rfl vX11_isDeed rfl rfl rfl rfl (Nat.le_of_ble_eq_true rfl) (Nat.le_of_ble_eq_true rfl) (by decide) (sX11_isDeed h hI nu ) (fun H15 r16 q17 o18 => ?_)
    obtain ⟨e19, y20, rfl, p21⟩ := q17
    subst H15
    clear o18
    rcases p21 with ⟨rfl, c22⟩ | ⟨rfl, c22⟩
    · refine fz_if_eq (tgt := 69) kX11_of rfl (by decide) (fun c23 => ?_) (fun c23 => ?_)
      · exfalso; omega
      · refine fz_aload_n kX11_of rfl rfl ?_
        refine fz_getR (t := 61) kX11_of rfl rfl ?_
        refine fz_iload_n kX11_of rfl rfl ?_
        refine fz_ialdV (n := 11) (v := h 61 (nu.toNat)) kX11_of rfl rfl (by omega) (by omega) rfl ?_
        have b24 : 0 ≤ h 61 (nu.toNat) ∧ h 61 (nu.toNat) ≤ 7 := hI.1 61 _
        refine fz_goto (tgt := 71) kX11_of rfl (by decide) ?_
        exact fz_iret kX11_of rfl rfl (fun _ => ⟨rfl, _, rfl, (by omega)⟩)
    · refine fz_if_eq (tgt := 69) kX11_of rfl (by decide) (fun c25 => ?_) (fun c25 => ?_)
      · refine fz_ldc (x := (-2000000000)) kX11_of rfl rfl rfl ?_
        exact fz_iret kX11_of rfl rfl (fun _ => ⟨rfl, _, rfl, (by omega)⟩)
      · exfalso; omega
  · refine fz_tswC (j := 11) (tgt := 72) kX11_of rfl c1 (by decide) (by decide) rfl (by decide) ?_
    refine fz_iload_n kX11_of rfl rfl ?_
    refine fz_callS (d' := 1) (M' := mX11_isPerson) (As := [fz_i nu]) (st := []) kX11_of rfl rfl vX11_isPerson rfl rfl (Nat.le_of_ble_eq_true rfl) (Nat.le_of_ble_eq_true rfl) (by decide) (sX11_isPerson h hI nu ) (fun H26 r27 q28 o29 => ?_)
    obtain ⟨e30, y31, rfl, p32⟩ := q28
    subst H26
    clear o29
    rcases p32 with ⟨rfl, c33⟩ | ⟨rfl, c33⟩
    · refine fz_if_eq (tgt := 88) kX11_of rfl (by decide) (fun c34 => ?_) (fun c34 => ?_)
      · exfalso; omega
      · refine fz_aload_n kX11_of rfl rfl ?_
        refine fz_getR (t := 76) kX11_of rfl rfl ?_
        refine fz_iload_n kX11_of rfl rfl ?_
        refine fz_ialdV (n := 4) (v := h 76 (nu.toNat)) kX11_of rfl rfl (by omega) (by omega) rfl ?_
        have b35 : 0 ≤ h 76 (nu.toNat) ∧ h 76 (nu.toNat) ≤ 7 := hI.1 76 _
        refine fz_goto (tgt := 90) kX11_of rfl (by decide) ?_
        exact fz_iret kX11_of rfl rfl (fun _ => ⟨rfl, _, rfl, (by omega)⟩)
    · refine fz_if_eq (tgt := 88) kX11_of rfl (by decide) (fun c36 => ?_) (fun c36 => ?_)
      · refine fz_ldc (x := (-2000000000)) kX11_of rfl rfl rfl ?_
        exact fz_iret kX11_of rfl rfl (fun _ => ⟨rfl, _, rfl, (by omega)⟩)
      · exfalso; omega
  · refine fz_tswC (j := 12) (tgt := 91) kX11_of rfl c1 (by decide) (by decide) rfl (by decide) ?_
    refine fz_iload_n kX11_of rfl rfl ?_
    refine fz_if_ne (tgt := 102) kX11_of rfl (by decide) (fun c37 => ?_) (fun c37 => ?_)
    · refine fz_ldc (x := (-2000000000)) kX11_of rfl rfl rfl ?_
      exact fz_iret kX11_of rfl rfl (fun _ => ⟨rfl, _, rfl, (by omega)⟩)
    · refine fz_aload_n kX11_of rfl rfl ?_
      refine fz_getV (v := h 53 34) kX11_of rfl rfl rfl ?_
      have b38 : 0 ≤ h 53 34 ∧ h 53 34 ≤ 999 := hI.1 53 _
      refine fz_goto (tgt := 104) kX11_of rfl (by decide) ?_
      exact fz_iret kX11_of rfl rfl (fun _ => ⟨rfl, _, rfl, (by omega)⟩)
  · refine fz_tswO (tgt := 105) kX11_of rfl c1 (by decide) ?_
    refine fz_aload_n kX11_of rfl rfl ?_
    refine fz_iload_n kX11_of rfl rfl ?_
    refine fz_iload_n kX11_of rfl rfl ?_
    have b39 : 0 ≤ h 53 0 ∧ h 53 0 ≤ 8 := hI.1 53 _
    have b40 : 0 ≤ h 53 2 ∧ h 53 2 ≤ 12 := hI.1 53 _
    have b41 : 0 ≤ h 53 10 ∧ h 53 10 ≤ 11 := hI.1 53 _
    refine fz_callV (d' := 2) (M' := mX11_isOf) (As := [fz_i nu, fz_i wh]) (st := []) kX11_of rfl rfl vX11_isOf rfl rfl rfl rfl (Nat.le_of_ble_eq_true rfl) (Nat.le_of_ble_eq_true rfl) (by decide) (sX11_isOf h hI nu wh ) (fun H42 r43 q44 o45 => ?_)
    obtain ⟨e46, y47, rfl, p48⟩ := q44
    subst H42
    clear o45
    rcases p48 with ⟨rfl, c49⟩ | ⟨rfl, c49⟩
    · refine fz_if_eq (tgt := 123) kX11_of rfl (by decide) (fun c50 => ?_) (fun c50 => ?_)
      · exfalso; omega
      · refine fz_aload_n kX11_of rfl rfl ?_
        refine fz_iload_n kX11_of rfl rfl ?_
        refine fz_iload_n kX11_of rfl rfl ?_
        refine fz_callV (d' := 0) (M' := mX11_get) (As := [fz_i nu, fz_i wh]) (st := []) kX11_of rfl rfl vX11_get rfl rfl rfl rfl (Nat.le_of_ble_eq_true rfl) (Nat.le_of_ble_eq_true rfl) (by decide) (sX11_get h hI nu wh (by omega)) (fun H51 r52 q53 o54 => ?_)
        obtain ⟨e55, y58, rfl, f56, f57⟩ := q53
        subst H51
        clear o54
        refine fz_goto (tgt := 125) kX11_of rfl (by decide) ?_
        exact fz_iret kX11_of rfl rfl (fun _ => ⟨rfl, _, rfl, (by omega)⟩)
    · refine fz_if_eq (tgt := 123) kX11_of rfl (by decide) (fun c59 => ?_) (fun c59 => ?_)
      · refine fz_ldc (x := (-2000000000)) kX11_of rfl rfl rfl ?_
        exact fz_iret kX11_of rfl rfl (fun _ => ⟨rfl, _, rfl, (by omega)⟩)
      · exfalso; omega

abbrev qX11_mend (h : fz_H) (nu wh v : Int) : fz_H → Option fz_V → Prop := fun h' r0 => fz_Iv h' ∧ fz_fr [(53, 8), (53, 9), (53, 41), (53, 42), (54, 99999), (57, 99999), (58, 99999), (59, 99999), (62, 99999), (63, 99999), (64, 99999), (80, 99999)] h h' ∧ fz_Xd h' ∧ ∃ r : Int, r0 = some (fz_i r) ∧ ((-2000000000) ≤ r ∧ r ≤ 999) ∧ (h' 53 42 ≤ h' 53 41)
set_option maxHeartbeats 1000000 in
set_option maxRecDepth 100000 in
theorem sX11_mend (h : fz_H) (hI : fz_Iv h) (nu wh v : Int) (hXd : fz_Xd h) (hp0 : h 53 42 ≤ h 53 41) : fz_R 3 mX11_mend 0 [(0, fz_r 53), (1, fz_i nu), (2, fz_i wh), (3, fz_i v)] [] h (qX11_mend h nu wh v) := by
  refine fz_knowl (fun hk => ?_)
  have hr_nu : -2147483648 ≤ nu ∧ nu < 2147483648 := hk _ (List.Mem.tail _ (List.Mem.head _))
  have hr_wh : -2147483648 ≤ wh ∧ wh < 2147483648 := hk _ (List.Mem.tail _ (List.Mem.tail _ (List.Mem.head _)))
  have hr_v : -2147483648 ≤ v ∧ v < 2147483648 := hk _ (List.Mem.tail _ (List.Mem.tail _ (List.Mem.tail _ (List.Mem.head _))))
  clear hk
  have hf : fz_fr [(53, 8), (53, 9), (53, 41), (53, 42), (54, 99999), (57, 99999), (58, 99999), (59, 99999), (62, 99999), (63, 99999), (64, 99999), (80, 99999)] h h := fz_fr_rf
  have b1 : 0 ≤ h 53 42 ∧ h 53 42 ≤ 40 := hI.1 53 _
  have b2 : 0 ≤ h 53 41 ∧ h 53 41 ≤ 40 := hI.1 53 _
  refine fz_aload_n kX11_mend rfl rfl ?_
  refine fz_iload_n kX11_mend rfl rfl ?_
  refine fz_iload_n kX11_mend rfl rfl ?_
  have b3 : 0 ≤ h 53 0 ∧ h 53 0 ≤ 8 := hI.1 53 _
  have b4 : 0 ≤ h 53 2 ∧ h 53 2 ≤ 12 := hI.1 53 _
  have b5 : 0 ≤ h 53 10 ∧ h 53 10 ≤ 11 := hI.1 53 _
  refine fz_callV (d' := 2) (M' := mX11_isOf) (As := [fz_i nu, fz_i wh]) (st := []) kX11_mend rfl rfl vX11_isOf rfl rfl rfl rfl (Nat.le_of_ble_eq_true rfl) (Nat.le_of_ble_eq_true rfl) (by decide) (sX11_isOf h hI nu wh ) (fun H6 r7 q8 o9 => ?_)
  obtain ⟨e10, y11, rfl, p12⟩ := q8
  subst H6
  clear o9
  rcases p12 with ⟨rfl, c13⟩ | ⟨rfl, c13⟩
  · refine fz_if_eq (tgt := 17) kX11_mend rfl (by decide) (fun c14 => ?_) (fun c14 => ?_)
    · exfalso; omega
    · have k16 : 0 ≤ wh ∧ wh ≤ 8 := by omega
      refine fz_iload_n kX11_mend rfl rfl ?_
      refine fz_iload_n kX11_mend rfl rfl ?_
      refine fz_callS (d' := 2) (M' := mX11_isFit) (As := [fz_i wh, fz_i v]) (st := []) kX11_mend rfl rfl vX11_isFit rfl rfl (Nat.le_of_ble_eq_true rfl) (Nat.le_of_ble_eq_true rfl) (by decide) (sX11_isFit h hI wh v (by omega)) (fun H17 r18 q19 o20 => ?_)
      obtain ⟨e21, y23, rfl, p24, f22⟩ := q19
      subst H17
      clear o20
      refine fz_if_ne (tgt := 20) kX11_mend rfl (by decide) (fun c25 => ?_) (fun c25 => ?_)
      · refine fz_aload_n kX11_mend rfl rfl ?_
        refine fz_iload_n kX11_mend rfl rfl ?_
        refine fz_iload_n kX11_mend rfl rfl ?_
        refine fz_callV (d' := 0) (M' := mX11_get) (As := [fz_i nu, fz_i wh]) (st := []) kX11_mend rfl rfl vX11_get rfl rfl rfl rfl (Nat.le_of_ble_eq_true rfl) (Nat.le_of_ble_eq_true rfl) (by decide) (sX11_get h hI nu wh (by omega)) (fun H26 r27 q28 o29 => ?_)
        obtain ⟨e30, y33, rfl, f31, f32⟩ := q28
        subst H26
        clear o29
        refine fz_istore (ls' := [(4, fz_i y33), (0, fz_r 53), (1, fz_i nu), (2, fz_i wh), (3, fz_i v)]) kX11_mend rfl (by decide) rfl ?_
        refine fz_iload kX11_mend rfl rfl ?_
        refine fz_iload_n kX11_mend rfl rfl ?_
        refine fz_icmp_ne (tgt := 37) kX11_mend rfl (by decide) (fun c34 => ?_) (fun c34 => ?_)
        · have k35 := fz_om_of c13 (show fz_ft wh v 1 from fun _ => f22 (by omega))
          have k37 := k35
          have k39 := fz_om_b k35
          have k40 := fz_om_b f32
          refine fz_aload_n kX11_mend rfl rfl ?_
          refine fz_iload_n kX11_mend rfl rfl ?_
          refine fz_iload_n kX11_mend rfl rfl ?_
          refine fz_iload_n kX11_mend rfl rfl ?_
          refine fz_callV (d' := 0) (M' := mX11_becomes) (As := [fz_i nu, fz_i wh, fz_i v]) (st := []) kX11_mend rfl rfl vX11_becomes rfl rfl rfl rfl (Nat.le_of_ble_eq_true rfl) (Nat.le_of_ble_eq_true rfl) (by decide) (sX11_becomes h hI nu wh v (by omega) k35) (fun H41 r42 q43 o44 => ?_)
          obtain ⟨hI45, hf46, rfl⟩ := q43
          clear o44
          have hf47 := fz_fr_tr hf hf46 (show fz_su [(53, 8), (53, 9), (54, 99999), (57, 99999), (58, 99999), (59, 99999), (62, 99999), (63, 99999), (64, 99999)] [(53, 8), (53, 9), (53, 41), (53, 42), (54, 99999), (57, 99999), (58, 99999), (59, 99999), (62, 99999), (63, 99999), (64, 99999), (80, 99999)] = true from rfl)
          have k48 : H41 53 42 = (h 53 42) := (hf46 53 42 rfl).trans rfl
          have k49 : H41 53 41 = (h 53 41) := (hf46 53 41 rfl).trans rfl
          have hXd50 : fz_Xd H41 := fz_Xd_eq (funext fun s => hf46 80 s rfl) hXd
          refine fz_aload_n kX11_mend rfl rfl ?_
          refine fz_getV (v := (h 53 42)) kX11_mend rfl rfl k48 ?_
          refine fz_bipush ⟨by decide, by decide⟩ kX11_mend rfl ?_
          refine fz_icmp_ne (tgt := 96) kX11_mend rfl (by decide) (fun c51 => ?_) (fun c51 => ?_)
          · have k52 := fun c => fz_Xx_of (c := c) hXd50
            refine fz_aload_n kX11_mend rfl rfl ?_
            refine fz_getR (t := 80) kX11_mend rfl rfl ?_
            refine fz_iconst ⟨by decide, by decide⟩ kX11_mend rfl ?_
            refine fz_aload_n kX11_mend rfl rfl ?_
            refine fz_getV (v := (h 53 42)) kX11_mend rfl rfl k48 ?_
            refine fz_imulN kX11_mend rfl (by omega) ?_
            refine fz_iload_n kX11_mend rfl rfl ?_
            refine fz_iast (n := 160) kX11_mend rfl rfl (by omega) (by omega) ?_
            refine fz_nmu (S := [(53, 8), (53, 9), (53, 41), (53, 42), (54, 99999), (57, 99999), (58, 99999), (59, 99999), (62, 99999), (63, 99999), (64, 99999), (80, 99999)]) (h0 := h) (fz_Iv_up hI45 (by decide) (show (-2147483648) ≤ nu by omega) (show nu ≤ 2147483647 by omega)) (fz_fr_up hf47 rfl) (fun H54 hI55 hf56 e57 => ?_)
            have k58 : H54 53 42 = (h 53 42) := by rw [e57]; exact (fz_up_o (by decide)).trans k48
            have k59 : H54 53 41 = (h 53 41) := by rw [e57]; exact (fz_up_o (by decide)).trans k49
            refine fz_aload_n kX11_mend rfl rfl ?_
            refine fz_getR (t := 80) kX11_mend rfl rfl ?_
            refine fz_iconst ⟨by decide, by decide⟩ kX11_mend rfl ?_
            refine fz_aload_n kX11_mend rfl rfl ?_
            refine fz_getV (v := (h 53 42)) kX11_mend rfl rfl k58 ?_
            refine fz_imulN kX11_mend rfl (by omega) ?_
            refine fz_iconst ⟨by decide, by decide⟩ kX11_mend rfl ?_
            refine fz_iaddN kX11_mend rfl (by omega) ?_
            refine fz_iload_n kX11_mend rfl rfl ?_
            refine fz_iast (n := 160) kX11_mend rfl rfl (by omega) (by omega) ?_
            refine fz_nmu (S := [(53, 8), (53, 9), (53, 41), (53, 42), (54, 99999), (57, 99999), (58, 99999), (59, 99999), (62, 99999), (63, 99999), (64, 99999), (80, 99999)]) (h0 := h) (fz_Iv_up hI55 (by decide) (show (-2147483648) ≤ wh by omega) (show wh ≤ 2147483647 by omega)) (fz_fr_up hf56 rfl) (fun H61 hI62 hf63 e64 => ?_)
            have k65 : H61 53 42 = (h 53 42) := by rw [e64]; exact (fz_up_o (by decide)).trans k58
            have k66 : H61 53 41 = (h 53 41) := by rw [e64]; exact (fz_up_o (by decide)).trans k59
            refine fz_aload_n kX11_mend rfl rfl ?_
            refine fz_getR (t := 80) kX11_mend rfl rfl ?_
            refine fz_iconst ⟨by decide, by decide⟩ kX11_mend rfl ?_
            refine fz_aload_n kX11_mend rfl rfl ?_
            refine fz_getV (v := (h 53 42)) kX11_mend rfl rfl k65 ?_
            refine fz_imulN kX11_mend rfl (by omega) ?_
            refine fz_iconst ⟨by decide, by decide⟩ kX11_mend rfl ?_
            refine fz_iaddN kX11_mend rfl (by omega) ?_
            refine fz_iload kX11_mend rfl rfl ?_
            refine fz_iast (n := 160) kX11_mend rfl rfl (by omega) (by omega) ?_
            refine fz_nmu (S := [(53, 8), (53, 9), (53, 41), (53, 42), (54, 99999), (57, 99999), (58, 99999), (59, 99999), (62, 99999), (63, 99999), (64, 99999), (80, 99999)]) (h0 := h) (fz_Iv_up hI62 (by decide) (show (-2147483648) ≤ y33 by omega) (show y33 ≤ 2147483647 by omega)) (fz_fr_up hf63 rfl) (fun H67 hI68 hf69 e70 => ?_)
            have k71 : H67 53 42 = (h 53 42) := by rw [e70]; exact (fz_up_o (by decide)).trans k65
            have k72 : H67 53 41 = (h 53 41) := by rw [e70]; exact (fz_up_o (by decide)).trans k66
            refine fz_aload_n kX11_mend rfl rfl ?_
            refine fz_getR (t := 80) kX11_mend rfl rfl ?_
            refine fz_iconst ⟨by decide, by decide⟩ kX11_mend rfl ?_
            refine fz_aload_n kX11_mend rfl rfl ?_
            refine fz_getV (v := (h 53 42)) kX11_mend rfl rfl k71 ?_
            refine fz_imulN kX11_mend rfl (by omega) ?_
            refine fz_iconst ⟨by decide, by decide⟩ kX11_mend rfl ?_
            refine fz_iaddN kX11_mend rfl (by omega) ?_
            refine fz_iload_n kX11_mend rfl rfl ?_
            refine fz_iast (n := 160) kX11_mend rfl rfl (by omega) (by omega) ?_
            refine fz_nmu (S := [(53, 8), (53, 9), (53, 41), (53, 42), (54, 99999), (57, 99999), (58, 99999), (59, 99999), (62, 99999), (63, 99999), (64, 99999), (80, 99999)]) (h0 := h) (fz_Iv_up hI68 (by decide) (show (-2147483648) ≤ v by omega) (show v ≤ 2147483647 by omega)) (fz_fr_up hf69 rfl) (fun H73 hI74 hf75 e76 => ?_)
            have k77 : H73 53 42 = (h 53 42) := by rw [e76]; exact (fz_up_o (by decide)).trans k71
            have k78 : H73 53 41 = (h 53 41) := by rw [e76]; exact (fz_up_o (by decide)).trans k72
            have hXd79 : fz_Xd H73 := by first | exact fz_Xd_4 (k52 _) (by omega) rfl e57 e64 e70 e76 f32 k37 | exact fz_Xd_4 (k52 0) (by omega) (by omega) e57 e64 e70 e76 f32 k37
            refine fz_aload_n kX11_mend rfl rfl ?_
            refine fz_dup rfl kX11_mend rfl ?_
            refine fz_getV (v := (h 53 42)) kX11_mend rfl rfl k77 ?_
            refine fz_iconst ⟨by decide, by decide⟩ kX11_mend rfl ?_
            refine fz_iaddN kX11_mend rfl (by omega) ?_
            refine fz_putI kX11_mend rfl rfl rfl ?_
            refine fz_nmu (S := [(53, 8), (53, 9), (53, 41), (53, 42), (54, 99999), (57, 99999), (58, 99999), (59, 99999), (62, 99999), (63, 99999), (64, 99999), (80, 99999)]) (h0 := h) (fz_Iv_up hI74 (by decide) (show 0 ≤ ((h 53 42) + 1) by omega) (show ((h 53 42) + 1) ≤ 40 by omega)) (fz_fr_up hf75 rfl) (fun H81 hI82 hf83 e84 => ?_)
            have k85 : H81 53 41 = (h 53 41) := by rw [e84]; exact (fz_up_s (by decide)).trans k78
            have k86 : H81 53 42 = ((h 53 42) + 1) := by rw [e84]; exact fz_up_e
            have hXd87 : fz_Xd H81 := fz_Xd_eq (by rw [e84]; exact fz_up_ne (by decide)) hXd79
            refine fz_aload_n kX11_mend rfl rfl ?_
            refine fz_aload_n kX11_mend rfl rfl ?_
            refine fz_getV (v := ((h 53 42) + 1)) kX11_mend rfl rfl k86 ?_
            refine fz_putI kX11_mend rfl rfl rfl ?_
            refine fz_nmu (S := [(53, 8), (53, 9), (53, 41), (53, 42), (54, 99999), (57, 99999), (58, 99999), (59, 99999), (62, 99999), (63, 99999), (64, 99999), (80, 99999)]) (h0 := h) (fz_Iv_up hI82 (by decide) (show 0 ≤ ((h 53 42) + 1) by omega) (show ((h 53 42) + 1) ≤ 40 by omega)) (fz_fr_up hf83 rfl) (fun H88 hI89 hf90 e91 => ?_)
            have k92 : H88 53 42 = ((h 53 42) + 1) := by rw [e91]; exact (fz_up_s (by decide)).trans k86
            have k93 : H88 53 41 = ((h 53 42) + 1) := by rw [e91]; exact fz_up_e
            have hXd94 : fz_Xd H88 := fz_Xd_eq (by rw [e91]; exact fz_up_ne (by decide)) hXd87
            refine fz_iload kX11_mend rfl rfl ?_
            exact fz_iret kX11_mend rfl rfl (fun _ => ⟨hI89, hf90, hXd94, _, rfl, (by omega), (by omega)⟩)
          · have k95 := fz_Xs_0 hXd50
            refine fz_iconst ⟨by decide, by decide⟩ kX11_mend rfl ?_
            refine fz_istore (ls' := [(5, fz_i 0), (4, fz_i y33), (0, fz_r 53), (1, fz_i nu), (2, fz_i wh), (3, fz_i v)]) kX11_mend rfl (by decide) rfl ?_
            have lp102 : ∀ (n101 : Nat) (x97 : Int) (H98 : fz_H), fz_Iv H98 → fz_fr [(53, 8), (53, 9), (53, 41), (53, 42), (54, 99999), (57, 99999), (58, 99999), (59, 99999), (62, 99999), (63, 99999), (64, 99999), (80, 99999)] h H98 → (0 ≤ x97 ∧ x97 ≤ 156) → (H98 53 42 = 40) → (fz_Xs H98 x97) → (156 - x97).toNat < n101 → fz_R 3 mX11_mend 56 [(5, fz_i x97), (4, fz_i y33), (0, fz_r 53), (1, fz_i nu), (2, fz_i wh), (3, fz_i v)] [] H98 (qX11_mend h nu wh v) := by
              intro n101
              induction n101 with
              | zero => intro x97 H98 hI99 hf100 hv105 hv106 hv107 hm104; exact absurd hm104 (by omega)
              | succ n101 ih103 =>
                intro x97 H98 hI99 hf100 hv105 hv106 hv107 hm104
                refine fz_iload kX11_mend rfl rfl ?_
                refine fz_sipush ⟨by decide, by decide⟩ kX11_mend rfl ?_
                refine fz_icmp_ge (tgt := 86) kX11_mend rfl (by decide) (fun c108 => ?_) (fun c108 => ?_)
                · refine fz_aload_n kX11_mend rfl rfl ?_
                  refine fz_dup rfl kX11_mend rfl ?_
                  obtain ⟨v109, e110⟩ : ∃ z, H98 53 (42) = z := ⟨_, rfl⟩
                  refine fz_getV (v := v109) kX11_mend rfl rfl e110 ?_
                  have b111 : 0 ≤ v109 ∧ v109 ≤ 40 := by rw [← e110]; exact hI99.1 53 _
                  refine fz_iconst ⟨by decide, by decide⟩ kX11_mend rfl ?_
                  refine fz_isubN kX11_mend rfl (by omega) ?_
                  refine fz_putI kX11_mend rfl rfl rfl ?_
                  refine fz_nmu (S := [(53, 8), (53, 9), (53, 41), (53, 42), (54, 99999), (57, 99999), (58, 99999), (59, 99999), (62, 99999), (63, 99999), (64, 99999), (80, 99999)]) (h0 := h) (fz_Iv_up hI99 (by decide) (show 0 ≤ (v109 - 1) by omega) (show (v109 - 1) ≤ 40 by omega)) (fz_fr_up hf100 rfl) (fun H112 hI113 hf114 e115 => ?_)
                  have k116 : H112 53 42 = (v109 - 1) := by rw [e115]; exact fz_up_e
                  have k117 := fun (_ : Nat) => fz_Xx_B hv107 (by omega) e115
                  refine fz_aload_n kX11_mend rfl rfl ?_
                  refine fz_getR (t := 80) kX11_mend rfl rfl ?_
                  refine fz_iconst ⟨by decide, by decide⟩ kX11_mend rfl ?_
                  refine fz_aload_n kX11_mend rfl rfl ?_
                  refine fz_getV (v := (v109 - 1)) kX11_mend rfl rfl k116 ?_
                  refine fz_imulN kX11_mend rfl (by omega) ?_
                  refine fz_iload_n kX11_mend rfl rfl ?_
                  refine fz_iast (n := 160) kX11_mend rfl rfl (by omega) (by omega) ?_
                  refine fz_nmu (S := [(53, 8), (53, 9), (53, 41), (53, 42), (54, 99999), (57, 99999), (58, 99999), (59, 99999), (62, 99999), (63, 99999), (64, 99999), (80, 99999)]) (h0 := h) (fz_Iv_up hI113 (by decide) (show (-2147483648) ≤ nu by omega) (show nu ≤ 2147483647 by omega)) (fz_fr_up hf114 rfl) (fun H119 hI120 hf121 e122 => ?_)
                  have k123 : H119 53 42 = (v109 - 1) := by rw [e122]; exact (fz_up_o (by decide)).trans k116
                  refine fz_aload_n kX11_mend rfl rfl ?_
                  refine fz_getR (t := 80) kX11_mend rfl rfl ?_
                  refine fz_iconst ⟨by decide, by decide⟩ kX11_mend rfl ?_
                  refine fz_aload_n kX11_mend rfl rfl ?_
                  refine fz_getV (v := (v109 - 1)) kX11_mend rfl rfl k123 ?_
                  refine fz_imulN kX11_mend rfl (by omega) ?_
                  refine fz_iconst ⟨by decide, by decide⟩ kX11_mend rfl ?_
                  refine fz_iaddN kX11_mend rfl (by omega) ?_
                  refine fz_iload_n kX11_mend rfl rfl ?_
                  refine fz_iast (n := 160) kX11_mend rfl rfl (by omega) (by omega) ?_
                  refine fz_nmu (S := [(53, 8), (53, 9), (53, 41), (53, 42), (54, 99999), (57, 99999), (58, 99999), (59, 99999), (62, 99999), (63, 99999), (64, 99999), (80, 99999)]) (h0 := h) (fz_Iv_up hI120 (by decide) (show (-2147483648) ≤ wh by omega) (show wh ≤ 2147483647 by omega)) (fz_fr_up hf121 rfl) (fun H124 hI125 hf126 e127 => ?_)
                  have k128 : H124 53 42 = (v109 - 1) := by rw [e127]; exact (fz_up_o (by decide)).trans k123
                  refine fz_aload_n kX11_mend rfl rfl ?_
                  refine fz_getR (t := 80) kX11_mend rfl rfl ?_
                  refine fz_iconst ⟨by decide, by decide⟩ kX11_mend rfl ?_
                  refine fz_aload_n kX11_mend rfl rfl ?_
                  refine fz_getV (v := (v109 - 1)) kX11_mend rfl rfl k128 ?_
                  refine fz_imulN kX11_mend rfl (by omega) ?_
                  refine fz_iconst ⟨by decide, by decide⟩ kX11_mend rfl ?_
                  refine fz_iaddN kX11_mend rfl (by omega) ?_
                  refine fz_iload kX11_mend rfl rfl ?_
                  refine fz_iast (n := 160) kX11_mend rfl rfl (by omega) (by omega) ?_
                  refine fz_nmu (S := [(53, 8), (53, 9), (53, 41), (53, 42), (54, 99999), (57, 99999), (58, 99999), (59, 99999), (62, 99999), (63, 99999), (64, 99999), (80, 99999)]) (h0 := h) (fz_Iv_up hI125 (by decide) (show (-2147483648) ≤ y33 by omega) (show y33 ≤ 2147483647 by omega)) (fz_fr_up hf126 rfl) (fun H129 hI130 hf131 e132 => ?_)
                  have k133 : H129 53 42 = (v109 - 1) := by rw [e132]; exact (fz_up_o (by decide)).trans k128
                  refine fz_aload_n kX11_mend rfl rfl ?_
                  refine fz_getR (t := 80) kX11_mend rfl rfl ?_
                  refine fz_iconst ⟨by decide, by decide⟩ kX11_mend rfl ?_
                  refine fz_aload_n kX11_mend rfl rfl ?_
                  refine fz_getV (v := (v109 - 1)) kX11_mend rfl rfl k133 ?_
                  refine fz_imulN kX11_mend rfl (by omega) ?_
                  refine fz_iconst ⟨by decide, by decide⟩ kX11_mend rfl ?_
                  refine fz_iaddN kX11_mend rfl (by omega) ?_
                  refine fz_iload_n kX11_mend rfl rfl ?_
                  refine fz_iast (n := 160) kX11_mend rfl rfl (by omega) (by omega) ?_
                  refine fz_nmu (S := [(53, 8), (53, 9), (53, 41), (53, 42), (54, 99999), (57, 99999), (58, 99999), (59, 99999), (62, 99999), (63, 99999), (64, 99999), (80, 99999)]) (h0 := h) (fz_Iv_up hI130 (by decide) (show (-2147483648) ≤ v by omega) (show v ≤ 2147483647 by omega)) (fz_fr_up hf131 rfl) (fun H134 hI135 hf136 e137 => ?_)
                  have k138 : H134 53 42 = (v109 - 1) := by rw [e137]; exact (fz_up_o (by decide)).trans k133
                  have hXd139 : fz_Xd H134 := by first | exact fz_Xd_4 (k117 _) (by omega) rfl e122 e127 e132 e137 f32 k37 | exact fz_Xd_4 (k117 0) (by omega) (by omega) e122 e127 e132 e137 f32 k37
                  refine fz_aload_n kX11_mend rfl rfl ?_
                  refine fz_dup rfl kX11_mend rfl ?_
                  refine fz_getV (v := (v109 - 1)) kX11_mend rfl rfl k138 ?_
                  refine fz_iconst ⟨by decide, by decide⟩ kX11_mend rfl ?_
                  refine fz_iaddN kX11_mend rfl (by omega) ?_
                  refine fz_putI kX11_mend rfl rfl rfl ?_
                  refine fz_nmu (S := [(53, 8), (53, 9), (53, 41), (53, 42), (54, 99999), (57, 99999), (58, 99999), (59, 99999), (62, 99999), (63, 99999), (64, 99999), (80, 99999)]) (h0 := h) (fz_Iv_up hI135 (by decide) (show 0 ≤ ((v109 - 1) + 1) by omega) (show ((v109 - 1) + 1) ≤ 40 by omega)) (fz_fr_up hf136 rfl) (fun H141 hI142 hf143 e144 => ?_)
                  have k145 : H141 53 42 = ((v109 - 1) + 1) := by rw [e144]; exact fz_up_e
                  have hXd146 : fz_Xd H141 := fz_Xd_eq (by rw [e144]; exact fz_up_ne (by decide)) hXd139
                  refine fz_aload_n kX11_mend rfl rfl ?_
                  refine fz_aload_n kX11_mend rfl rfl ?_
                  refine fz_getV (v := ((v109 - 1) + 1)) kX11_mend rfl rfl k145 ?_
                  refine fz_putI kX11_mend rfl rfl rfl ?_
                  refine fz_nmu (S := [(53, 8), (53, 9), (53, 41), (53, 42), (54, 99999), (57, 99999), (58, 99999), (59, 99999), (62, 99999), (63, 99999), (64, 99999), (80, 99999)]) (h0 := h) (fz_Iv_up hI142 (by decide) (show 0 ≤ ((v109 - 1) + 1) by omega) (show ((v109 - 1) + 1) ≤ 40 by omega)) (fz_fr_up hf143 rfl) (fun H147 hI148 hf149 e150 => ?_)
                  have k151 : H147 53 42 = ((v109 - 1) + 1) := by rw [e150]; exact (fz_up_s (by decide)).trans k145
                  have k152 : H147 53 41 = ((v109 - 1) + 1) := by rw [e150]; exact fz_up_e
                  have hXd153 : fz_Xd H147 := fz_Xd_eq (by rw [e150]; exact fz_up_ne (by decide)) hXd146
                  refine fz_iload kX11_mend rfl rfl ?_
                  exact fz_iret kX11_mend rfl rfl (fun _ => ⟨hI148, hf149, hXd153, _, rfl, (by omega), (by omega)⟩)
                · refine fz_aload_n kX11_mend rfl rfl ?_
                  refine fz_getR (t := 80) kX11_mend rfl rfl ?_
                  refine fz_iload kX11_mend rfl rfl ?_
                  refine fz_aload_n kX11_mend rfl rfl ?_
                  refine fz_getR (t := 80) kX11_mend rfl rfl ?_
                  refine fz_iload kX11_mend rfl rfl ?_
                  refine fz_iconst ⟨by decide, by decide⟩ kX11_mend rfl ?_
                  refine fz_iaddN kX11_mend rfl (by omega) ?_
                  obtain ⟨v154, e155⟩ : ∃ z, H98 80 ((x97 + 4).toNat) = z := ⟨_, rfl⟩
                  refine fz_ialdV (n := 160) (v := v154) kX11_mend rfl rfl (by omega) (by omega) e155 ?_
                  have b156 : (-2147483648) ≤ v154 ∧ v154 ≤ 2147483647 := by rw [← e155]; exact hI99.1 80 _
                  refine fz_iast (n := 160) kX11_mend rfl rfl (by omega) (by omega) ?_
                  refine fz_nmu (S := [(53, 8), (53, 9), (53, 41), (53, 42), (54, 99999), (57, 99999), (58, 99999), (59, 99999), (62, 99999), (63, 99999), (64, 99999), (80, 99999)]) (h0 := h) (fz_Iv_up hI99 (by decide) (show (-2147483648) ≤ v154 by omega) (show v154 ≤ 2147483647 by omega)) (fz_fr_up hf100 rfl) (fun H157 hI158 hf159 e160 => ?_)
                  refine fz_iincN (ls' := [(5, fz_i (x97 + 1)), (4, fz_i y33), (0, fz_r 53), (1, fz_i nu), (2, fz_i wh), (3, fz_i v)]) kX11_mend rfl (by decide) rfl (by omega) rfl ?_
                  refine fz_goto (tgt := 56) kX11_mend rfl (by decide) ?_
                  exact ih103 (x97 + 1) H157 hI158 hf159 (by omega) (by rw [e160]; exact (fz_up_o (by decide)).trans hv106) (by rw [e160]; exact fz_Xs_st hv107 (by omega) e155) (by omega)
            exact lp102 _ 0 H41 hI45 hf47 (by omega) (by omega) (k95) (Nat.lt_succ_self _)
        · refine fz_iload kX11_mend rfl rfl ?_
          exact fz_iret kX11_mend rfl rfl (fun _ => ⟨hI, hf, hXd, _, rfl, (by omega), (by omega)⟩)
      · refine fz_ldc (x := (-2000000000)) kX11_mend rfl rfl rfl ?_
        exact fz_iret kX11_mend rfl rfl (fun _ => ⟨hI, hf, hXd, _, rfl, (by omega), (by omega)⟩)
  · refine fz_if_eq (tgt := 17) kX11_mend rfl (by decide) (fun c165 => ?_) (fun c165 => ?_)
    · refine fz_ldc (x := (-2000000000)) kX11_mend rfl rfl rfl ?_
      exact fz_iret kX11_mend rfl rfl (fun _ => ⟨hI, hf, hXd, _, rfl, (by omega), (by omega)⟩)
    · exfalso; omega

abbrev qX11_undo (h : fz_H) : fz_H → Option fz_V → Prop := fun h' r0 => fz_Iv h' ∧ fz_fr [(53, 8), (53, 9), (53, 42), (54, 99999), (57, 99999), (58, 99999), (59, 99999), (62, 99999), (63, 99999), (64, 99999)] h h' ∧ fz_Xd h' ∧ ∃ r : Int, r0 = some (fz_i r) ∧ ((-5) ≤ r ∧ r ≤ 39) ∧ (h' 53 42 ≤ h' 53 41)
set_option maxHeartbeats 1000000 in
set_option maxRecDepth 100000 in
theorem sX11_undo (h : fz_H) (hI : fz_Iv h) (hXd : fz_Xd h) (hp0 : h 53 42 ≤ h 53 41) : fz_R 1 mX11_undo 0 [(0, fz_r 53)] [] h (qX11_undo h) := by
  have hf : fz_fr [(53, 8), (53, 9), (53, 42), (54, 99999), (57, 99999), (58, 99999), (59, 99999), (62, 99999), (63, 99999), (64, 99999)] h h := fz_fr_rf
  have b1 : 0 ≤ h 53 42 ∧ h 53 42 ≤ 40 := hI.1 53 _
  have b2 : 0 ≤ h 53 41 ∧ h 53 41 ≤ 40 := hI.1 53 _
  refine fz_aload_n kX11_undo rfl rfl ?_
  refine fz_getV (v := h 53 42) kX11_undo rfl rfl rfl ?_
  have b3 : 0 ≤ h 53 42 ∧ h 53 42 ≤ 40 := hI.1 53 _
  refine fz_if_ne (tgt := 10) kX11_undo rfl (by decide) (fun c4 => ?_) (fun c4 => ?_)
  · refine fz_aload_n kX11_undo rfl rfl ?_
    refine fz_dup rfl kX11_undo rfl ?_
    refine fz_getV (v := h 53 42) kX11_undo rfl rfl rfl ?_
    refine fz_iconst ⟨by decide, by decide⟩ kX11_undo rfl ?_
    refine fz_isubN kX11_undo rfl (by omega) ?_
    refine fz_putI kX11_undo rfl rfl rfl ?_
    refine fz_nmu (S := [(53, 8), (53, 9), (53, 42), (54, 99999), (57, 99999), (58, 99999), (59, 99999), (62, 99999), (63, 99999), (64, 99999)]) (h0 := h) (fz_Iv_up hI (by decide) (show 0 ≤ ((h 53 42) - 1) by omega) (show ((h 53 42) - 1) ≤ 40 by omega)) (fz_fr_up hf rfl) (fun H5 hI6 hf7 e8 => ?_)
    have k9 : H5 53 42 = ((h 53 42) - 1) := by rw [e8]; exact fz_up_e
    have hXd10 : fz_Xd H5 := fz_Xd_eq (by rw [e8]; exact fz_up_ne (by decide)) hXd
    clear e8
    refine fz_aload_n kX11_undo rfl rfl ?_
    refine fz_aload_n kX11_undo rfl rfl ?_
    refine fz_getR (t := 80) kX11_undo rfl rfl ?_
    refine fz_iconst ⟨by decide, by decide⟩ kX11_undo rfl ?_
    refine fz_aload_n kX11_undo rfl rfl ?_
    refine fz_getV (v := ((h 53 42) - 1)) kX11_undo rfl rfl k9 ?_
    refine fz_imulN kX11_undo rfl (by omega) ?_
    refine fz_ialdV (n := 160) (v := h 80 ((4 * ((h 53 42) - 1)).toNat)) kX11_undo rfl rfl (by omega) (by omega) (hf7 80 _ rfl) ?_
    have b11 : (-2147483648) ≤ h 80 ((4 * ((h 53 42) - 1)).toNat) ∧ h 80 ((4 * ((h 53 42) - 1)).toNat) ≤ 2147483647 := hI.1 80 _
    refine fz_aload_n kX11_undo rfl rfl ?_
    refine fz_getR (t := 80) kX11_undo rfl rfl ?_
    refine fz_iconst ⟨by decide, by decide⟩ kX11_undo rfl ?_
    refine fz_aload_n kX11_undo rfl rfl ?_
    refine fz_getV (v := ((h 53 42) - 1)) kX11_undo rfl rfl k9 ?_
    refine fz_imulN kX11_undo rfl (by omega) ?_
    refine fz_iconst ⟨by decide, by decide⟩ kX11_undo rfl ?_
    refine fz_iaddN kX11_undo rfl (by omega) ?_
    refine fz_ialdV (n := 160) (v := h 80 (((4 * ((h 53 42) - 1)) + 1).toNat)) kX11_undo rfl rfl (by omega) (by omega) (hf7 80 _ rfl) ?_
    have b12 : (-2147483648) ≤ h 80 (((4 * ((h 53 42) - 1)) + 1).toNat) ∧ h 80 (((4 * ((h 53 42) - 1)) + 1).toNat) ≤ 2147483647 := hI.1 80 _
    refine fz_aload_n kX11_undo rfl rfl ?_
    refine fz_getR (t := 80) kX11_undo rfl rfl ?_
    refine fz_iconst ⟨by decide, by decide⟩ kX11_undo rfl ?_
    refine fz_aload_n kX11_undo rfl rfl ?_
    refine fz_getV (v := ((h 53 42) - 1)) kX11_undo rfl rfl k9 ?_
    refine fz_imulN kX11_undo rfl (by omega) ?_
    refine fz_iconst ⟨by decide, by decide⟩ kX11_undo rfl ?_
    refine fz_iaddN kX11_undo rfl (by omega) ?_
    refine fz_ialdV (n := 160) (v := h 80 (((4 * ((h 53 42) - 1)) + 2).toNat)) kX11_undo rfl rfl (by omega) (by omega) (hf7 80 _ rfl) ?_
    have b13 : (-2147483648) ≤ h 80 (((4 * ((h 53 42) - 1)) + 2).toNat) ∧ h 80 (((4 * ((h 53 42) - 1)) + 2).toNat) ≤ 2147483647 := hI.1 80 _
    have k14 : fz_om (h 80 ((4 * ((h 53 42) - 1)).toNat)) (h 80 (((4 * ((h 53 42) - 1)) + 1).toNat)) (h 80 (((4 * ((h 53 42) - 1)) + 2).toNat)) := fz_Xd_g1 hXd (by omega)
    have k16 := fz_om_b k14
    refine fz_callV (d' := 0) (M' := mX11_becomes) (As := [fz_i (h 80 ((4 * ((h 53 42) - 1)).toNat)), fz_i (h 80 (((4 * ((h 53 42) - 1)) + 1).toNat)), fz_i (h 80 (((4 * ((h 53 42) - 1)) + 2).toNat))]) (st := []) kX11_undo rfl rfl vX11_becomes rfl rfl rfl rfl (Nat.le_of_ble_eq_true rfl) (Nat.le_of_ble_eq_true rfl) (by decide) (sX11_becomes H5 hI6 (h 80 ((4 * ((h 53 42) - 1)).toNat)) (h 80 (((4 * ((h 53 42) - 1)) + 1).toNat)) (h 80 (((4 * ((h 53 42) - 1)) + 2).toNat)) (by omega) k14) (fun H17 r18 q19 o20 => ?_)
    obtain ⟨hI21, hf22, rfl⟩ := q19
    clear o20
    have hf23 := fz_fr_tr hf7 hf22 (show fz_su [(53, 8), (53, 9), (54, 99999), (57, 99999), (58, 99999), (59, 99999), (62, 99999), (63, 99999), (64, 99999)] [(53, 8), (53, 9), (53, 42), (54, 99999), (57, 99999), (58, 99999), (59, 99999), (62, 99999), (63, 99999), (64, 99999)] = true from rfl)
    have k24 : H17 53 42 = ((h 53 42) - 1) := (hf22 53 42 rfl).trans k9
    have hXd25 : fz_Xd H17 := fz_Xd_eq (funext fun s => hf22 80 s rfl) hXd10
    have k26 : H17 53 41 = h 53 41 := hf23 53 41 rfl
    refine fz_aload_n kX11_undo rfl rfl ?_
    refine fz_getV (v := ((h 53 42) - 1)) kX11_undo rfl rfl k24 ?_
    exact fz_iret kX11_undo rfl rfl (fun _ => ⟨hI21, hf23, hXd25, _, rfl, (by omega), (by omega)⟩)
  · refine fz_bipush ⟨by decide, by decide⟩ kX11_undo rfl ?_
    exact fz_iret kX11_undo rfl rfl (fun _ => ⟨hI, hf, hXd, _, rfl, (by omega), (by omega)⟩)

abbrev qX11_redo (h : fz_H) : fz_H → Option fz_V → Prop := fun h' r0 => fz_Iv h' ∧ fz_fr [(53, 8), (53, 9), (53, 42), (54, 99999), (57, 99999), (58, 99999), (59, 99999), (62, 99999), (63, 99999), (64, 99999)] h h' ∧ fz_Xd h' ∧ ∃ r : Int, r0 = some (fz_i r) ∧ ((-40) ≤ r ∧ r ≤ 39) ∧ (h' 53 42 ≤ h' 53 41)
set_option maxHeartbeats 1000000 in
set_option maxRecDepth 100000 in
theorem sX11_redo (h : fz_H) (hI : fz_Iv h) (hXd : fz_Xd h) (hp0 : h 53 42 ≤ h 53 41) : fz_R 1 mX11_redo 0 [(0, fz_r 53)] [] h (qX11_redo h) := by
  have hf : fz_fr [(53, 8), (53, 9), (53, 42), (54, 99999), (57, 99999), (58, 99999), (59, 99999), (62, 99999), (63, 99999), (64, 99999)] h h := fz_fr_rf
  have b1 : 0 ≤ h 53 42 ∧ h 53 42 ≤ 40 := hI.1 53 _
  have b2 : 0 ≤ h 53 41 ∧ h 53 41 ≤ 40 := hI.1 53 _
  refine fz_aload_n kX11_redo rfl rfl ?_
  refine fz_getV (v := h 53 42) kX11_redo rfl rfl rfl ?_
  have b3 : 0 ≤ h 53 42 ∧ h 53 42 ≤ 40 := hI.1 53 _
  refine fz_aload_n kX11_redo rfl rfl ?_
  refine fz_getV (v := h 53 41) kX11_redo rfl rfl rfl ?_
  have b4 : 0 ≤ h 53 41 ∧ h 53 41 ≤ 40 := hI.1 53 _
  refine fz_icmp_ne (tgt := 14) kX11_redo rfl (by decide) (fun c5 => ?_) (fun c5 => ?_)
  · refine fz_aload_n kX11_redo rfl rfl ?_
    refine fz_aload_n kX11_redo rfl rfl ?_
    refine fz_getR (t := 80) kX11_redo rfl rfl ?_
    refine fz_iconst ⟨by decide, by decide⟩ kX11_redo rfl ?_
    refine fz_aload_n kX11_redo rfl rfl ?_
    refine fz_getV (v := h 53 42) kX11_redo rfl rfl rfl ?_
    refine fz_imulN kX11_redo rfl (by omega) ?_
    refine fz_ialdV (n := 160) (v := h 80 ((4 * (h 53 42)).toNat)) kX11_redo rfl rfl (by omega) (by omega) rfl ?_
    have b6 : (-2147483648) ≤ h 80 ((4 * (h 53 42)).toNat) ∧ h 80 ((4 * (h 53 42)).toNat) ≤ 2147483647 := hI.1 80 _
    refine fz_aload_n kX11_redo rfl rfl ?_
    refine fz_getR (t := 80) kX11_redo rfl rfl ?_
    refine fz_iconst ⟨by decide, by decide⟩ kX11_redo rfl ?_
    refine fz_aload_n kX11_redo rfl rfl ?_
    refine fz_getV (v := h 53 42) kX11_redo rfl rfl rfl ?_
    refine fz_imulN kX11_redo rfl (by omega) ?_
    refine fz_iconst ⟨by decide, by decide⟩ kX11_redo rfl ?_
    refine fz_iaddN kX11_redo rfl (by omega) ?_
    refine fz_ialdV (n := 160) (v := h 80 (((4 * (h 53 42)) + 1).toNat)) kX11_redo rfl rfl (by omega) (by omega) rfl ?_
    have b7 : (-2147483648) ≤ h 80 (((4 * (h 53 42)) + 1).toNat) ∧ h 80 (((4 * (h 53 42)) + 1).toNat) ≤ 2147483647 := hI.1 80 _
    refine fz_aload_n kX11_redo rfl rfl ?_
    refine fz_getR (t := 80) kX11_redo rfl rfl ?_
    refine fz_iconst ⟨by decide, by decide⟩ kX11_redo rfl ?_
    refine fz_aload_n kX11_redo rfl rfl ?_
    refine fz_getV (v := h 53 42) kX11_redo rfl rfl rfl ?_
    refine fz_imulN kX11_redo rfl (by omega) ?_
    refine fz_iconst ⟨by decide, by decide⟩ kX11_redo rfl ?_
    refine fz_iaddN kX11_redo rfl (by omega) ?_
    refine fz_ialdV (n := 160) (v := h 80 (((4 * (h 53 42)) + 3).toNat)) kX11_redo rfl rfl (by omega) (by omega) rfl ?_
    have b8 : (-2147483648) ≤ h 80 (((4 * (h 53 42)) + 3).toNat) ∧ h 80 (((4 * (h 53 42)) + 3).toNat) ≤ 2147483647 := hI.1 80 _
    have k9 : fz_om (h 80 ((4 * (h 53 42)).toNat)) (h 80 (((4 * (h 53 42)) + 1).toNat)) (h 80 (((4 * (h 53 42)) + 3).toNat)) := fz_Xd_g2 hXd (by omega)
    have k11 := fz_om_b k9
    refine fz_callV (d' := 0) (M' := mX11_becomes) (As := [fz_i (h 80 ((4 * (h 53 42)).toNat)), fz_i (h 80 (((4 * (h 53 42)) + 1).toNat)), fz_i (h 80 (((4 * (h 53 42)) + 3).toNat))]) (st := []) kX11_redo rfl rfl vX11_becomes rfl rfl rfl rfl (Nat.le_of_ble_eq_true rfl) (Nat.le_of_ble_eq_true rfl) (by decide) (sX11_becomes h hI (h 80 ((4 * (h 53 42)).toNat)) (h 80 (((4 * (h 53 42)) + 1).toNat)) (h 80 (((4 * (h 53 42)) + 3).toNat)) (by omega) k9) (fun H12 r13 q14 o15 => ?_)
    obtain ⟨hI16, hf17, rfl⟩ := q14
    clear o15
    have hf18 := fz_fr_tr hf hf17 (show fz_su [(53, 8), (53, 9), (54, 99999), (57, 99999), (58, 99999), (59, 99999), (62, 99999), (63, 99999), (64, 99999)] [(53, 8), (53, 9), (53, 42), (54, 99999), (57, 99999), (58, 99999), (59, 99999), (62, 99999), (63, 99999), (64, 99999)] = true from rfl)
    have k19 : H12 53 42 = (h 53 42) := (hf17 53 42 rfl).trans rfl
    have hXd20 : fz_Xd H12 := fz_Xd_eq (funext fun s => hf17 80 s rfl) hXd
    refine fz_aload_n kX11_redo rfl rfl ?_
    refine fz_dup rfl kX11_redo rfl ?_
    refine fz_getV (v := (h 53 42)) kX11_redo rfl rfl k19 ?_
    refine fz_iconst ⟨by decide, by decide⟩ kX11_redo rfl ?_
    refine fz_iaddN kX11_redo rfl (by omega) ?_
    refine fz_putI kX11_redo rfl rfl rfl ?_
    refine fz_nmu (S := [(53, 8), (53, 9), (53, 42), (54, 99999), (57, 99999), (58, 99999), (59, 99999), (62, 99999), (63, 99999), (64, 99999)]) (h0 := h) (fz_Iv_up hI16 (by decide) (show 0 ≤ ((h 53 42) + 1) by omega) (show ((h 53 42) + 1) ≤ 40 by omega)) (fz_fr_up hf18 rfl) (fun H21 hI22 hf23 e24 => ?_)
    have k25 : H21 53 42 = ((h 53 42) + 1) := by rw [e24]; exact fz_up_e
    have hXd26 : fz_Xd H21 := fz_Xd_eq (by rw [e24]; exact fz_up_ne (by decide)) hXd20
    clear e24
    have k27 : H21 53 41 = h 53 41 := hf23 53 41 rfl
    refine fz_aload_n kX11_redo rfl rfl ?_
    refine fz_getV (v := h 53 41) kX11_redo rfl rfl (hf23 53 41 rfl) ?_
    refine fz_aload_n kX11_redo rfl rfl ?_
    refine fz_getV (v := ((h 53 42) + 1)) kX11_redo rfl rfl k25 ?_
    refine fz_isubN kX11_redo rfl (by omega) ?_
    exact fz_iret kX11_redo rfl rfl (fun _ => ⟨hI22, hf23, hXd26, _, rfl, (by omega), (by omega)⟩)
  · refine fz_bipush ⟨by decide, by decide⟩ kX11_redo rfl ?_
    exact fz_iret kX11_redo rfl rfl (fun _ => ⟨hI, hf, hXd, _, rfl, (by omega), (by omega)⟩)
