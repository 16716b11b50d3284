/-! ===== what the methods keep ===== -/
abbrev qX11_get (h : fz_H) (nu wh : Int) : fz_H → Option fz_V → Prop := fun h' r0 => h' = h ∧ ∃ r : Int, r0 = some (fz_i r) ∧ ((-9) ≤ r ∧ r ≤ 999) ∧ (fz_om nu wh r) ∧ (r = fz_gM h nu wh)
set_option maxHeartbeats 1000000 in
set_option maxRecDepth 100000 in
theorem sX11_get (h : fz_H) (hI : fz_Iv h) (nu wh : Int) (hp0 : (wh = 0 ∧ 0 ≤ nu ∧ nu ≤ 7 ∧ nu < h 53 0) ∨ (wh = 1 ∧ 0 ≤ nu ∧ nu ≤ 11 ∧ nu < h 53 2) ∨ (wh = 2 ∧ 0 ≤ nu ∧ nu ≤ 11 ∧ nu < h 53 2) ∨ (wh = 3 ∧ 0 ≤ nu ∧ nu ≤ 10 ∧ nu < h 53 10) ∨ (wh = 4 ∧ 0 ≤ nu ∧ nu ≤ 10 ∧ nu < h 53 10) ∨ (wh = 5 ∧ 0 ≤ nu ∧ nu ≤ 10 ∧ nu < h 53 10) ∨ (wh = 6 ∧ 0 ≤ nu ∧ nu ≤ 4) ∨ (wh = 7 ∧ nu = 0) ∨ (wh = 8 ∧ nu = 0)) : fz_R 0 mX11_get 0 [(0, fz_r 53), (1, fz_i nu), (2, fz_i wh)] [] h (qX11_get h nu wh) := by
  refine fz_knowl (fun hk => ?_)
  have hr_nu : -2147483648 ≤ nu ∧ nu < 2147483648 := hk _ (List.Mem.tail _ (List.Mem.head _))
  have hr_wh : -2147483648 ≤ wh ∧ wh < 2147483648 := hk _ (List.Mem.tail _ (List.Mem.tail _ (List.Mem.head _)))
  clear hk
  have b1 : 0 ≤ h 53 0 ∧ h 53 0 ≤ 8 := hI.1 53 _
  have b2 : 0 ≤ h 53 2 ∧ h 53 2 ≤ 12 := hI.1 53 _
  have b3 : 0 ≤ h 53 10 ∧ h 53 10 ≤ 11 := hI.1 53 _
  refine fz_iload_n kX11_get rfl rfl ?_
  rcases (show wh = 0 ∨ wh = 1 ∨ wh = 2 ∨ wh = 3 ∨ wh = 4 ∨ wh = 5 ∨ wh = 6 ∨ wh = 7 ∨ (wh < 0 ∨ 7 < wh) by omega) with c4 | c4 | c4 | c4 | c4 | c4 | c4 | c4 | c4
  · refine fz_tswC (j := 0) (tgt := 48) kX11_get rfl c4 (by decide) (by decide) rfl (by decide) ?_
    refine fz_aload_n kX11_get rfl rfl ?_
    refine fz_getR (t := 54) kX11_get rfl rfl ?_
    refine fz_iload_n kX11_get rfl rfl ?_
    refine fz_ialdV (n := 8) (v := h 54 (nu.toNat)) kX11_get rfl rfl (by omega) (by omega) rfl ?_
    have b5 : 0 ≤ h 54 (nu.toNat) ∧ h 54 (nu.toNat) ≤ 9 := hI.1 54 _
    exact fz_iret kX11_get rfl rfl (fun _ => ⟨rfl, _, rfl, (by omega), (by unfold fz_om; omega), (by first | exact fz_gM_l (fz_lM_0 c4) | exact fz_gM_l (fz_lM_1 c4) | exact fz_gM_l (fz_lM_2 c4) | exact fz_gM_l (fz_lM_3 c4) | exact fz_gM_l (fz_lM_4 c4) | exact fz_gM_l (fz_lM_5 c4) | exact fz_gM_l (fz_lM_6 c4) | exact fz_gM_l (fz_lM_7 c4) | exact fz_gM_l (fz_lM_8 c4))⟩)
  · refine fz_tswC (j := 1) (tgt := 55) kX11_get rfl c4 (by decide) (by decide) rfl (by decide) ?_
    refine fz_aload_n kX11_get rfl rfl ?_
    refine fz_getR (t := 57) kX11_get rfl rfl ?_
    refine fz_iload_n kX11_get rfl rfl ?_
    refine fz_ialdV (n := 12) (v := h 57 (nu.toNat)) kX11_get rfl rfl (by omega) (by omega) rfl ?_
    have b8 : 0 ≤ h 57 (nu.toNat) ∧ h 57 (nu.toNat) ≤ 24 := hI.1 57 _
    exact fz_iret kX11_get rfl rfl (fun _ => ⟨rfl, _, rfl, (by omega), (by unfold fz_om; omega), (by first | exact fz_gM_l (fz_lM_0 c4) | exact fz_gM_l (fz_lM_1 c4) | exact fz_gM_l (fz_lM_2 c4) | exact fz_gM_l (fz_lM_3 c4) | exact fz_gM_l (fz_lM_4 c4) | exact fz_gM_l (fz_lM_5 c4) | exact fz_gM_l (fz_lM_6 c4) | exact fz_gM_l (fz_lM_7 c4) | exact fz_gM_l (fz_lM_8 c4))⟩)
  · refine fz_tswC (j := 2) (tgt := 62) kX11_get rfl c4 (by decide) (by decide) rfl (by decide) ?_
    refine fz_aload_n kX11_get rfl rfl ?_
    refine fz_getR (t := 58) kX11_get rfl rfl ?_
    refine fz_iload_n kX11_get rfl rfl ?_
    refine fz_ialdV (n := 12) (v := h 58 (nu.toNat)) kX11_get rfl rfl (by omega) (by omega) rfl ?_
    have b11 : 0 ≤ h 58 (nu.toNat) ∧ h 58 (nu.toNat) ≤ 1 := hI.1 58 _
    exact fz_iret kX11_get rfl rfl (fun _ => ⟨rfl, _, rfl, (by omega), (by unfold fz_om; omega), (by first | exact fz_gM_l (fz_lM_0 c4) | exact fz_gM_l (fz_lM_1 c4) | exact fz_gM_l (fz_lM_2 c4) | exact fz_gM_l (fz_lM_3 c4) | exact fz_gM_l (fz_lM_4 c4) | exact fz_gM_l (fz_lM_5 c4) | exact fz_gM_l (fz_lM_6 c4) | exact fz_gM_l (fz_lM_7 c4) | exact fz_gM_l (fz_lM_8 c4))⟩)
  · refine fz_tswC (j := 3) (tgt := 69) kX11_get rfl c4 (by decide) (by decide) rfl (by decide) ?_
    refine fz_aload_n kX11_get rfl rfl ?_
    refine fz_getR (t := 62) kX11_get rfl rfl ?_
    refine fz_iload_n kX11_get rfl rfl ?_
    refine fz_ialdV (n := 11) (v := h 62 (nu.toNat)) kX11_get rfl rfl (by omega) (by omega) rfl ?_
    have b14 : 0 ≤ h 62 (nu.toNat) ∧ h 62 (nu.toNat) ≤ 999 := hI.1 62 _
    exact fz_iret kX11_get rfl rfl (fun _ => ⟨rfl, _, rfl, (by omega), (by unfold fz_om; omega), (by first | exact fz_gM_l (fz_lM_0 c4) | exact fz_gM_l (fz_lM_1 c4) | exact fz_gM_l (fz_lM_2 c4) | exact fz_gM_l (fz_lM_3 c4) | exact fz_gM_l (fz_lM_4 c4) | exact fz_gM_l (fz_lM_5 c4) | exact fz_gM_l (fz_lM_6 c4) | exact fz_gM_l (fz_lM_7 c4) | exact fz_gM_l (fz_lM_8 c4))⟩)
  · refine fz_tswC (j := 4) (tgt := 76) kX11_get rfl c4 (by decide) (by decide) rfl (by decide) ?_
    refine fz_aload_n kX11_get rfl rfl ?_
    refine fz_getR (t := 63) kX11_get rfl rfl ?_
    refine fz_iload_n kX11_get rfl rfl ?_
    refine fz_ialdV (n := 11) (v := h 63 (nu.toNat)) kX11_get rfl rfl (by omega) (by omega) rfl ?_
    have b17 : 0 ≤ h 63 (nu.toNat) ∧ h 63 (nu.toNat) ≤ 4 := hI.1 63 _
    exact fz_iret kX11_get rfl rfl (fun _ => ⟨rfl, _, rfl, (by omega), (by unfold fz_om; omega), (by first | exact fz_gM_l (fz_lM_0 c4) | exact fz_gM_l (fz_lM_1 c4) | exact fz_gM_l (fz_lM_2 c4) | exact fz_gM_l (fz_lM_3 c4) | exact fz_gM_l (fz_lM_4 c4) | exact fz_gM_l (fz_lM_5 c4) | exact fz_gM_l (fz_lM_6 c4) | exact fz_gM_l (fz_lM_7 c4) | exact fz_gM_l (fz_lM_8 c4))⟩)
  · refine fz_tswC (j := 5) (tgt := 83) kX11_get rfl c4 (by decide) (by decide) rfl (by decide) ?_
    refine fz_aload_n kX11_get rfl rfl ?_
    refine fz_getR (t := 64) kX11_get rfl rfl ?_
    refine fz_iload_n kX11_get rfl rfl ?_
    refine fz_ialdV (n := 11) (v := h 64 (nu.toNat)) kX11_get rfl rfl (by omega) (by omega) rfl ?_
    have b20 : 0 ≤ h 64 (nu.toNat) ∧ h 64 (nu.toNat) ≤ 9 := hI.1 64 _
    exact fz_iret kX11_get rfl rfl (fun _ => ⟨rfl, _, rfl, (by omega), (by unfold fz_om; omega), (by first | exact fz_gM_l (fz_lM_0 c4) | exact fz_gM_l (fz_lM_1 c4) | exact fz_gM_l (fz_lM_2 c4) | exact fz_gM_l (fz_lM_3 c4) | exact fz_gM_l (fz_lM_4 c4) | exact fz_gM_l (fz_lM_5 c4) | exact fz_gM_l (fz_lM_6 c4) | exact fz_gM_l (fz_lM_7 c4) | exact fz_gM_l (fz_lM_8 c4))⟩)
  · refine fz_tswC (j := 6) (tgt := 90) kX11_get rfl c4 (by decide) (by decide) rfl (by decide) ?_
    refine fz_aload_n kX11_get rfl rfl ?_
    refine fz_getR (t := 59) kX11_get rfl rfl ?_
    refine fz_iload_n kX11_get rfl rfl ?_
    refine fz_ialdV (n := 5) (v := h 59 (nu.toNat)) kX11_get rfl rfl (by omega) (by omega) rfl ?_
    have b23 : (-9) ≤ h 59 (nu.toNat) ∧ h 59 (nu.toNat) ≤ 9 := hI.1 59 _
    exact fz_iret kX11_get rfl rfl (fun _ => ⟨rfl, _, rfl, (by omega), (by unfold fz_om; omega), (by first | exact fz_gM_l (fz_lM_0 c4) | exact fz_gM_l (fz_lM_1 c4) | exact fz_gM_l (fz_lM_2 c4) | exact fz_gM_l (fz_lM_3 c4) | exact fz_gM_l (fz_lM_4 c4) | exact fz_gM_l (fz_lM_5 c4) | exact fz_gM_l (fz_lM_6 c4) | exact fz_gM_l (fz_lM_7 c4) | exact fz_gM_l (fz_lM_8 c4))⟩)
  · refine fz_tswC (j := 7) (tgt := 97) kX11_get rfl c4 (by decide) (by decide) rfl (by decide) ?_
    refine fz_aload_n kX11_get rfl rfl ?_
    refine fz_getV (v := h 53 8) kX11_get rfl rfl rfl ?_
    have b26 : 0 ≤ h 53 8 ∧ h 53 8 ≤ 99 := hI.1 53 _
    exact fz_iret kX11_get rfl rfl (fun _ => ⟨rfl, _, rfl, (by omega), (by unfold fz_om; omega), (by first | exact fz_gM_l (fz_lM_0 c4) | exact fz_gM_l (fz_lM_1 c4) | exact fz_gM_l (fz_lM_2 c4) | exact fz_gM_l (fz_lM_3 c4) | exact fz_gM_l (fz_lM_4 c4) | exact fz_gM_l (fz_lM_5 c4) | exact fz_gM_l (fz_lM_6 c4) | exact fz_gM_l (fz_lM_7 c4) | exact fz_gM_l (fz_lM_8 c4))⟩)
  · refine fz_tswO (tgt := 102) kX11_get rfl c4 (by decide) ?_
    refine fz_aload_n kX11_get rfl rfl ?_
    refine fz_getV (v := h 53 9) kX11_get rfl rfl rfl ?_
    have b29 : 0 ≤ h 53 9 ∧ h 53 9 ≤ 12 := hI.1 53 _
    exact fz_iret kX11_get rfl rfl (fun _ => ⟨rfl, _, rfl, (by omega), (by unfold fz_om; omega), (by first | exact fz_gM_l (fz_lM_0 c4) | exact fz_gM_l (fz_lM_1 c4) | exact fz_gM_l (fz_lM_2 c4) | exact fz_gM_l (fz_lM_3 c4) | exact fz_gM_l (fz_lM_4 c4) | exact fz_gM_l (fz_lM_5 c4) | exact fz_gM_l (fz_lM_6 c4) | exact fz_gM_l (fz_lM_7 c4) | exact fz_gM_l (fz_lM_8 c4))⟩)

abbrev qX11_becomes (h : fz_H) (nu wh v : Int) : fz_H → Option fz_V → Prop := fun h' r0 => fz_Iv h' ∧ fz_fr [(53, 8), (53, 9), (54, 99999), (57, 99999), (58, 99999), (59, 99999), (62, 99999), (63, 99999), (64, 99999)] h h' ∧ r0 = none ∧ h' = fz_up h (fz_lM nu wh).1 (fz_lM nu wh).2 v
set_option maxHeartbeats 1000000 in
set_option maxRecDepth 100000 in
theorem sX11_becomes (h : fz_H) (hI : fz_Iv h) (nu wh v : Int) (hp0 : 0 ≤ wh ∧ wh ≤ 8) (hp1 : fz_om nu wh v) : fz_R 0 mX11_becomes 0 [(0, fz_r 53), (1, fz_i nu), (2, fz_i wh), (3, fz_i v)] [] h (qX11_becomes h nu wh v) := by
  refine fz_knowl (fun hk => ?_)
  have hr_nu : -2147483648 ≤ nu ∧ nu < 2147483648 := hk _ (List.Mem.tail _ (List.Mem.head _))
  have hr_wh : -2147483648 ≤ wh ∧ wh < 2147483648 := hk _ (List.Mem.tail _ (List.Mem.tail _ (List.Mem.head _)))
  have hr_v : -2147483648 ≤ v ∧ v < 2147483648 := hk _ (List.Mem.tail _ (List.Mem.tail _ (List.Mem.tail _ (List.Mem.head _))))
  clear hk
  have hf : fz_fr [(53, 8), (53, 9), (54, 99999), (57, 99999), (58, 99999), (59, 99999), (62, 99999), (63, 99999), (64, 99999)] h h := fz_fr_rf
  refine fz_iload_n kX11_becomes rfl rfl ?_
  rcases (show wh = 0 ∨ wh = 1 ∨ wh = 2 ∨ wh = 3 ∨ wh = 4 ∨ wh = 5 ∨ wh = 6 ∨ wh = 7 ∨ (wh < 0 ∨ 7 < wh) by omega) with c1 | c1 | c1 | c1 | c1 | c1 | c1 | c1 | c1
  · refine fz_tswC (j := 0) (tgt := 48) kX11_becomes rfl c1 (by decide) (by decide) rfl (by decide) ?_
    have k2 := hp1.2.1 c1
    refine fz_aload_n kX11_becomes rfl rfl ?_
    refine fz_getR (t := 54) kX11_becomes rfl rfl ?_
    refine fz_iload_n kX11_becomes rfl rfl ?_
    refine fz_iload_n kX11_becomes rfl rfl ?_
    refine fz_iast (n := 8) kX11_becomes rfl rfl (by omega) (by omega) ?_
    refine fz_nmu (S := [(53, 8), (53, 9), (54, 99999), (57, 99999), (58, 99999), (59, 99999), (62, 99999), (63, 99999), (64, 99999)]) (h0 := h) (fz_Iv_up hI (by decide) (show (0 : Int) ≤ v by omega) (show (v : Int) ≤ 9 by omega)) (fz_fr_up hf rfl) (fun H3 hI4 hf5 e6 => ?_)
    exact fz_vret kX11_becomes rfl rfl ⟨hI4, hf5, rfl, (by first | (rw [fz_lM_0 c1]; exact e6) | (rw [fz_lM_1 c1]; exact lost) | (rw [fz_lM_2 c1]; exact lost) | (rw [fz_lM_3 c1]; exact lost) | (rw [fz_lM_4 c1]; exact lost) | (rw [fz_lM_5 c1]; exact lost) | (rw [fz_lM_6 c1]; exact lost) | (rw [fz_lM_7 c1]; exact lost) | (rw [fz_lM_8 c1]; exact lost))⟩
  · refine fz_tswC (j := 1) (tgt := 56) kX11_becomes rfl c1 (by decide) (by decide) rfl (by decide) ?_
    have k8 := hp1.2.2.1 c1
    refine fz_aload_n kX11_becomes rfl rfl ?_
    refine fz_getR (t := 57) kX11_becomes rfl rfl ?_
    refine fz_iload_n kX11_becomes rfl rfl ?_
    refine fz_iload_n kX11_becomes rfl rfl ?_
    refine fz_iast (n := 12) kX11_becomes rfl rfl (by omega) (by omega) ?_
    refine fz_nmu (S := [(53, 8), (53, 9), (54, 99999), (57, 99999), (58, 99999), (59, 99999), (62, 99999), (63, 99999), (64, 99999)]) (h0 := h) (fz_Iv_up hI (by decide) (show (0 : Int) ≤ v by omega) (show (v : Int) ≤ 24 by omega)) (fz_fr_up hf rfl) (fun H9 hI10 hf11 e12 => ?_)
    exact fz_vret kX11_becomes rfl rfl ⟨hI10, hf11, rfl, (by first | (rw [fz_lM_0 c1]; exact lost) | (rw [fz_lM_1 c1]; exact e12) | (rw [fz_lM_2 c1]; exact lost) | (rw [fz_lM_3 c1]; exact lost) | (rw [fz_lM_4 c1]; exact lost) | (rw [fz_lM_5 c1]; exact lost) | (rw [fz_lM_6 c1]; exact lost) | (rw [fz_lM_7 c1]; exact lost) | (rw [fz_lM_8 c1]; exact lost))⟩
  · refine fz_tswC (j := 2) (tgt := 64) kX11_becomes rfl c1 (by decide) (by decide) rfl (by decide) ?_
    have k14 := hp1.2.2.2.1 c1
    refine fz_aload_n kX11_becomes rfl rfl ?_
    refine fz_getR (t := 58) kX11_becomes rfl rfl ?_
    refine fz_iload_n kX11_becomes rfl rfl ?_
    refine fz_iload_n kX11_becomes rfl rfl ?_
    refine fz_iast (n := 12) kX11_becomes rfl rfl (by omega) (by omega) ?_
    refine fz_nmu (S := [(53, 8), (53, 9), (54, 99999), (57, 99999), (58, 99999), (59, 99999), (62, 99999), (63, 99999), (64, 99999)]) (h0 := h) (fz_Iv_up hI (by decide) (show (0 : Int) ≤ v by omega) (show (v : Int) ≤ 1 by omega)) (fz_fr_up hf rfl) (fun H15 hI16 hf17 e18 => ?_)
    exact fz_vret kX11_becomes rfl rfl ⟨hI16, hf17, rfl, (by first | (rw [fz_lM_0 c1]; exact lost) | (rw [fz_lM_1 c1]; exact lost) | (rw [fz_lM_2 c1]; exact e18) | (rw [fz_lM_3 c1]; exact lost) | (rw [fz_lM_4 c1]; exact lost) | (rw [fz_lM_5 c1]; exact lost) | (rw [fz_lM_6 c1]; exact lost) | (rw [fz_lM_7 c1]; exact lost) | (rw [fz_lM_8 c1]; exact lost))⟩
  · refine fz_tswC (j := 3) (tgt := 72) kX11_becomes rfl c1 (by decide) (by decide) rfl (by decide) ?_
    have k20 := hp1.2.2.2.2.1 c1
    refine fz_aload_n kX11_becomes rfl rfl ?_
    refine fz_getR (t := 62) kX11_becomes rfl rfl ?_
    refine fz_iload_n kX11_becomes rfl rfl ?_
    refine fz_iload_n kX11_becomes rfl rfl ?_
    refine fz_iast (n := 11) kX11_becomes rfl rfl (by omega) (by omega) ?_
    refine fz_nmu (S := [(53, 8), (53, 9), (54, 99999), (57, 99999), (58, 99999), (59, 99999), (62, 99999), (63, 99999), (64, 99999)]) (h0 := h) (fz_Iv_up hI (by decide) (show (0 : Int) ≤ v by omega) (show (v : Int) ≤ 999 by omega)) (fz_fr_up hf rfl) (fun H21 hI22 hf23 e24 => ?_)
    exact fz_vret kX11_becomes rfl rfl ⟨hI22, hf23, rfl, (by first | (rw [fz_lM_0 c1]; exact lost) | (rw [fz_lM_1 c1]; exact lost) | (rw [fz_lM_2 c1]; exact lost) | (rw [fz_lM_3 c1]; exact e24) | (rw [fz_lM_4 c1]; exact lost) | (rw [fz_lM_5 c1]; exact lost) | (rw [fz_lM_6 c1]; exact lost) | (rw [fz_lM_7 c1]; exact lost) | (rw [fz_lM_8 c1]; exact lost))⟩
  · refine fz_tswC (j := 4) (tgt := 80) kX11_becomes rfl c1 (by decide) (by decide) rfl (by decide) ?_
    have k26 := hp1.2.2.2.2.2.1 c1
    refine fz_aload_n kX11_becomes rfl rfl ?_
    refine fz_getR (t := 63) kX11_becomes rfl rfl ?_
    refine fz_iload_n kX11_becomes rfl rfl ?_
    refine fz_iload_n kX11_becomes rfl rfl ?_
    refine fz_iast (n := 11) kX11_becomes rfl rfl (by omega) (by omega) ?_
    refine fz_nmu (S := [(53, 8), (53, 9), (54, 99999), (57, 99999), (58, 99999), (59, 99999), (62, 99999), (63, 99999), (64, 99999)]) (h0 := h) (fz_Iv_up hI (by decide) (show (0 : Int) ≤ v by omega) (show (v : Int) ≤ 4 by omega)) (fz_fr_up hf rfl) (fun H27 hI28 hf29 e30 => ?_)
    exact fz_vret kX11_becomes rfl rfl ⟨hI28, hf29, rfl, (by first | (rw [fz_lM_0 c1]; exact lost) | (rw [fz_lM_1 c1]; exact lost) | (rw [fz_lM_2 c1]; exact lost) | (rw [fz_lM_3 c1]; exact lost) | (rw [fz_lM_4 c1]; exact e30) | (rw [fz_lM_5 c1]; exact lost) | (rw [fz_lM_6 c1]; exact lost) | (rw [fz_lM_7 c1]; exact lost) | (rw [fz_lM_8 c1]; exact lost))⟩
  · refine fz_tswC (j := 5) (tgt := 88) kX11_becomes rfl c1 (by decide) (by decide) rfl (by decide) ?_
    have k32 := hp1.2.2.2.2.2.2.1 c1
    refine fz_aload_n kX11_becomes rfl rfl ?_
    refine fz_getR (t := 64) kX11_becomes rfl rfl ?_
    refine fz_iload_n kX11_becomes rfl rfl ?_
    refine fz_iload_n kX11_becomes rfl rfl ?_
    refine fz_iast (n := 11) kX11_becomes rfl rfl (by omega) (by omega) ?_
    refine fz_nmu (S := [(53, 8), (53, 9), (54, 99999), (57, 99999), (58, 99999), (59, 99999), (62, 99999), (63, 99999), (64, 99999)]) (h0 := h) (fz_Iv_up hI (by decide) (show (0 : Int) ≤ v by omega) (show (v : Int) ≤ 9 by omega)) (fz_fr_up hf rfl) (fun H33 hI34 hf35 e36 => ?_)
    exact fz_vret kX11_becomes rfl rfl ⟨hI34, hf35, rfl, (by first | (rw [fz_lM_0 c1]; exact lost) | (rw [fz_lM_1 c1]; exact lost) | (rw [fz_lM_2 c1]; exact lost) | (rw [fz_lM_3 c1]; exact lost) | (rw [fz_lM_4 c1]; exact lost) | (rw [fz_lM_5 c1]; exact e36) | (rw [fz_lM_6 c1]; exact lost) | (rw [fz_lM_7 c1]; exact lost) | (rw [fz_lM_8 c1]; exact lost))⟩
  · refine fz_tswC (j := 6) (tgt := 96) kX11_becomes rfl c1 (by decide) (by decide) rfl (by decide) ?_
    have k38 := hp1.2.2.2.2.2.2.2.1 c1
    refine fz_aload_n kX11_becomes rfl rfl ?_
    refine fz_getR (t := 59) kX11_becomes rfl rfl ?_
    refine fz_iload_n kX11_becomes rfl rfl ?_
    refine fz_iload_n kX11_becomes rfl rfl ?_
    refine fz_iast (n := 5) kX11_becomes rfl rfl (by omega) (by omega) ?_
    refine fz_nmu (S := [(53, 8), (53, 9), (54, 99999), (57, 99999), (58, 99999), (59, 99999), (62, 99999), (63, 99999), (64, 99999)]) (h0 := h) (fz_Iv_up hI (by decide) (show ((-9) : Int) ≤ v by omega) (show (v : Int) ≤ 9 by omega)) (fz_fr_up hf rfl) (fun H39 hI40 hf41 e42 => ?_)
    exact fz_vret kX11_becomes rfl rfl ⟨hI40, hf41, rfl, (by first | (rw [fz_lM_0 c1]; exact lost) | (rw [fz_lM_1 c1]; exact lost) | (rw [fz_lM_2 c1]; exact lost) | (rw [fz_lM_3 c1]; exact lost) | (rw [fz_lM_4 c1]; exact lost) | (rw [fz_lM_5 c1]; exact lost) | (rw [fz_lM_6 c1]; exact e42) | (rw [fz_lM_7 c1]; exact lost) | (rw [fz_lM_8 c1]; exact lost))⟩
  · refine fz_tswC (j := 7) (tgt := 104) kX11_becomes rfl c1 (by decide) (by decide) rfl (by decide) ?_
    have k44 := hp1.2.2.2.2.2.2.2.2.1 c1
    refine fz_aload_n kX11_becomes rfl rfl ?_
    refine fz_iload_n kX11_becomes rfl rfl ?_
    refine fz_putI kX11_becomes rfl rfl rfl ?_
    refine fz_nmu (S := [(53, 8), (53, 9), (54, 99999), (57, 99999), (58, 99999), (59, 99999), (62, 99999), (63, 99999), (64, 99999)]) (h0 := h) (fz_Iv_up hI (by decide) (show (0 : Int) ≤ v by omega) (show (v : Int) ≤ 99 by omega)) (fz_fr_up hf rfl) (fun H45 hI46 hf47 e48 => ?_)
    have k49 : H45 53 8 = v := by rw [e48]; exact fz_up_e
    exact fz_vret kX11_becomes rfl rfl ⟨hI46, hf47, rfl, (by first | (rw [fz_lM_0 c1]; exact lost) | (rw [fz_lM_1 c1]; exact lost) | (rw [fz_lM_2 c1]; exact lost) | (rw [fz_lM_3 c1]; exact lost) | (rw [fz_lM_4 c1]; exact lost) | (rw [fz_lM_5 c1]; exact lost) | (rw [fz_lM_6 c1]; exact lost) | (rw [fz_lM_7 c1]; exact e48) | (rw [fz_lM_8 c1]; exact lost))⟩
  · refine fz_tswO (tgt := 110) kX11_becomes rfl c1 (by decide) ?_
    have k51 : nu = 0 ∧ 0 ≤ v ∧ v ≤ 12 := hp1.2.2.2.2.2.2.2.2.2 (by omega)
    refine fz_aload_n kX11_becomes rfl rfl ?_
    refine fz_iload_n kX11_becomes rfl rfl ?_
    refine fz_putI kX11_becomes rfl rfl rfl ?_
    refine fz_nmu (S := [(53, 8), (53, 9), (54, 99999), (57, 99999), (58, 99999), (59, 99999), (62, 99999), (63, 99999), (64, 99999)]) (h0 := h) (fz_Iv_up hI (by decide) (show (0 : Int) ≤ v by omega) (show (v : Int) ≤ 12 by omega)) (fz_fr_up hf rfl) (fun H52 hI53 hf54 e55 => ?_)
    have k56 : H52 53 9 = v := by rw [e55]; exact fz_up_e
    exact fz_vret kX11_becomes rfl rfl ⟨hI53, hf54, rfl, (by first | (rw [fz_lM_0 c1]; exact lost) | (rw [fz_lM_1 c1]; exact lost) | (rw [fz_lM_2 c1]; exact lost) | (rw [fz_lM_3 c1]; exact lost) | (rw [fz_lM_4 c1]; exact lost) | (rw [fz_lM_5 c1]; exact lost) | (rw [fz_lM_6 c1]; exact lost) | (rw [fz_lM_7 c1]; exact lost) | (rw [fz_lM_8 c1]; exact e55))⟩

abbrev qX11_isFit (h : fz_H) (wh v : Int) : fz_H → Option fz_V → Prop := fun h' r0 => h' = h ∧ ∃ r : Int, r0 = some (fz_i r) ∧ (r = 0 ∨ r = 1) ∧ (fz_ft wh v r) ∧ ((r = 1 ∧ fz_F wh v) ∨ (r = 0 ∧ ¬ fz_F wh v))
set_option maxHeartbeats 1000000 in
set_option maxRecDepth 100000 in
theorem sX11_isFit (h : fz_H) (hI : fz_Iv h) (wh v : Int) (hp0 : 0 ≤ wh ∧ wh ≤ 8) : fz_R 2 mX11_isFit 0 [(0, fz_i wh), (1, fz_i v)] [] h (qX11_isFit h wh v) := by
  refine fz_knowl (fun hk => ?_)
  have hr_wh : -2147483648 ≤ wh ∧ wh < 2147483648 := hk _ (List.Mem.head _)
  have hr_v : -2147483648 ≤ v ∧ v < 2147483648 := hk _ (List.Mem.tail _ (List.Mem.head _))
  clear hk
  refine fz_iload_n kX11_isFit rfl rfl ?_
  rcases (show wh = 0 ∨ wh = 1 ∨ wh = 2 ∨ wh = 3 ∨ wh = 4 ∨ wh = 5 ∨ wh = 6 ∨ wh = 7 ∨ (wh < 0 ∨ 7 < wh) by omega) with c1 | c1 | c1 | c1 | c1 | c1 | c1 | c1 | c1
  · refine fz_tswC (j := 0) (tgt := 48) kX11_isFit rfl c1 (by decide) (by decide) rfl (by decide) ?_
    refine fz_iload_n kX11_isFit rfl rfl ?_
    refine fz_iconst ⟨by decide, by decide⟩ kX11_isFit rfl ?_
    refine fz_bipush ⟨by decide, by decide⟩ kX11_isFit rfl ?_
    refine fz_callS (d' := 0) (M' := mX11_within) (As := [fz_i v, fz_i 0, fz_i 9]) (st := []) kX11_isFit rfl rfl vX11_within rfl rfl (Nat.le_of_ble_eq_true rfl) (Nat.le_of_ble_eq_true rfl) (by decide) (sX11_within h hI v 0 9 ) (fun H2 r3 q4 o5 => ?_)
    obtain ⟨e6, y7, rfl, p8⟩ := q4
    subst H2
    clear o5
    rcases p8 with ⟨rfl, c9⟩ | ⟨rfl, c9⟩
    · exact fz_zret kX11_isFit rfl rfl (by omega) ⟨rfl, _, rfl, (by omega), (by unfold fz_ft; omega), (by unfold fz_F; omega)⟩
    · exact fz_zret kX11_isFit rfl rfl (by omega) ⟨rfl, _, rfl, (by omega), (by unfold fz_ft; omega), (by unfold fz_F; omega)⟩
  · refine fz_tswC (j := 1) (tgt := 56) kX11_isFit rfl c1 (by decide) (by decide) rfl (by decide) ?_
    refine fz_iload_n kX11_isFit rfl rfl ?_
    refine fz_iconst ⟨by decide, by decide⟩ kX11_isFit rfl ?_
    refine fz_bipush ⟨by decide, by decide⟩ kX11_isFit rfl ?_
    refine fz_callS (d' := 0) (M' := mX11_within) (As := [fz_i v, fz_i 1, fz_i 24]) (st := []) kX11_isFit rfl rfl vX11_within rfl rfl (Nat.le_of_ble_eq_true rfl) (Nat.le_of_ble_eq_true rfl) (by decide) (sX11_within h hI v 1 24 ) (fun H14 r15 q16 o17 => ?_)
    obtain ⟨e18, y19, rfl, p20⟩ := q16
    subst H14
    clear o17
    rcases p20 with ⟨rfl, c21⟩ | ⟨rfl, c21⟩
    · exact fz_zret kX11_isFit rfl rfl (by omega) ⟨rfl, _, rfl, (by omega), (by unfold fz_ft; omega), (by unfold fz_F; omega)⟩
    · exact fz_zret kX11_isFit rfl rfl (by omega) ⟨rfl, _, rfl, (by omega), (by unfold fz_ft; omega), (by unfold fz_F; omega)⟩
  · refine fz_tswC (j := 2) (tgt := 64) kX11_isFit rfl c1 (by decide) (by decide) rfl (by decide) ?_
    refine fz_iload_n kX11_isFit rfl rfl ?_
    refine fz_iconst ⟨by decide, by decide⟩ kX11_isFit rfl ?_
    refine fz_iconst ⟨by decide, by decide⟩ kX11_isFit rfl ?_
    refine fz_callS (d' := 0) (M' := mX11_within) (As := [fz_i v, fz_i 0, fz_i 1]) (st := []) kX11_isFit rfl rfl vX11_within rfl rfl (Nat.le_of_ble_eq_true rfl) (Nat.le_of_ble_eq_true rfl) (by decide) (sX11_within h hI v 0 1 ) (fun H26 r27 q28 o29 => ?_)
    obtain ⟨e30, y31, rfl, p32⟩ := q28
    subst H26
    clear o29
    rcases p32 with ⟨rfl, c33⟩ | ⟨rfl, c33⟩
    · exact fz_zret kX11_isFit rfl rfl (by omega) ⟨rfl, _, rfl, (by omega), (by unfold fz_ft; omega), (by unfold fz_F; omega)⟩
    · exact fz_zret kX11_isFit rfl rfl (by omega) ⟨rfl, _, rfl, (by omega), (by unfold fz_ft; omega), (by unfold fz_F; omega)⟩
  · refine fz_tswC (j := 3) (tgt := 71) kX11_isFit rfl c1 (by decide) (by decide) rfl (by decide) ?_
    refine fz_iload_n kX11_isFit rfl rfl ?_
    refine fz_callS (d' := 1) (M' := mX11_isHour) (As := [fz_i v]) (st := []) kX11_isFit rfl rfl vX11_isHour rfl rfl (Nat.le_of_ble_eq_true rfl) (Nat.le_of_ble_eq_true rfl) (by decide) (sX11_isHour h hI v ) (fun H38 r39 q40 o41 => ?_)
    obtain ⟨e42, y43, rfl, p44⟩ := q40
    subst H38
    clear o41
    rcases p44 with ⟨rfl, c45⟩ | ⟨rfl, c45⟩
    · exact fz_zret kX11_isFit rfl rfl (by omega) ⟨rfl, _, rfl, (by omega), (by unfold fz_ft; omega), (by unfold fz_F; omega)⟩
    · exact fz_zret kX11_isFit rfl rfl (by omega) ⟨rfl, _, rfl, (by omega), (by unfold fz_ft; omega), (by unfold fz_F; omega)⟩
  · refine fz_tswC (j := 4) (tgt := 76) kX11_isFit rfl c1 (by decide) (by decide) rfl (by decide) ?_
    refine fz_iload_n kX11_isFit rfl rfl ?_
    refine fz_callS (d' := 1) (M' := mX11_isMark) (As := [fz_i v]) (st := []) kX11_isFit rfl rfl vX11_isMark rfl rfl (Nat.le_of_ble_eq_true rfl) (Nat.le_of_ble_eq_true rfl) (by decide) (sX11_isMark h hI v ) (fun H50 r51 q52 o53 => ?_)
    obtain ⟨e54, y55, rfl, p56⟩ := q52
    subst H50
    clear o53
    rcases p56 with ⟨rfl, c57⟩ | ⟨rfl, c57⟩
    · exact fz_zret kX11_isFit rfl rfl (by omega) ⟨rfl, _, rfl, (by omega), (by unfold fz_ft; omega), (by unfold fz_F; omega)⟩
    · exact fz_zret kX11_isFit rfl rfl (by omega) ⟨rfl, _, rfl, (by omega), (by unfold fz_ft; omega), (by unfold fz_F; omega)⟩
  · refine fz_tswC (j := 5) (tgt := 81) kX11_isFit rfl c1 (by decide) (by decide) rfl (by decide) ?_
    refine fz_iload_n kX11_isFit rfl rfl ?_
    refine fz_iconst ⟨by decide, by decide⟩ kX11_isFit rfl ?_
    refine fz_bipush ⟨by decide, by decide⟩ kX11_isFit rfl ?_
    refine fz_callS (d' := 0) (M' := mX11_within) (As := [fz_i v, fz_i 1, fz_i 9]) (st := []) kX11_isFit rfl rfl vX11_within rfl rfl (Nat.le_of_ble_eq_true rfl) (Nat.le_of_ble_eq_true rfl) (by decide) (sX11_within h hI v 1 9 ) (fun H62 r63 q64 o65 => ?_)
    obtain ⟨e66, y67, rfl, p68⟩ := q64
    subst H62
    clear o65
    rcases p68 with ⟨rfl, c69⟩ | ⟨rfl, c69⟩
    · exact fz_zret kX11_isFit rfl rfl (by omega) ⟨rfl, _, rfl, (by omega), (by unfold fz_ft; omega), (by unfold fz_F; omega)⟩
    · exact fz_zret kX11_isFit rfl rfl (by omega) ⟨rfl, _, rfl, (by omega), (by unfold fz_ft; omega), (by unfold fz_F; omega)⟩
  · refine fz_tswC (j := 6) (tgt := 89) kX11_isFit rfl c1 (by decide) (by decide) rfl (by decide) ?_
    refine fz_iload_n kX11_isFit rfl rfl ?_
    refine fz_bipush ⟨by decide, by decide⟩ kX11_isFit rfl ?_
    refine fz_bipush ⟨by decide, by decide⟩ kX11_isFit rfl ?_
    refine fz_callS (d' := 0) (M' := mX11_within) (As := [fz_i v, fz_i (-9), fz_i 9]) (st := []) kX11_isFit rfl rfl vX11_within rfl rfl (Nat.le_of_ble_eq_true rfl) (Nat.le_of_ble_eq_true rfl) (by decide) (sX11_within h hI v (-9) 9 ) (fun H74 r75 q76 o77 => ?_)
    obtain ⟨e78, y79, rfl, p80⟩ := q76
    subst H74
    clear o77
    rcases p80 with ⟨rfl, c81⟩ | ⟨rfl, c81⟩
    · exact fz_zret kX11_isFit rfl rfl (by omega) ⟨rfl, _, rfl, (by omega), (by unfold fz_ft; omega), (by unfold fz_F; omega)⟩
    · exact fz_zret kX11_isFit rfl rfl (by omega) ⟨rfl, _, rfl, (by omega), (by unfold fz_ft; omega), (by unfold fz_F; omega)⟩
  · refine fz_tswC (j := 7) (tgt := 98) kX11_isFit rfl c1 (by decide) (by decide) rfl (by decide) ?_
    refine fz_iload_n kX11_isFit rfl rfl ?_
    refine fz_iconst ⟨by decide, by decide⟩ kX11_isFit rfl ?_
    refine fz_bipush ⟨by decide, by decide⟩ kX11_isFit rfl ?_
    refine fz_callS (d' := 0) (M' := mX11_within) (As := [fz_i v, fz_i 0, fz_i 99]) (st := []) kX11_isFit rfl rfl vX11_within rfl rfl (Nat.le_of_ble_eq_true rfl) (Nat.le_of_ble_eq_true rfl) (by decide) (sX11_within h hI v 0 99 ) (fun H86 r87 q88 o89 => ?_)
    obtain ⟨e90, y91, rfl, p92⟩ := q88
    subst H86
    clear o89
    rcases p92 with ⟨rfl, c93⟩ | ⟨rfl, c93⟩
    · exact fz_zret kX11_isFit rfl rfl (by omega) ⟨rfl, _, rfl, (by omega), (by unfold fz_ft; omega), (by unfold fz_F; omega)⟩
    · exact fz_zret kX11_isFit rfl rfl (by omega) ⟨rfl, _, rfl, (by omega), (by unfold fz_ft; omega), (by unfold fz_F; omega)⟩
  · refine fz_tswO (tgt := 106) kX11_isFit rfl c1 (by decide) ?_
    refine fz_iload_n kX11_isFit rfl rfl ?_
    refine fz_iconst ⟨by decide, by decide⟩ kX11_isFit rfl ?_
    refine fz_bipush ⟨by decide, by decide⟩ kX11_isFit rfl ?_
    refine fz_callS (d' := 0) (M' := mX11_within) (As := [fz_i v, fz_i 0, fz_i 12]) (st := []) kX11_isFit rfl rfl vX11_within rfl rfl (Nat.le_of_ble_eq_true rfl) (Nat.le_of_ble_eq_true rfl) (by decide) (sX11_within h hI v 0 12 ) (fun H98 r99 q100 o101 => ?_)
    obtain ⟨e102, y103, rfl, p104⟩ := q100
    subst H98
    clear o101
    rcases p104 with ⟨rfl, c105⟩ | ⟨rfl, c105⟩
    · exact fz_zret kX11_isFit rfl rfl (by omega) ⟨rfl, _, rfl, (by omega), (by unfold fz_ft; omega), (by unfold fz_F; omega)⟩
    · exact fz_zret kX11_isFit rfl rfl (by omega) ⟨rfl, _, rfl, (by omega), (by unfold fz_ft; omega), (by unfold fz_F; omega)⟩

abbrev qX11_of (h : fz_H) (nu wh : Int) : fz_H → Option fz_V → Prop := fun h' r0 => h' = h ∧ ∃ r : Int, r0 = some (fz_i r) ∧ ((-2147483648) ≤ r ∧ r ≤ 2147483647) ∧ (fz_nM h nu wh r)
set_option maxHeartbeats 1000000 in
set_option maxRecDepth 100000 in
theorem sX11_of (h : fz_H) (hI : fz_Iv h) (nu wh : Int) : fz_R 3 mX11_of 0 [(0, fz_r 53), (1, fz_i nu), (2, fz_i wh)] [] h (qX11_of h nu wh) := by
  refine fz_knowl (fun hk => ?_)
  have hr_nu : -2147483648 ≤ nu ∧ nu < 2147483648 := hk _ (List.Mem.tail _ (List.Mem.head _))
  have hr_wh : -2147483648 ≤ wh ∧ wh < 2147483648 := hk _ (List.Mem.tail _ (List.Mem.tail _ (List.Mem.head _)))
  clear hk
  refine fz_iload_n kX11_of rfl rfl ?_
  rcases (show wh = 9 ∨ wh = 10 ∨ wh = 11 ∨ wh = 12 ∨ (wh < 9 ∨ 12 < wh) by omega) with c1 | c1 | c1 | c1 | c1
  · refine fz_tswC (j := 9) (tgt := 32) kX11_of rfl c1 (by decide) (by decide) rfl (by decide) ?_
    refine fz_aload_n kX11_of rfl rfl ?_
    refine fz_iload_n kX11_of rfl rfl ?_
    have b2 : 0 ≤ h 53 10 ∧ h 53 10 ≤ 11 := hI.1 53 _
    refine fz_callV (d' := 1) (M' := mX11_isDeed) (As := [fz_i nu]) (st := []) kX11_of rfl rfl vX11_isDeed rfl rfl rfl rfl (Nat.le_of_ble_eq_true rfl) (Nat.le_of_ble_eq_true rfl) (by decide) (sX11_isDeed h hI nu ) (fun H3 r4 q5 o6 => ?_)
    obtain ⟨e7, y8, rfl, p9⟩ := q5
    subst H3
    clear o6
    rcases p9 with ⟨rfl, c10⟩ | ⟨rfl, c10⟩
    · refine fz_if_eq (tgt := 49) kX11_of rfl (by decide) (fun c11 => ?_) (fun c11 => ?_)
      · exfalso; omega
      · refine fz_aload_n kX11_of rfl rfl ?_
        refine fz_getR (t := 60) kX11_of rfl rfl ?_
        refine fz_iload_n kX11_of rfl rfl ?_
        refine fz_ialdV (n := 11) (v := h 60 (nu.toNat)) kX11_of rfl rfl (by omega) (by omega) rfl ?_
        have b12 : (-2147483648) ≤ h 60 (nu.toNat) ∧ h 60 (nu.toNat) ≤ 2147483647 := hI.1 60 _
        refine fz_goto (tgt := 51) kX11_of rfl (by decide) ?_
        exact fz_iret kX11_of rfl rfl (fun _ => ⟨rfl, _, rfl, (by omega), (by first | exact Or.inr (Or.inl ⟨lost, c10, lost⟩) | exact Or.inr (Or.inr ⟨lost, c10, rfl⟩) | exact Or.inl ⟨by omega, (by unfold fz_fxM; first | exact Or.inr (Or.inr (Or.inr (Or.inr ⟨by omega, by omega, by omega, by omega, rfl⟩))) | exact Or.inl ⟨by omega, ⟨by omega, by omega⟩, rfl⟩ | exact Or.inr (Or.inl ⟨by omega, ⟨by omega, by omega⟩, rfl⟩) | exact Or.inr (Or.inr (Or.inl ⟨by omega, ⟨by omega, by omega⟩, rfl⟩)) | exact Or.inr (Or.inr (Or.inr (Or.inl ⟨by omega, by omega, rfl⟩))) | omega)⟩)⟩)
    · refine fz_if_eq (tgt := 49) kX11_of rfl (by decide) (fun c14 => ?_) (fun c14 => ?_)
      · refine fz_ldc (x := (-2000000000)) kX11_of rfl rfl rfl ?_
        exact fz_iret kX11_of rfl rfl (fun _ => ⟨rfl, _, rfl, (by omega), (by first | exact Or.inr (Or.inl ⟨lost, c10, lost⟩) | exact Or.inr (Or.inr ⟨lost, c10, rfl⟩) | exact Or.inl ⟨by omega, (by unfold fz_fxM; first | exact Or.inr (Or.inr (Or.inr (Or.inr ⟨by omega, by omega, by omega, by omega, rfl⟩))) | exact Or.inl ⟨by omega, ⟨by omega, by omega⟩, rfl⟩ | exact Or.inr (Or.inl ⟨by omega, ⟨by omega, by omega⟩, rfl⟩) | exact Or.inr (Or.inr (Or.inl ⟨by omega, ⟨by omega, by omega⟩, rfl⟩)) | exact Or.inr (Or.inr (Or.inr (Or.inl ⟨by omega, by omega, rfl⟩))) | omega)⟩)⟩)
      · exfalso; omega
  · refine fz_tswC (j := 10) (tgt := 52) kX11_of rfl c1 (by decide) (by decide) rfl (by decide) ?_
    refine fz_aload_n kX11_of rfl rfl ?_
    refine fz_iload_n kX11_of rfl rfl ?_
    have b16 : 0 ≤ h 53 10 ∧ h 53 10 ≤ 11 := hI.1 53 _
    refine fz_callV (d' := 1) (M' := mX11_isDeed) (As := [fz_i nu]) (st := []) kX11_of rfl rfl vX11_isDeed rfl rfl rfl rfl (Nat.le_of_ble_eq_true rfl) (Nat.le_of_ble_eq_true rfl) (by decide) (sX11_isDeed h hI nu ) (fun H17 r18 q19 o20 => ?_)
    obtain ⟨e21, y22, rfl, p23⟩ := q19
    subst H17
    clear o20
    rcases p23 with ⟨rfl, c24⟩ | ⟨rfl, c24⟩
    · refine fz_if_eq (tgt := 69) kX11_of rfl (by decide) (fun c25 => ?_) (fun c25 => ?_)
      · exfalso; omega
      · refine fz_aload_n kX11_of rfl rfl ?_
        refine fz_getR (t := 61) kX11_of rfl rfl ?_
        refine fz_iload_n kX11_of rfl rfl ?_
        refine fz_ialdV (n := 11) (v := h 61 (nu.toNat)) kX11_of rfl rfl (by omega) (by omega) rfl ?_
        have b26 : 0 ≤ h 61 (nu.toNat) ∧ h 61 (nu.toNat) ≤ 7 := hI.1 61 _
        refine fz_goto (tgt := 71) kX11_of rfl (by decide) ?_
        exact fz_iret kX11_of rfl rfl (fun _ => ⟨rfl, _, rfl, (by omega), (by first | exact Or.inr (Or.inl ⟨lost, c24, lost⟩) | exact Or.inr (Or.inr ⟨lost, c24, rfl⟩) | exact Or.inl ⟨by omega, (by unfold fz_fxM; first | exact Or.inr (Or.inr (Or.inr (Or.inr ⟨by omega, by omega, by omega, by omega, rfl⟩))) | exact Or.inl ⟨by omega, ⟨by omega, by omega⟩, rfl⟩ | exact Or.inr (Or.inl ⟨by omega, ⟨by omega, by omega⟩, rfl⟩) | exact Or.inr (Or.inr (Or.inl ⟨by omega, ⟨by omega, by omega⟩, rfl⟩)) | exact Or.inr (Or.inr (Or.inr (Or.inl ⟨by omega, by omega, rfl⟩))) | omega)⟩)⟩)
    · refine fz_if_eq (tgt := 69) kX11_of rfl (by decide) (fun c28 => ?_) (fun c28 => ?_)
      · refine fz_ldc (x := (-2000000000)) kX11_of rfl rfl rfl ?_
        exact fz_iret kX11_of rfl rfl (fun _ => ⟨rfl, _, rfl, (by omega), (by first | exact Or.inr (Or.inl ⟨lost, c24, lost⟩) | exact Or.inr (Or.inr ⟨lost, c24, rfl⟩) | exact Or.inl ⟨by omega, (by unfold fz_fxM; first | exact Or.inr (Or.inr (Or.inr (Or.inr ⟨by omega, by omega, by omega, by omega, rfl⟩))) | exact Or.inl ⟨by omega, ⟨by omega, by omega⟩, rfl⟩ | exact Or.inr (Or.inl ⟨by omega, ⟨by omega, by omega⟩, rfl⟩) | exact Or.inr (Or.inr (Or.inl ⟨by omega, ⟨by omega, by omega⟩, rfl⟩)) | exact Or.inr (Or.inr (Or.inr (Or.inl ⟨by omega, by omega, rfl⟩))) | omega)⟩)⟩)
      · exfalso; omega
  · refine fz_tswC (j := 11) (tgt := 72) kX11_of rfl c1 (by decide) (by decide) rfl (by decide) ?_
    refine fz_iload_n kX11_of rfl rfl ?_
    refine fz_callS (d' := 1) (M' := mX11_isPerson) (As := [fz_i nu]) (st := []) kX11_of rfl rfl vX11_isPerson rfl rfl (Nat.le_of_ble_eq_true rfl) (Nat.le_of_ble_eq_true rfl) (by decide) (sX11_isPerson h hI nu ) (fun H30 r31 q32 o33 => ?_)
    obtain ⟨e34, y35, rfl, p36⟩ := q32
    subst H30
    clear o33
    rcases p36 with ⟨rfl, c37⟩ | ⟨rfl, c37⟩
    · refine fz_if_eq (tgt := 88) kX11_of rfl (by decide) (fun c38 => ?_) (fun c38 => ?_)
      · exfalso; omega
      · refine fz_aload_n kX11_of rfl rfl ?_
        refine fz_getR (t := 76) kX11_of rfl rfl ?_
        refine fz_iload_n kX11_of rfl rfl ?_
        refine fz_ialdV (n := 4) (v := h 76 (nu.toNat)) kX11_of rfl rfl (by omega) (by omega) rfl ?_
        have b39 : 0 ≤ h 76 (nu.toNat) ∧ h 76 (nu.toNat) ≤ 7 := hI.1 76 _
        refine fz_goto (tgt := 90) kX11_of rfl (by decide) ?_
        exact fz_iret kX11_of rfl rfl (fun _ => ⟨rfl, _, rfl, (by omega), (by first | exact Or.inr (Or.inl ⟨lost, c37, lost⟩) | exact Or.inr (Or.inr ⟨lost, c37, rfl⟩) | exact Or.inl ⟨by omega, (by unfold fz_fxM; first | exact Or.inr (Or.inr (Or.inr (Or.inr ⟨by omega, by omega, by omega, by omega, rfl⟩))) | exact Or.inl ⟨by omega, ⟨by omega, by omega⟩, rfl⟩ | exact Or.inr (Or.inl ⟨by omega, ⟨by omega, by omega⟩, rfl⟩) | exact Or.inr (Or.inr (Or.inl ⟨by omega, ⟨by omega, by omega⟩, rfl⟩)) | exact Or.inr (Or.inr (Or.inr (Or.inl ⟨by omega, by omega, rfl⟩))) | omega)⟩)⟩)
    · refine fz_if_eq (tgt := 88) kX11_of rfl (by decide) (fun c41 => ?_) (fun c41 => ?_)
      · refine fz_ldc (x := (-2000000000)) kX11_of rfl rfl rfl ?_
        exact fz_iret kX11_of rfl rfl (fun _ => ⟨rfl, _, rfl, (by omega), (by first | exact Or.inr (Or.inl ⟨lost, c37, lost⟩) | exact Or.inr (Or.inr ⟨lost, c37, rfl⟩) | exact Or.inl ⟨by omega, (by unfold fz_fxM; first | exact Or.inr (Or.inr (Or.inr (Or.inr ⟨by omega, by omega, by omega, by omega, rfl⟩))) | exact Or.inl ⟨by omega, ⟨by omega, by omega⟩, rfl⟩ | exact Or.inr (Or.inl ⟨by omega, ⟨by omega, by omega⟩, rfl⟩) | exact Or.inr (Or.inr (Or.inl ⟨by omega, ⟨by omega, by omega⟩, rfl⟩)) | exact Or.inr (Or.inr (Or.inr (Or.inl ⟨by omega, by omega, rfl⟩))) | omega)⟩)⟩)
      · exfalso; omega
  · refine fz_tswC (j := 12) (tgt := 91) kX11_of rfl c1 (by decide) (by decide) rfl (by decide) ?_
    refine fz_iload_n kX11_of rfl rfl ?_
    refine fz_if_ne (tgt := 102) kX11_of rfl (by decide) (fun c43 => ?_) (fun c43 => ?_)
    · refine fz_ldc (x := (-2000000000)) kX11_of rfl rfl rfl ?_
      exact fz_iret kX11_of rfl rfl (fun _ => ⟨rfl, _, rfl, (by omega), (by first | exact Or.inr (Or.inl ⟨lost, lost, lost⟩) | exact Or.inr (Or.inr ⟨lost, lost, rfl⟩) | exact Or.inl ⟨by omega, (by unfold fz_fxM; first | exact Or.inr (Or.inr (Or.inr (Or.inr ⟨by omega, by omega, by omega, by omega, rfl⟩))) | exact Or.inl ⟨by omega, ⟨by omega, by omega⟩, rfl⟩ | exact Or.inr (Or.inl ⟨by omega, ⟨by omega, by omega⟩, rfl⟩) | exact Or.inr (Or.inr (Or.inl ⟨by omega, ⟨by omega, by omega⟩, rfl⟩)) | exact Or.inr (Or.inr (Or.inr (Or.inl ⟨by omega, by omega, rfl⟩))) | omega)⟩)⟩)
    · refine fz_aload_n kX11_of rfl rfl ?_
      refine fz_getV (v := h 53 34) kX11_of rfl rfl rfl ?_
      have b45 : 0 ≤ h 53 34 ∧ h 53 34 ≤ 999 := hI.1 53 _
      refine fz_goto (tgt := 104) kX11_of rfl (by decide) ?_
      exact fz_iret kX11_of rfl rfl (fun _ => ⟨rfl, _, rfl, (by omega), (by first | exact Or.inr (Or.inl ⟨lost, lost, lost⟩) | exact Or.inr (Or.inr ⟨lost, lost, rfl⟩) | exact Or.inl ⟨by omega, (by unfold fz_fxM; first | exact Or.inr (Or.inr (Or.inr (Or.inr ⟨by omega, by omega, by omega, by omega, rfl⟩))) | exact Or.inl ⟨by omega, ⟨by omega, by omega⟩, rfl⟩ | exact Or.inr (Or.inl ⟨by omega, ⟨by omega, by omega⟩, rfl⟩) | exact Or.inr (Or.inr (Or.inl ⟨by omega, ⟨by omega, by omega⟩, rfl⟩)) | exact Or.inr (Or.inr (Or.inr (Or.inl ⟨by omega, by omega, rfl⟩))) | omega)⟩)⟩)
  · refine fz_tswO (tgt := 105) kX11_of rfl c1 (by decide) ?_
    have k47 : ¬ (9 ≤ wh ∧ wh ≤ 12) := by omega
    refine fz_aload_n kX11_of rfl rfl ?_
    refine fz_iload_n kX11_of rfl rfl ?_
    refine fz_iload_n kX11_of rfl rfl ?_
    have b49 : 0 ≤ h 53 0 ∧ h 53 0 ≤ 8 := hI.1 53 _
    have b50 : 0 ≤ h 53 2 ∧ h 53 2 ≤ 12 := hI.1 53 _
    have b51 : 0 ≤ h 53 10 ∧ h 53 10 ≤ 11 := hI.1 53 _
    refine fz_callV (d' := 2) (M' := mX11_isOf) (As := [fz_i nu, fz_i wh]) (st := []) kX11_of rfl rfl vX11_isOf rfl rfl rfl rfl (Nat.le_of_ble_eq_true rfl) (Nat.le_of_ble_eq_true rfl) (by decide) (sX11_isOf h hI nu wh ) (fun H52 r53 q54 o55 => ?_)
    obtain ⟨e56, y57, rfl, p58⟩ := q54
    subst H52
    clear o55
    rcases p58 with ⟨rfl, c59⟩ | ⟨rfl, c59⟩
    · refine fz_if_eq (tgt := 123) kX11_of rfl (by decide) (fun c60 => ?_) (fun c60 => ?_)
      · exfalso; omega
      · refine fz_aload_n kX11_of rfl rfl ?_
        refine fz_iload_n kX11_of rfl rfl ?_
        refine fz_iload_n kX11_of rfl rfl ?_
        refine fz_callV (d' := 0) (M' := mX11_get) (As := [fz_i nu, fz_i wh]) (st := []) kX11_of rfl rfl vX11_get rfl rfl rfl rfl (Nat.le_of_ble_eq_true rfl) (Nat.le_of_ble_eq_true rfl) (by decide) (sX11_get h hI nu wh (by omega)) (fun H61 r62 q63 o64 => ?_)
        obtain ⟨e65, y69, rfl, f66, f67, f68⟩ := q63
        subst H61
        clear o64
        refine fz_goto (tgt := 125) kX11_of rfl (by decide) ?_
        exact fz_iret kX11_of rfl rfl (fun _ => ⟨rfl, _, rfl, (by omega), (by first | exact Or.inr (Or.inl ⟨k47, c59, f68⟩) | exact Or.inr (Or.inr ⟨k47, c59, rfl⟩) | exact Or.inl ⟨by omega, (by unfold fz_fxM; first | exact Or.inr (Or.inr (Or.inr (Or.inr ⟨by omega, by omega, by omega, by omega, rfl⟩))) | exact Or.inl ⟨by omega, ⟨by omega, by omega⟩, rfl⟩ | exact Or.inr (Or.inl ⟨by omega, ⟨by omega, by omega⟩, rfl⟩) | exact Or.inr (Or.inr (Or.inl ⟨by omega, ⟨by omega, by omega⟩, rfl⟩)) | exact Or.inr (Or.inr (Or.inr (Or.inl ⟨by omega, by omega, rfl⟩))) | omega)⟩)⟩)
    · refine fz_if_eq (tgt := 123) kX11_of rfl (by decide) (fun c71 => ?_) (fun c71 => ?_)
      · refine fz_ldc (x := (-2000000000)) kX11_of rfl rfl rfl ?_
        exact fz_iret kX11_of rfl rfl (fun _ => ⟨rfl, _, rfl, (by omega), (by first | exact Or.inr (Or.inl ⟨k47, c59, lost⟩) | exact Or.inr (Or.inr ⟨k47, c59, rfl⟩) | exact Or.inl ⟨by omega, (by unfold fz_fxM; first | exact Or.inr (Or.inr (Or.inr (Or.inr ⟨by omega, by omega, by omega, by omega, rfl⟩))) | exact Or.inl ⟨by omega, ⟨by omega, by omega⟩, rfl⟩ | exact Or.inr (Or.inl ⟨by omega, ⟨by omega, by omega⟩, rfl⟩) | exact Or.inr (Or.inr (Or.inl ⟨by omega, ⟨by omega, by omega⟩, rfl⟩)) | exact Or.inr (Or.inr (Or.inr (Or.inl ⟨by omega, by omega, rfl⟩))) | omega)⟩)⟩)
      · exfalso; omega

abbrev qX11_mend (h : fz_H) (nu wh v : Int) : fz_H → Option fz_V → Prop := fun h' r0 => fz_Iv h' ∧ fz_fr [(53, 8), (53, 9), (53, 41), (53, 42), (54, 99999), (57, 99999), (58, 99999), (59, 99999), (62, 99999), (63, 99999), (64, 99999), (80, 99999)] h h' ∧ fz_Xd h' ∧ ∃ r : Int, r0 = some (fz_i r) ∧ ((-2000000000) ≤ r ∧ r ≤ 999) ∧ (h' 53 42 ≤ h' 53 41) ∧ (fz_mM h h' nu wh v r)
set_option maxHeartbeats 1000000 in
set_option maxRecDepth 100000 in
theorem sX11_mend (h : fz_H) (hI : fz_Iv h) (nu wh v : Int) (hXd : fz_Xd h) (hp0 : h 53 42 ≤ h 53 41) : fz_R 3 mX11_mend 0 [(0, fz_r 53), (1, fz_i nu), (2, fz_i wh), (3, fz_i v)] [] h (qX11_mend h nu wh v) := by
  refine fz_knowl (fun hk => ?_)
  have hr_nu : -2147483648 ≤ nu ∧ nu < 2147483648 := hk _ (List.Mem.tail _ (List.Mem.head _))
  have hr_wh : -2147483648 ≤ wh ∧ wh < 2147483648 := hk _ (List.Mem.tail _ (List.Mem.tail _ (List.Mem.head _)))
  have hr_v : -2147483648 ≤ v ∧ v < 2147483648 := hk _ (List.Mem.tail _ (List.Mem.tail _ (List.Mem.tail _ (List.Mem.head _))))
  clear hk
  have hf : fz_fr [(53, 8), (53, 9), (53, 41), (53, 42), (54, 99999), (57, 99999), (58, 99999), (59, 99999), (62, 99999), (63, 99999), (64, 99999), (80, 99999)] h h := fz_fr_rf
  have b1 : 0 ≤ h 53 42 ∧ h 53 42 ≤ 40 := hI.1 53 _
  have b2 : 0 ≤ h 53 41 ∧ h 53 41 ≤ 40 := hI.1 53 _
  refine fz_aload_n kX11_mend rfl rfl ?_
  refine fz_iload_n kX11_mend rfl rfl ?_
  refine fz_iload_n kX11_mend rfl rfl ?_
  have b3 : 0 ≤ h 53 0 ∧ h 53 0 ≤ 8 := hI.1 53 _
  have b4 : 0 ≤ h 53 2 ∧ h 53 2 ≤ 12 := hI.1 53 _
  have b5 : 0 ≤ h 53 10 ∧ h 53 10 ≤ 11 := hI.1 53 _
  refine fz_callV (d' := 2) (M' := mX11_isOf) (As := [fz_i nu, fz_i wh]) (st := []) kX11_mend rfl rfl vX11_isOf rfl rfl rfl rfl (Nat.le_of_ble_eq_true rfl) (Nat.le_of_ble_eq_true rfl) (by decide) (sX11_isOf h hI nu wh ) (fun H6 r7 q8 o9 => ?_)
  obtain ⟨e10, y11, rfl, p12⟩ := q8
  subst H6
  clear o9
  rcases p12 with ⟨rfl, c13⟩ | ⟨rfl, c13⟩
  · refine fz_if_eq (tgt := 17) kX11_mend rfl (by decide) (fun c14 => ?_) (fun c14 => ?_)
    · exfalso; omega
    · have k15 := c13
      have k18 : 0 ≤ wh ∧ wh ≤ 8 := by omega
      refine fz_iload_n kX11_mend rfl rfl ?_
      refine fz_iload_n kX11_mend rfl rfl ?_
      refine fz_callS (d' := 2) (M' := mX11_isFit) (As := [fz_i wh, fz_i v]) (st := []) kX11_mend rfl rfl vX11_isFit rfl rfl (Nat.le_of_ble_eq_true rfl) (Nat.le_of_ble_eq_true rfl) (by decide) (sX11_isFit h hI wh v (by omega)) (fun H19 r20 q21 o22 => ?_)
      obtain ⟨e23, y26, rfl, p27, f24, f25⟩ := q21
      subst H19
      clear o22
      refine fz_if_ne (tgt := 20) kX11_mend rfl (by decide) (fun c28 => ?_) (fun c28 => ?_)
      · have k29 : fz_okN h nu wh v := ⟨k15, (f25.elim (fun q => q.2) (fun q => absurd q.1 (by omega)))⟩
        refine fz_aload_n kX11_mend rfl rfl ?_
        refine fz_iload_n kX11_mend rfl rfl ?_
        refine fz_iload_n kX11_mend rfl rfl ?_
        refine fz_callV (d' := 0) (M' := mX11_get) (As := [fz_i nu, fz_i wh]) (st := []) kX11_mend rfl rfl vX11_get rfl rfl rfl rfl (Nat.le_of_ble_eq_true rfl) (Nat.le_of_ble_eq_true rfl) (by decide) (sX11_get h hI nu wh (by omega)) (fun H31 r32 q33 o34 => ?_)
        obtain ⟨e35, y39, rfl, f36, f37, f38⟩ := q33
        subst H31
        clear o34
        have k40 : y39 = fz_gM h nu wh := f38
        refine fz_istore (ls' := [(4, fz_i y39), (0, fz_r 53), (1, fz_i nu), (2, fz_i wh), (3, fz_i v)]) kX11_mend rfl (by decide) rfl ?_
        refine fz_iload kX11_mend rfl rfl ?_
        refine fz_iload_n kX11_mend rfl rfl ?_
        refine fz_icmp_ne (tgt := 37) kX11_mend rfl (by decide) (fun c42 => ?_) (fun c42 => ?_)
        · have k43 := fz_om_of c13 (show fz_ft wh v 1 from fun _ => f24 (by omega))
          have k45 := k43
          have k47 := fz_om_b k43
          have k48 := fz_om_b f37
          refine fz_aload_n kX11_mend rfl rfl ?_
          refine fz_iload_n kX11_mend rfl rfl ?_
          refine fz_iload_n kX11_mend rfl rfl ?_
          refine fz_iload_n kX11_mend rfl rfl ?_
          refine fz_callV (d' := 0) (M' := mX11_becomes) (As := [fz_i nu, fz_i wh, fz_i v]) (st := []) kX11_mend rfl rfl vX11_becomes rfl rfl rfl rfl (Nat.le_of_ble_eq_true rfl) (Nat.le_of_ble_eq_true rfl) (by decide) (sX11_becomes h hI nu wh v (by omega) k43) (fun H49 r50 q51 o52 => ?_)
          obtain ⟨hI53, hf54, rfl, f55⟩ := q51
          clear o52
          have hf56 := fz_fr_tr hf hf54 (show fz_su [(53, 8), (53, 9), (54, 99999), (57, 99999), (58, 99999), (59, 99999), (62, 99999), (63, 99999), (64, 99999)] [(53, 8), (53, 9), (53, 41), (53, 42), (54, 99999), (57, 99999), (58, 99999), (59, 99999), (62, 99999), (63, 99999), (64, 99999), (80, 99999)] = true from rfl)
          have k57 : H49 53 42 = (h 53 42) := (hf54 53 42 rfl).trans rfl
          have k58 : H49 53 41 = (h 53 41) := (hf54 53 41 rfl).trans rfl
          have hXd59 : fz_Xd H49 := fz_Xd_eq (funext fun s => hf54 80 s rfl) hXd
          have t60 : H49 53 42 = h 53 42 := hf54 53 42 rfl
          refine fz_aload_n kX11_mend rfl rfl ?_
          refine fz_getV (v := (h 53 42)) kX11_mend rfl rfl k57 ?_
          refine fz_bipush ⟨by decide, by decide⟩ kX11_mend rfl ?_
          refine fz_icmp_ne (tgt := 96) kX11_mend rfl (by decide) (fun c61 => ?_) (fun c61 => ?_)
          · have k62 := fun c => fz_Xx_of (c := c) hXd59
            refine fz_aload_n kX11_mend rfl rfl ?_
            refine fz_getR (t := 80) kX11_mend rfl rfl ?_
            refine fz_iconst ⟨by decide, by decide⟩ kX11_mend rfl ?_
            refine fz_aload_n kX11_mend rfl rfl ?_
            refine fz_getV (v := (h 53 42)) kX11_mend rfl rfl k57 ?_
            refine fz_imulN kX11_mend rfl (by omega) ?_
            refine fz_iload_n kX11_mend rfl rfl ?_
            refine fz_iast (n := 160) kX11_mend rfl rfl (by omega) (by omega) ?_
            refine fz_nmu (S := [(53, 8), (53, 9), (53, 41), (53, 42), (54, 99999), (57, 99999), (58, 99999), (59, 99999), (62, 99999), (63, 99999), (64, 99999), (80, 99999)]) (h0 := h) (fz_Iv_up hI53 (by decide) (show ((-2147483648) : Int) ≤ nu by omega) (show (nu : Int) ≤ 2147483647 by omega)) (fz_fr_up hf56 rfl) (fun H64 hI65 hf66 e67 => ?_)
            have k68 : H64 53 42 = (h 53 42) := by rw [e67]; exact (fz_up_o (by decide)).trans k57
            have k69 : H64 53 41 = (h 53 41) := by rw [e67]; exact (fz_up_o (by decide)).trans k58
            have t70 : H64 53 42 = H49 53 42 := by rw [e67]; exact fz_up_o (by decide)
            refine fz_aload_n kX11_mend rfl rfl ?_
            refine fz_getR (t := 80) kX11_mend rfl rfl ?_
            refine fz_iconst ⟨by decide, by decide⟩ kX11_mend rfl ?_
            refine fz_aload_n kX11_mend rfl rfl ?_
            refine fz_getV (v := (h 53 42)) kX11_mend rfl rfl k68 ?_
            refine fz_imulN kX11_mend rfl (by omega) ?_
            refine fz_iconst ⟨by decide, by decide⟩ kX11_mend rfl ?_
            refine fz_iaddN kX11_mend rfl (by omega) ?_
            refine fz_iload_n kX11_mend rfl rfl ?_
            refine fz_iast (n := 160) kX11_mend rfl rfl (by omega) (by omega) ?_
            refine fz_nmu (S := [(53, 8), (53, 9), (53, 41), (53, 42), (54, 99999), (57, 99999), (58, 99999), (59, 99999), (62, 99999), (63, 99999), (64, 99999), (80, 99999)]) (h0 := h) (fz_Iv_up hI65 (by decide) (show ((-2147483648) : Int) ≤ wh by omega) (show (wh : Int) ≤ 2147483647 by omega)) (fz_fr_up hf66 rfl) (fun H72 hI73 hf74 e75 => ?_)
            have k76 : H72 53 42 = (h 53 42) := by rw [e75]; exact (fz_up_o (by decide)).trans k68
            have k77 : H72 53 41 = (h 53 41) := by rw [e75]; exact (fz_up_o (by decide)).trans k69
            have t78 : H72 53 42 = H64 53 42 := by rw [e75]; exact fz_up_o (by decide)
            refine fz_aload_n kX11_mend rfl rfl ?_
            refine fz_getR (t := 80) kX11_mend rfl rfl ?_
            refine fz_iconst ⟨by decide, by decide⟩ kX11_mend rfl ?_
            refine fz_aload_n kX11_mend rfl rfl ?_
            refine fz_getV (v := (h 53 42)) kX11_mend rfl rfl k76 ?_
            refine fz_imulN kX11_mend rfl (by omega) ?_
            refine fz_iconst ⟨by decide, by decide⟩ kX11_mend rfl ?_
            refine fz_iaddN kX11_mend rfl (by omega) ?_
            refine fz_iload kX11_mend rfl rfl ?_
            refine fz_iast (n := 160) kX11_mend rfl rfl (by omega) (by omega) ?_
            refine fz_nmu (S := [(53, 8), (53, 9), (53, 41), (53, 42), (54, 99999), (57, 99999), (58, 99999), (59, 99999), (62, 99999), (63, 99999), (64, 99999), (80, 99999)]) (h0 := h) (fz_Iv_up hI73 (by decide) (show ((-2147483648) : Int) ≤ y39 by omega) (show (y39 : Int) ≤ 2147483647 by omega)) (fz_fr_up hf74 rfl) (fun H79 hI80 hf81 e82 => ?_)
            have k83 : H79 53 42 = (h 53 42) := by rw [e82]; exact (fz_up_o (by decide)).trans k76
            have k84 : H79 53 41 = (h 53 41) := by rw [e82]; exact (fz_up_o (by decide)).trans k77
            have t85 : H79 53 42 = H72 53 42 := by rw [e82]; exact fz_up_o (by decide)
            refine fz_aload_n kX11_mend rfl rfl ?_
            refine fz_getR (t := 80) kX11_mend rfl rfl ?_
            refine fz_iconst ⟨by decide, by decide⟩ kX11_mend rfl ?_
            refine fz_aload_n kX11_mend rfl rfl ?_
            refine fz_getV (v := (h 53 42)) kX11_mend rfl rfl k83 ?_
            refine fz_imulN kX11_mend rfl (by omega) ?_
            refine fz_iconst ⟨by decide, by decide⟩ kX11_mend rfl ?_
            refine fz_iaddN kX11_mend rfl (by omega) ?_
            refine fz_iload_n kX11_mend rfl rfl ?_
            refine fz_iast (n := 160) kX11_mend rfl rfl (by omega) (by omega) ?_
            refine fz_nmu (S := [(53, 8), (53, 9), (53, 41), (53, 42), (54, 99999), (57, 99999), (58, 99999), (59, 99999), (62, 99999), (63, 99999), (64, 99999), (80, 99999)]) (h0 := h) (fz_Iv_up hI80 (by decide) (show ((-2147483648) : Int) ≤ v by omega) (show (v : Int) ≤ 2147483647 by omega)) (fz_fr_up hf81 rfl) (fun H86 hI87 hf88 e89 => ?_)
            have k90 : H86 53 42 = (h 53 42) := by rw [e89]; exact (fz_up_o (by decide)).trans k83
            have k91 : H86 53 41 = (h 53 41) := by rw [e89]; exact (fz_up_o (by decide)).trans k84
            have t92 : H86 53 42 = H79 53 42 := by rw [e89]; exact fz_up_o (by decide)
            have hXd93 : fz_Xd H86 := by first | exact fz_Xd_4 (k62 _) (by omega) rfl e67 e75 e82 e89 f37 k45 | exact fz_Xd_4 (k62 0) (by omega) (by omega) e67 e75 e82 e89 f37 k45
            refine fz_aload_n kX11_mend rfl rfl ?_
            refine fz_dup rfl kX11_mend rfl ?_
            refine fz_getV (v := (h 53 42)) kX11_mend rfl rfl k90 ?_
            refine fz_iconst ⟨by decide, by decide⟩ kX11_mend rfl ?_
            refine fz_iaddN kX11_mend rfl (by omega) ?_
            refine fz_putI kX11_mend rfl rfl rfl ?_
            refine fz_nmu (S := [(53, 8), (53, 9), (53, 41), (53, 42), (54, 99999), (57, 99999), (58, 99999), (59, 99999), (62, 99999), (63, 99999), (64, 99999), (80, 99999)]) (h0 := h) (fz_Iv_up hI87 (by decide) (show (0 : Int) ≤ ((h 53 42) + 1) by omega) (show (((h 53 42) + 1) : Int) ≤ 40 by omega)) (fz_fr_up hf88 rfl) (fun H95 hI96 hf97 e98 => ?_)
            have k99 : H95 53 41 = (h 53 41) := by rw [e98]; exact (fz_up_s (by decide)).trans k91
            have k100 : H95 53 42 = ((h 53 42) + 1) := by rw [e98]; exact fz_up_e
            have hXd101 : fz_Xd H95 := fz_Xd_eq (by rw [e98]; exact fz_up_ne (by decide)) hXd93
            refine fz_aload_n kX11_mend rfl rfl ?_
            refine fz_aload_n kX11_mend rfl rfl ?_
            refine fz_getV (v := ((h 53 42) + 1)) kX11_mend rfl rfl k100 ?_
            refine fz_putI kX11_mend rfl rfl rfl ?_
            refine fz_nmu (S := [(53, 8), (53, 9), (53, 41), (53, 42), (54, 99999), (57, 99999), (58, 99999), (59, 99999), (62, 99999), (63, 99999), (64, 99999), (80, 99999)]) (h0 := h) (fz_Iv_up hI96 (by decide) (show (0 : Int) ≤ ((h 53 42) + 1) by omega) (show (((h 53 42) + 1) : Int) ≤ 40 by omega)) (fz_fr_up hf97 rfl) (fun H102 hI103 hf104 e105 => ?_)
            have k106 : H102 53 42 = ((h 53 42) + 1) := by rw [e105]; exact (fz_up_s (by decide)).trans k100
            have k107 : H102 53 41 = ((h 53 42) + 1) := by rw [e105]; exact fz_up_e
            have t108 : H102 53 42 = H95 53 42 := by rw [e105]; exact fz_up_s (by decide)
            have hXd109 : fz_Xd H102 := fz_Xd_eq (by rw [e105]; exact fz_up_ne (by decide)) hXd101
            refine fz_iload kX11_mend rfl rfl ?_
            exact fz_iret kX11_mend rfl rfl (fun _ => ⟨hI103, hf104, hXd109, _, rfl, (by omega), (by omega), (by first | exact fz_mM_in k29 k40 c42 f55 (fz_nr_53 (fz_nr_53 (fz_nr_80 (fz_nr_80 (fz_nr_80 (fz_nr_80 (fz_nr_53 (fz_nr_cp lost) lost (by decide)) e67) e75) e82) e89) e98 (by decide)) e105 (by decide)) (Or.inr ⟨by omega, fz_cgM_in (fz_sh_80 lost (by omega) lost) e67 e75 e82 e89 e98 e105 (by omega) (by omega) (by omega) (by omega) (by omega) (by omega)⟩) | exact fz_mM_in k29 k40 c42 f55 (fz_nr_53 (fz_nr_53 (fz_nr_80 (fz_nr_80 (fz_nr_80 (fz_nr_80 fz_nr_0 e67) e75) e82) e89) e98 (by decide)) e105 (by decide)) (Or.inl ⟨by omega, fz_cgM_in rfl e67 e75 e82 e89 e98 e105 (by omega) (by omega) (by omega) (by omega) (by omega) (by omega)⟩) | exact Or.inr (Or.inl ⟨k29, k40, (by omega), rfl⟩) | exact Or.inl ⟨fun z => c13 z.1, rfl, rfl⟩ | exact Or.inl ⟨fun z => f25.elim (fun q => absurd q.1 (by omega)) (fun q => q.2 z.2), rfl, rfl⟩)⟩)
          · have k111 := fz_Xs_0 hXd59
            refine fz_iconst ⟨by decide, by decide⟩ kX11_mend rfl ?_
            refine fz_istore (ls' := [(5, fz_i 0), (4, fz_i y39), (0, fz_r 53), (1, fz_i nu), (2, fz_i wh), (3, fz_i v)]) kX11_mend rfl (by decide) rfl ?_
            have lp118 : ∀ (n117 : Nat) (x113 : Int) (H114 : fz_H), fz_Iv H114 → fz_fr [(53, 8), (53, 9), (53, 41), (53, 42), (54, 99999), (57, 99999), (58, 99999), (59, 99999), (62, 99999), (63, 99999), (64, 99999), (80, 99999)] h H114 → (0 ≤ x113 ∧ x113 ≤ 156) → (H114 53 42 = 40) → (fz_Xs H114 x113) → (H114 = fz_cp H49 80 (4 : Int).toNat 80 (0 : Int).toNat (x113 : Int).toNat) → (156 - x113).toNat < n117 → fz_R 3 mX11_mend 56 [(5, fz_i x113), (4, fz_i y39), (0, fz_r 53), (1, fz_i nu), (2, fz_i wh), (3, fz_i v)] [] H114 (qX11_mend h nu wh v) := by
              intro n117
              induction n117 with
              | zero => intro x113 H114 hI115 hf116 hv121 hv122 hv123 hv124 hm120; exact absurd hm120 (by omega)
              | succ n117 ih119 =>
                intro x113 H114 hI115 hf116 hv121 hv122 hv123 hv124 hm120
                refine fz_iload kX11_mend rfl rfl ?_
                refine fz_sipush ⟨by decide, by decide⟩ kX11_mend rfl ?_
                refine fz_icmp_ge (tgt := 86) kX11_mend rfl (by decide) (fun c125 => ?_) (fun c125 => ?_)
                · refine fz_aload_n kX11_mend rfl rfl ?_
                  refine fz_dup rfl kX11_mend rfl ?_
                  obtain ⟨v126, e127⟩ : ∃ z, H114 53 (42) = z := ⟨_, rfl⟩
                  refine fz_getV (v := v126) kX11_mend rfl rfl e127 ?_
                  have b128 : 0 ≤ v126 ∧ v126 ≤ 40 := by rw [← e127]; exact hI115.1 53 _
                  refine fz_iconst ⟨by decide, by decide⟩ kX11_mend rfl ?_
                  refine fz_isubN kX11_mend rfl (by omega) ?_
                  refine fz_putI kX11_mend rfl rfl rfl ?_
                  refine fz_nmu (S := [(53, 8), (53, 9), (53, 41), (53, 42), (54, 99999), (57, 99999), (58, 99999), (59, 99999), (62, 99999), (63, 99999), (64, 99999), (80, 99999)]) (h0 := h) (fz_Iv_up hI115 (by decide) (show (0 : Int) ≤ (v126 - 1) by omega) (show ((v126 - 1) : Int) ≤ 40 by omega)) (fz_fr_up hf116 rfl) (fun H129 hI130 hf131 e132 => ?_)
                  have k133 : H129 53 42 = (v126 - 1) := by rw [e132]; exact fz_up_e
                  have k134 := fun (_ : Nat) => fz_Xx_B hv123 (by omega) e132
                  refine fz_aload_n kX11_mend rfl rfl ?_
                  refine fz_getR (t := 80) kX11_mend rfl rfl ?_
                  refine fz_iconst ⟨by decide, by decide⟩ kX11_mend rfl ?_
                  refine fz_aload_n kX11_mend rfl rfl ?_
                  refine fz_getV (v := (v126 - 1)) kX11_mend rfl rfl k133 ?_
                  refine fz_imulN kX11_mend rfl (by omega) ?_
                  refine fz_iload_n kX11_mend rfl rfl ?_
                  refine fz_iast (n := 160) kX11_mend rfl rfl (by omega) (by omega) ?_
                  refine fz_nmu (S := [(53, 8), (53, 9), (53, 41), (53, 42), (54, 99999), (57, 99999), (58, 99999), (59, 99999), (62, 99999), (63, 99999), (64, 99999), (80, 99999)]) (h0 := h) (fz_Iv_up hI130 (by decide) (show ((-2147483648) : Int) ≤ nu by omega) (show (nu : Int) ≤ 2147483647 by omega)) (fz_fr_up hf131 rfl) (fun H136 hI137 hf138 e139 => ?_)
                  have k140 : H136 53 42 = (v126 - 1) := by rw [e139]; exact (fz_up_o (by decide)).trans k133
                  have t141 : H136 53 42 = H129 53 42 := by rw [e139]; exact fz_up_o (by decide)
                  refine fz_aload_n kX11_mend rfl rfl ?_
                  refine fz_getR (t := 80) kX11_mend rfl rfl ?_
                  refine fz_iconst ⟨by decide, by decide⟩ kX11_mend rfl ?_
                  refine fz_aload_n kX11_mend rfl rfl ?_
                  refine fz_getV (v := (v126 - 1)) kX11_mend rfl rfl k140 ?_
                  refine fz_imulN kX11_mend rfl (by omega) ?_
                  refine fz_iconst ⟨by decide, by decide⟩ kX11_mend rfl ?_
                  refine fz_iaddN kX11_mend rfl (by omega) ?_
                  refine fz_iload_n kX11_mend rfl rfl ?_
                  refine fz_iast (n := 160) kX11_mend rfl rfl (by omega) (by omega) ?_
                  refine fz_nmu (S := [(53, 8), (53, 9), (53, 41), (53, 42), (54, 99999), (57, 99999), (58, 99999), (59, 99999), (62, 99999), (63, 99999), (64, 99999), (80, 99999)]) (h0 := h) (fz_Iv_up hI137 (by decide) (show ((-2147483648) : Int) ≤ wh by omega) (show (wh : Int) ≤ 2147483647 by omega)) (fz_fr_up hf138 rfl) (fun H142 hI143 hf144 e145 => ?_)
                  have k146 : H142 53 42 = (v126 - 1) := by rw [e145]; exact (fz_up_o (by decide)).trans k140
                  have t147 : H142 53 42 = H136 53 42 := by rw [e145]; exact fz_up_o (by decide)
                  refine fz_aload_n kX11_mend rfl rfl ?_
                  refine fz_getR (t := 80) kX11_mend rfl rfl ?_
                  refine fz_iconst ⟨by decide, by decide⟩ kX11_mend rfl ?_
                  refine fz_aload_n kX11_mend rfl rfl ?_
                  refine fz_getV (v := (v126 - 1)) kX11_mend rfl rfl k146 ?_
                  refine fz_imulN kX11_mend rfl (by omega) ?_
                  refine fz_iconst ⟨by decide, by decide⟩ kX11_mend rfl ?_
                  refine fz_iaddN kX11_mend rfl (by omega) ?_
                  refine fz_iload kX11_mend rfl rfl ?_
                  refine fz_iast (n := 160) kX11_mend rfl rfl (by omega) (by omega) ?_
                  refine fz_nmu (S := [(53, 8), (53, 9), (53, 41), (53, 42), (54, 99999), (57, 99999), (58, 99999), (59, 99999), (62, 99999), (63, 99999), (64, 99999), (80, 99999)]) (h0 := h) (fz_Iv_up hI143 (by decide) (show ((-2147483648) : Int) ≤ y39 by omega) (show (y39 : Int) ≤ 2147483647 by omega)) (fz_fr_up hf144 rfl) (fun H148 hI149 hf150 e151 => ?_)
                  have k152 : H148 53 42 = (v126 - 1) := by rw [e151]; exact (fz_up_o (by decide)).trans k146
                  have t153 : H148 53 42 = H142 53 42 := by rw [e151]; exact fz_up_o (by decide)
                  refine fz_aload_n kX11_mend rfl rfl ?_
                  refine fz_getR (t := 80) kX11_mend rfl rfl ?_
                  refine fz_iconst ⟨by decide, by decide⟩ kX11_mend rfl ?_
                  refine fz_aload_n kX11_mend rfl rfl ?_
                  refine fz_getV (v := (v126 - 1)) kX11_mend rfl rfl k152 ?_
                  refine fz_imulN kX11_mend rfl (by omega) ?_
                  refine fz_iconst ⟨by decide, by decide⟩ kX11_mend rfl ?_
                  refine fz_iaddN kX11_mend rfl (by omega) ?_
                  refine fz_iload_n kX11_mend rfl rfl ?_
                  refine fz_iast (n := 160) kX11_mend rfl rfl (by omega) (by omega) ?_
                  refine fz_nmu (S := [(53, 8), (53, 9), (53, 41), (53, 42), (54, 99999), (57, 99999), (58, 99999), (59, 99999), (62, 99999), (63, 99999), (64, 99999), (80, 99999)]) (h0 := h) (fz_Iv_up hI149 (by decide) (show ((-2147483648) : Int) ≤ v by omega) (show (v : Int) ≤ 2147483647 by omega)) (fz_fr_up hf150 rfl) (fun H154 hI155 hf156 e157 => ?_)
                  have k158 : H154 53 42 = (v126 - 1) := by rw [e157]; exact (fz_up_o (by decide)).trans k152
                  have t159 : H154 53 42 = H148 53 42 := by rw [e157]; exact fz_up_o (by decide)
                  have hXd160 : fz_Xd H154 := by first | exact fz_Xd_4 (k134 _) (by omega) rfl e139 e145 e151 e157 f37 k45 | exact fz_Xd_4 (k134 0) (by omega) (by omega) e139 e145 e151 e157 f37 k45
                  refine fz_aload_n kX11_mend rfl rfl ?_
                  refine fz_dup rfl kX11_mend rfl ?_
                  refine fz_getV (v := (v126 - 1)) kX11_mend rfl rfl k158 ?_
                  refine fz_iconst ⟨by decide, by decide⟩ kX11_mend rfl ?_
                  refine fz_iaddN kX11_mend rfl (by omega) ?_
                  refine fz_putI kX11_mend rfl rfl rfl ?_
                  refine fz_nmu (S := [(53, 8), (53, 9), (53, 41), (53, 42), (54, 99999), (57, 99999), (58, 99999), (59, 99999), (62, 99999), (63, 99999), (64, 99999), (80, 99999)]) (h0 := h) (fz_Iv_up hI155 (by decide) (show (0 : Int) ≤ ((v126 - 1) + 1) by omega) (show (((v126 - 1) + 1) : Int) ≤ 40 by omega)) (fz_fr_up hf156 rfl) (fun H162 hI163 hf164 e165 => ?_)
                  have k166 : H162 53 42 = ((v126 - 1) + 1) := by rw [e165]; exact fz_up_e
                  have hXd167 : fz_Xd H162 := fz_Xd_eq (by rw [e165]; exact fz_up_ne (by decide)) hXd160
                  refine fz_aload_n kX11_mend rfl rfl ?_
                  refine fz_aload_n kX11_mend rfl rfl ?_
                  refine fz_getV (v := ((v126 - 1) + 1)) kX11_mend rfl rfl k166 ?_
                  refine fz_putI kX11_mend rfl rfl rfl ?_
                  refine fz_nmu (S := [(53, 8), (53, 9), (53, 41), (53, 42), (54, 99999), (57, 99999), (58, 99999), (59, 99999), (62, 99999), (63, 99999), (64, 99999), (80, 99999)]) (h0 := h) (fz_Iv_up hI163 (by decide) (show (0 : Int) ≤ ((v126 - 1) + 1) by omega) (show (((v126 - 1) + 1) : Int) ≤ 40 by omega)) (fz_fr_up hf164 rfl) (fun H168 hI169 hf170 e171 => ?_)
                  have k172 : H168 53 42 = ((v126 - 1) + 1) := by rw [e171]; exact (fz_up_s (by decide)).trans k166
                  have k173 : H168 53 41 = ((v126 - 1) + 1) := by rw [e171]; exact fz_up_e
                  have t174 : H168 53 42 = H162 53 42 := by rw [e171]; exact fz_up_s (by decide)
                  have hXd175 : fz_Xd H168 := fz_Xd_eq (by rw [e171]; exact fz_up_ne (by decide)) hXd167
                  refine fz_iload kX11_mend rfl rfl ?_
                  exact fz_iret kX11_mend rfl rfl (fun _ => ⟨hI169, hf170, hXd175, _, rfl, (by omega), (by omega), (by first | exact fz_mM_in k29 k40 c42 f55 (fz_nr_53 (fz_nr_53 (fz_nr_80 (fz_nr_80 (fz_nr_80 (fz_nr_80 (fz_nr_53 (fz_nr_cp hv124) e132 (by decide)) e139) e145) e151) e157) e165 (by decide)) e171 (by decide)) (Or.inr ⟨by omega, fz_cgM_in (fz_sh_80 hv124 (by omega) e132) e139 e145 e151 e157 e165 e171 (by omega) (by omega) (by omega) (by omega) (by omega) (by omega)⟩) | exact fz_mM_in k29 k40 c42 f55 (fz_nr_53 (fz_nr_53 (fz_nr_80 (fz_nr_80 (fz_nr_80 (fz_nr_80 fz_nr_0 e139) e145) e151) e157) e165 (by decide)) e171 (by decide)) (Or.inl ⟨by omega, fz_cgM_in rfl e139 e145 e151 e157 e165 e171 (by omega) (by omega) (by omega) (by omega) (by omega) (by omega)⟩) | exact Or.inr (Or.inl ⟨k29, k40, (by omega), rfl⟩) | exact Or.inl ⟨fun z => c13 z.1, rfl, rfl⟩ | exact Or.inl ⟨fun z => f25.elim (fun q => absurd q.1 (by omega)) (fun q => q.2 z.2), rfl, rfl⟩)⟩)
                · refine fz_aload_n kX11_mend rfl rfl ?_
                  refine fz_getR (t := 80) kX11_mend rfl rfl ?_
                  refine fz_iload kX11_mend rfl rfl ?_
                  refine fz_aload_n kX11_mend rfl rfl ?_
                  refine fz_getR (t := 80) kX11_mend rfl rfl ?_
                  refine fz_iload kX11_mend rfl rfl ?_
                  refine fz_iconst ⟨by decide, by decide⟩ kX11_mend rfl ?_
                  refine fz_iaddN kX11_mend rfl (by omega) ?_
                  obtain ⟨v177, e178⟩ : ∃ z, H114 80 ((x113 + 4).toNat) = z := ⟨_, rfl⟩
                  refine fz_ialdV (n := 160) (v := v177) kX11_mend rfl rfl (by omega) (by omega) e178 ?_
                  have b179 : (-2147483648) ≤ v177 ∧ v177 ≤ 2147483647 := by rw [← e178]; exact hI115.1 80 _
                  refine fz_iast (n := 160) kX11_mend rfl rfl (by omega) (by omega) ?_
                  refine fz_nmu (S := [(53, 8), (53, 9), (53, 41), (53, 42), (54, 99999), (57, 99999), (58, 99999), (59, 99999), (62, 99999), (63, 99999), (64, 99999), (80, 99999)]) (h0 := h) (fz_Iv_up hI115 (by decide) (show ((-2147483648) : Int) ≤ v177 by omega) (show (v177 : Int) ≤ 2147483647 by omega)) (fz_fr_up hf116 rfl) (fun H180 hI181 hf182 e183 => ?_)
                  have t184 : H180 53 42 = H114 53 42 := by rw [e183]; exact fz_up_o (by decide)
                  refine fz_iincN (ls' := [(5, fz_i (x113 + 1)), (4, fz_i y39), (0, fz_r 53), (1, fz_i nu), (2, fz_i wh), (3, fz_i v)]) kX11_mend rfl (by decide) rfl (by omega) rfl ?_
                  refine fz_goto (tgt := 56) kX11_mend rfl (by decide) ?_
                  exact ih119 (x113 + 1) H180 hI181 hf182 (by omega) (by rw [e183]; exact (fz_up_o (by decide)).trans hv122) (by rw [e183]; exact fz_Xs_st hv123 (by omega) e178) (fz_cp_fwI hv124 e183 e178 (by omega) (by omega) (by omega) (by omega)) (by omega)
            exact lp118 _ 0 H49 hI53 hf56 (by omega) (by omega) (k111) (fz_cp_0.symm) (Nat.lt_succ_self _)
        · refine fz_iload kX11_mend rfl rfl ?_
          exact fz_iret kX11_mend rfl rfl (fun _ => ⟨hI, hf, hXd, _, rfl, (by omega), (by omega), (by first | exact fz_mM_in k29 k40 c42 lost (fz_nr_53 (fz_nr_53 (fz_nr_80 (fz_nr_80 (fz_nr_80 (fz_nr_80 (fz_nr_53 (fz_nr_cp lost) lost (by decide)) lost) lost) lost) lost) lost (by decide)) lost (by decide)) (Or.inr ⟨by omega, fz_cgM_in (fz_sh_80 lost (by omega) lost) lost lost lost lost lost lost (by omega) (by omega) (by omega) (by omega) (by omega) (by omega)⟩) | exact fz_mM_in k29 k40 c42 lost (fz_nr_53 (fz_nr_53 (fz_nr_80 (fz_nr_80 (fz_nr_80 (fz_nr_80 fz_nr_0 lost) lost) lost) lost) lost (by decide)) lost (by decide)) (Or.inl ⟨by omega, fz_cgM_in rfl lost lost lost lost lost lost (by omega) (by omega) (by omega) (by omega) (by omega) (by omega)⟩) | exact Or.inr (Or.inl ⟨k29, k40, (by omega), rfl⟩) | exact Or.inl ⟨fun z => c13 z.1, rfl, rfl⟩ | exact Or.inl ⟨fun z => f25.elim (fun q => absurd q.1 (by omega)) (fun q => q.2 z.2), rfl, rfl⟩)⟩)
      · refine fz_ldc (x := (-2000000000)) kX11_mend rfl rfl rfl ?_
        exact fz_iret kX11_mend rfl rfl (fun _ => ⟨hI, hf, hXd, _, rfl, (by omega), (by omega), (by first | exact fz_mM_in lost lost lost lost (fz_nr_53 (fz_nr_53 (fz_nr_80 (fz_nr_80 (fz_nr_80 (fz_nr_80 (fz_nr_53 (fz_nr_cp lost) lost (by decide)) lost) lost) lost) lost) lost (by decide)) lost (by decide)) (Or.inr ⟨by omega, fz_cgM_in (fz_sh_80 lost (by omega) lost) lost lost lost lost lost lost (by omega) (by omega) (by omega) (by omega) (by omega) (by omega)⟩) | exact fz_mM_in lost lost lost lost (fz_nr_53 (fz_nr_53 (fz_nr_80 (fz_nr_80 (fz_nr_80 (fz_nr_80 fz_nr_0 lost) lost) lost) lost) lost (by decide)) lost (by decide)) (Or.inl ⟨by omega, fz_cgM_in rfl lost lost lost lost lost lost (by omega) (by omega) (by omega) (by omega) (by omega) (by omega)⟩) | exact Or.inr (Or.inl ⟨lost, lost, (by omega), rfl⟩) | exact Or.inl ⟨fun z => c13 z.1, rfl, rfl⟩ | exact Or.inl ⟨fun z => f25.elim (fun q => absurd q.1 (by omega)) (fun q => q.2 z.2), rfl, rfl⟩)⟩)
  · refine fz_if_eq (tgt := 17) kX11_mend rfl (by decide) (fun c193 => ?_) (fun c193 => ?_)
    · refine fz_ldc (x := (-2000000000)) kX11_mend rfl rfl rfl ?_
      exact fz_iret kX11_mend rfl rfl (fun _ => ⟨hI, hf, hXd, _, rfl, (by omega), (by omega), (by first | exact fz_mM_in lost lost lost lost (fz_nr_53 (fz_nr_53 (fz_nr_80 (fz_nr_80 (fz_nr_80 (fz_nr_80 (fz_nr_53 (fz_nr_cp lost) lost (by decide)) lost) lost) lost) lost) lost (by decide)) lost (by decide)) (Or.inr ⟨by omega, fz_cgM_in (fz_sh_80 lost (by omega) lost) lost lost lost lost lost lost (by omega) (by omega) (by omega) (by omega) (by omega) (by omega)⟩) | exact fz_mM_in lost lost lost lost (fz_nr_53 (fz_nr_53 (fz_nr_80 (fz_nr_80 (fz_nr_80 (fz_nr_80 fz_nr_0 lost) lost) lost) lost) lost (by decide)) lost (by decide)) (Or.inl ⟨by omega, fz_cgM_in rfl lost lost lost lost lost lost (by omega) (by omega) (by omega) (by omega) (by omega) (by omega)⟩) | exact Or.inr (Or.inl ⟨lost, lost, (by omega), rfl⟩) | exact Or.inl ⟨fun z => c13 z.1, rfl, rfl⟩ | exact Or.inl ⟨fun z => lost.elim (fun q => absurd q.1 (by omega)) (fun q => q.2 z.2), rfl, rfl⟩)⟩)
    · exfalso; omega

abbrev qX11_undo (h : fz_H) : fz_H → Option fz_V → Prop := fun h' r0 => fz_Iv h' ∧ fz_fr [(53, 8), (53, 9), (53, 42), (54, 99999), (57, 99999), (58, 99999), (59, 99999), (62, 99999), (63, 99999), (64, 99999)] h h' ∧ fz_Xd h' ∧ ∃ r : Int, r0 = some (fz_i r) ∧ ((-5) ≤ r ∧ r ≤ 39) ∧ (h' 53 42 ≤ h' 53 41) ∧ (fz_uM h h' r)
set_option maxHeartbeats 1000000 in
set_option maxRecDepth 100000 in
theorem sX11_undo (h : fz_H) (hI : fz_Iv h) (hXd : fz_Xd h) (hp0 : h 53 42 ≤ h 53 41) : fz_R 1 mX11_undo 0 [(0, fz_r 53)] [] h (qX11_undo h) := by
  have hf : fz_fr [(53, 8), (53, 9), (53, 42), (54, 99999), (57, 99999), (58, 99999), (59, 99999), (62, 99999), (63, 99999), (64, 99999)] h h := fz_fr_rf
  have b1 : 0 ≤ h 53 42 ∧ h 53 42 ≤ 40 := hI.1 53 _
  have b2 : 0 ≤ h 53 41 ∧ h 53 41 ≤ 40 := hI.1 53 _
  refine fz_aload_n kX11_undo rfl rfl ?_
  refine fz_getV (v := h 53 42) kX11_undo rfl rfl rfl ?_
  have b3 : 0 ≤ h 53 42 ∧ h 53 42 ≤ 40 := hI.1 53 _
  refine fz_if_ne (tgt := 10) kX11_undo rfl (by decide) (fun c4 => ?_) (fun c4 => ?_)
  · refine fz_aload_n kX11_undo rfl rfl ?_
    refine fz_dup rfl kX11_undo rfl ?_
    refine fz_getV (v := h 53 42) kX11_undo rfl rfl rfl ?_
    refine fz_iconst ⟨by decide, by decide⟩ kX11_undo rfl ?_
    refine fz_isubN kX11_undo rfl (by omega) ?_
    refine fz_putI kX11_undo rfl rfl rfl ?_
    refine fz_nmu (S := [(53, 8), (53, 9), (53, 42), (54, 99999), (57, 99999), (58, 99999), (59, 99999), (62, 99999), (63, 99999), (64, 99999)]) (h0 := h) (fz_Iv_up hI (by decide) (show (0 : Int) ≤ ((h 53 42) - 1) by omega) (show (((h 53 42) - 1) : Int) ≤ 40 by omega)) (fz_fr_up hf rfl) (fun H5 hI6 hf7 e8 => ?_)
    have k9 : H5 53 42 = ((h 53 42) - 1) := by rw [e8]; exact fz_up_e
    have hXd10 : fz_Xd H5 := fz_Xd_eq (by rw [e8]; exact fz_up_ne (by decide)) hXd
    refine fz_aload_n kX11_undo rfl rfl ?_
    refine fz_aload_n kX11_undo rfl rfl ?_
    refine fz_getR (t := 80) kX11_undo rfl rfl ?_
    refine fz_iconst ⟨by decide, by decide⟩ kX11_undo rfl ?_
    refine fz_aload_n kX11_undo rfl rfl ?_
    refine fz_getV (v := ((h 53 42) - 1)) kX11_undo rfl rfl k9 ?_
    refine fz_imulN kX11_undo rfl (by omega) ?_
    refine fz_ialdV (n := 160) (v := h 80 ((4 * ((h 53 42) - 1)).toNat)) kX11_undo rfl rfl (by omega) (by omega) (hf7 80 _ rfl) ?_
    have b11 : (-2147483648) ≤ h 80 ((4 * ((h 53 42) - 1)).toNat) ∧ h 80 ((4 * ((h 53 42) - 1)).toNat) ≤ 2147483647 := hI.1 80 _
    refine fz_aload_n kX11_undo rfl rfl ?_
    refine fz_getR (t := 80) kX11_undo rfl rfl ?_
    refine fz_iconst ⟨by decide, by decide⟩ kX11_undo rfl ?_
    refine fz_aload_n kX11_undo rfl rfl ?_
    refine fz_getV (v := ((h 53 42) - 1)) kX11_undo rfl rfl k9 ?_
    refine fz_imulN kX11_undo rfl (by omega) ?_
    refine fz_iconst ⟨by decide, by decide⟩ kX11_undo rfl ?_
    refine fz_iaddN kX11_undo rfl (by omega) ?_
    refine fz_ialdV (n := 160) (v := h 80 (((4 * ((h 53 42) - 1)) + 1).toNat)) kX11_undo rfl rfl (by omega) (by omega) (hf7 80 _ rfl) ?_
    have b12 : (-2147483648) ≤ h 80 (((4 * ((h 53 42) - 1)) + 1).toNat) ∧ h 80 (((4 * ((h 53 42) - 1)) + 1).toNat) ≤ 2147483647 := hI.1 80 _
    refine fz_aload_n kX11_undo rfl rfl ?_
    refine fz_getR (t := 80) kX11_undo rfl rfl ?_
    refine fz_iconst ⟨by decide, by decide⟩ kX11_undo rfl ?_
    refine fz_aload_n kX11_undo rfl rfl ?_
    refine fz_getV (v := ((h 53 42) - 1)) kX11_undo rfl rfl k9 ?_
    refine fz_imulN kX11_undo rfl (by omega) ?_
    refine fz_iconst ⟨by decide, by decide⟩ kX11_undo rfl ?_
    refine fz_iaddN kX11_undo rfl (by omega) ?_
    refine fz_ialdV (n := 160) (v := h 80 (((4 * ((h 53 42) - 1)) + 2).toNat)) kX11_undo rfl rfl (by omega) (by omega) (hf7 80 _ rfl) ?_
    have b13 : (-2147483648) ≤ h 80 (((4 * ((h 53 42) - 1)) + 2).toNat) ∧ h 80 (((4 * ((h 53 42) - 1)) + 2).toNat) ≤ 2147483647 := hI.1 80 _
    have k14 : fz_om (h 80 ((4 * ((h 53 42) - 1)).toNat)) (h 80 (((4 * ((h 53 42) - 1)) + 1).toNat)) (h 80 (((4 * ((h 53 42) - 1)) + 2).toNat)) := fz_Xd_g1 hXd (by omega)
    have k16 := fz_om_b k14
    refine fz_callV (d' := 0) (M' := mX11_becomes) (As := [fz_i (h 80 ((4 * ((h 53 42) - 1)).toNat)), fz_i (h 80 (((4 * ((h 53 42) - 1)) + 1).toNat)), fz_i (h 80 (((4 * ((h 53 42) - 1)) + 2).toNat))]) (st := []) kX11_undo rfl rfl vX11_becomes rfl rfl rfl rfl (Nat.le_of_ble_eq_true rfl) (Nat.le_of_ble_eq_true rfl) (by decide) (sX11_becomes H5 hI6 (h 80 ((4 * ((h 53 42) - 1)).toNat)) (h 80 (((4 * ((h 53 42) - 1)) + 1).toNat)) (h 80 (((4 * ((h 53 42) - 1)) + 2).toNat)) (by omega) k14) (fun H17 r18 q19 o20 => ?_)
    obtain ⟨hI21, hf22, rfl, f23⟩ := q19
    clear o20
    have hf24 := fz_fr_tr hf7 hf22 (show fz_su [(53, 8), (53, 9), (54, 99999), (57, 99999), (58, 99999), (59, 99999), (62, 99999), (63, 99999), (64, 99999)] [(53, 8), (53, 9), (53, 42), (54, 99999), (57, 99999), (58, 99999), (59, 99999), (62, 99999), (63, 99999), (64, 99999)] = true from rfl)
    have k25 : H17 53 42 = ((h 53 42) - 1) := (hf22 53 42 rfl).trans k9
    have hXd26 : fz_Xd H17 := fz_Xd_eq (funext fun s => hf22 80 s rfl) hXd10
    have k27 : H17 53 41 = h 53 41 := hf24 53 41 rfl
    refine fz_aload_n kX11_undo rfl rfl ?_
    refine fz_getV (v := ((h 53 42) - 1)) kX11_undo rfl rfl k25 ?_
    exact fz_iret kX11_undo rfl rfl (fun _ => ⟨hI21, hf24, hXd26, _, rfl, (by omega), (by omega), (by first | exact Or.inl ⟨by omega, by omega, rfl⟩ | exact fz_uM_in e8 rfl (by omega) (by omega) f23 rfl rfl rfl (by omega) (by omega) (by omega))⟩)
  · refine fz_bipush ⟨by decide, by decide⟩ kX11_undo rfl ?_
    exact fz_iret kX11_undo rfl rfl (fun _ => ⟨hI, hf, hXd, _, rfl, (by omega), (by omega), (by first | exact Or.inl ⟨by omega, by omega, rfl⟩ | exact fz_uM_in lost rfl (by omega) (by omega) lost rfl rfl rfl (by omega) (by omega) (by omega))⟩)

abbrev qX11_redo (h : fz_H) : fz_H → Option fz_V → Prop := fun h' r0 => fz_Iv h' ∧ fz_fr [(53, 8), (53, 9), (53, 42), (54, 99999), (57, 99999), (58, 99999), (59, 99999), (62, 99999), (63, 99999), (64, 99999)] h h' ∧ fz_Xd h' ∧ ∃ r : Int, r0 = some (fz_i r) ∧ ((-40) ≤ r ∧ r ≤ 39) ∧ (h' 53 42 ≤ h' 53 41) ∧ (fz_xM h h' r)
set_option maxHeartbeats 1000000 in
set_option maxRecDepth 100000 in
theorem sX11_redo (h : fz_H) (hI : fz_Iv h) (hXd : fz_Xd h) (hp0 : h 53 42 ≤ h 53 41) : fz_R 1 mX11_redo 0 [(0, fz_r 53)] [] h (qX11_redo h) := by
  have hf : fz_fr [(53, 8), (53, 9), (53, 42), (54, 99999), (57, 99999), (58, 99999), (59, 99999), (62, 99999), (63, 99999), (64, 99999)] h h := fz_fr_rf
  have b1 : 0 ≤ h 53 42 ∧ h 53 42 ≤ 40 := hI.1 53 _
  have b2 : 0 ≤ h 53 41 ∧ h 53 41 ≤ 40 := hI.1 53 _
  refine fz_aload_n kX11_redo rfl rfl ?_
  refine fz_getV (v := h 53 42) kX11_redo rfl rfl rfl ?_
  have b3 : 0 ≤ h 53 42 ∧ h 53 42 ≤ 40 := hI.1 53 _
  refine fz_aload_n kX11_redo rfl rfl ?_
  refine fz_getV (v := h 53 41) kX11_redo rfl rfl rfl ?_
  have b4 : 0 ≤ h 53 41 ∧ h 53 41 ≤ 40 := hI.1 53 _
  refine fz_icmp_ne (tgt := 14) kX11_redo rfl (by decide) (fun c5 => ?_) (fun c5 => ?_)
  · refine fz_aload_n kX11_redo rfl rfl ?_
    refine fz_aload_n kX11_redo rfl rfl ?_
    refine fz_getR (t := 80) kX11_redo rfl rfl ?_
    refine fz_iconst ⟨by decide, by decide⟩ kX11_redo rfl ?_
    refine fz_aload_n kX11_redo rfl rfl ?_
    refine fz_getV (v := h 53 42) kX11_redo rfl rfl rfl ?_
    refine fz_imulN kX11_redo rfl (by omega) ?_
    refine fz_ialdV (n := 160) (v := h 80 ((4 * (h 53 42)).toNat)) kX11_redo rfl rfl (by omega) (by omega) rfl ?_
    have b6 : (-2147483648) ≤ h 80 ((4 * (h 53 42)).toNat) ∧ h 80 ((4 * (h 53 42)).toNat) ≤ 2147483647 := hI.1 80 _
    refine fz_aload_n kX11_redo rfl rfl ?_
    refine fz_getR (t := 80) kX11_redo rfl rfl ?_
    refine fz_iconst ⟨by decide, by decide⟩ kX11_redo rfl ?_
    refine fz_aload_n kX11_redo rfl rfl ?_
    refine fz_getV (v := h 53 42) kX11_redo rfl rfl rfl ?_
    refine fz_imulN kX11_redo rfl (by omega) ?_
    refine fz_iconst ⟨by decide, by decide⟩ kX11_redo rfl ?_
    refine fz_iaddN kX11_redo rfl (by omega) ?_
    refine fz_ialdV (n := 160) (v := h 80 (((4 * (h 53 42)) + 1).toNat)) kX11_redo rfl rfl (by omega) (by omega) rfl ?_
    have b7 : (-2147483648) ≤ h 80 (((4 * (h 53 42)) + 1).toNat) ∧ h 80 (((4 * (h 53 42)) + 1).toNat) ≤ 2147483647 := hI.1 80 _
    refine fz_aload_n kX11_redo rfl rfl ?_
    refine fz_getR (t := 80) kX11_redo rfl rfl ?_
    refine fz_iconst ⟨by decide, by decide⟩ kX11_redo rfl ?_
    refine fz_aload_n kX11_redo rfl rfl ?_
    refine fz_getV (v := h 53 42) kX11_redo rfl rfl rfl ?_
    refine fz_imulN kX11_redo rfl (by omega) ?_
    refine fz_iconst ⟨by decide, by decide⟩ kX11_redo rfl ?_
    refine fz_iaddN kX11_redo rfl (by omega) ?_
    refine fz_ialdV (n := 160) (v := h 80 (((4 * (h 53 42)) + 3).toNat)) kX11_redo rfl rfl (by omega) (by omega) rfl ?_
    have b8 : (-2147483648) ≤ h 80 (((4 * (h 53 42)) + 3).toNat) ∧ h 80 (((4 * (h 53 42)) + 3).toNat) ≤ 2147483647 := hI.1 80 _
    have k9 : fz_om (h 80 ((4 * (h 53 42)).toNat)) (h 80 (((4 * (h 53 42)) + 1).toNat)) (h 80 (((4 * (h 53 42)) + 3).toNat)) := fz_Xd_g2 hXd (by omega)
    have k11 := fz_om_b k9
    refine fz_callV (d' := 0) (M' := mX11_becomes) (As := [fz_i (h 80 ((4 * (h 53 42)).toNat)), fz_i (h 80 (((4 * (h 53 42)) + 1).toNat)), fz_i (h 80 (((4 * (h 53 42)) + 3).toNat))]) (st := []) kX11_redo rfl rfl vX11_becomes rfl rfl rfl rfl (Nat.le_of_ble_eq_true rfl) (Nat.le_of_ble_eq_true rfl) (by decide) (sX11_becomes h hI (h 80 ((4 * (h 53 42)).toNat)) (h 80 (((4 * (h 53 42)) + 1).toNat)) (h 80 (((4 * (h 53 42)) + 3).toNat)) (by omega) k9) (fun H12 r13 q14 o15 => ?_)
    obtain ⟨hI16, hf17, rfl, f18⟩ := q14
    clear o15
    have hf19 := fz_fr_tr hf hf17 (show fz_su [(53, 8), (53, 9), (54, 99999), (57, 99999), (58, 99999), (59, 99999), (62, 99999), (63, 99999), (64, 99999)] [(53, 8), (53, 9), (53, 42), (54, 99999), (57, 99999), (58, 99999), (59, 99999), (62, 99999), (63, 99999), (64, 99999)] = true from rfl)
    have k20 : H12 53 42 = (h 53 42) := (hf17 53 42 rfl).trans rfl
    have hXd21 : fz_Xd H12 := fz_Xd_eq (funext fun s => hf17 80 s rfl) hXd
    refine fz_aload_n kX11_redo rfl rfl ?_
    refine fz_dup rfl kX11_redo rfl ?_
    refine fz_getV (v := (h 53 42)) kX11_redo rfl rfl k20 ?_
    refine fz_iconst ⟨by decide, by decide⟩ kX11_redo rfl ?_
    refine fz_iaddN kX11_redo rfl (by omega) ?_
    refine fz_putI kX11_redo rfl rfl rfl ?_
    refine fz_nmu (S := [(53, 8), (53, 9), (53, 42), (54, 99999), (57, 99999), (58, 99999), (59, 99999), (62, 99999), (63, 99999), (64, 99999)]) (h0 := h) (fz_Iv_up hI16 (by decide) (show (0 : Int) ≤ ((h 53 42) + 1) by omega) (show (((h 53 42) + 1) : Int) ≤ 40 by omega)) (fz_fr_up hf19 rfl) (fun H22 hI23 hf24 e25 => ?_)
    have k26 : H22 53 42 = ((h 53 42) + 1) := by rw [e25]; exact fz_up_e
    have hXd27 : fz_Xd H22 := fz_Xd_eq (by rw [e25]; exact fz_up_ne (by decide)) hXd21
    have k28 : H22 53 41 = h 53 41 := hf24 53 41 rfl
    refine fz_aload_n kX11_redo rfl rfl ?_
    refine fz_getV (v := h 53 41) kX11_redo rfl rfl (hf24 53 41 rfl) ?_
    refine fz_aload_n kX11_redo rfl rfl ?_
    refine fz_getV (v := ((h 53 42) + 1)) kX11_redo rfl rfl k26 ?_
    refine fz_isubN kX11_redo rfl (by omega) ?_
    exact fz_iret kX11_redo rfl rfl (fun _ => ⟨hI23, hf24, hXd27, _, rfl, (by omega), (by omega), (by first | exact Or.inl ⟨by omega, by omega, rfl⟩ | exact fz_vM_in f18 e25 (by omega) (by omega) (by omega) rfl rfl rfl (by omega) (by omega) (by omega))⟩)
  · refine fz_bipush ⟨by decide, by decide⟩ kX11_redo rfl ?_
    exact fz_iret kX11_redo rfl rfl (fun _ => ⟨hI, hf, hXd, _, rfl, (by omega), (by omega), (by first | exact Or.inl ⟨by omega, by omega, rfl⟩ | exact fz_vM_in lost lost (by omega) (by omega) (by omega) rfl rfl rfl (by omega) (by omega) (by omega))⟩)
